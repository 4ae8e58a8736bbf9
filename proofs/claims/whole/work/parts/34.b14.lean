-- 211 ClashDayModel.reckons(III)J
theorem k211 : mRk 211 = 4 := by decide +kernel
theorem f211_0 : mFetch 211 0 = some (.aload_n 0, 1, 0, 0, 0, 0) := by decide +kernel
theorem f211_1 : mFetch 211 1 = some (.iconst 0, 1, 0, 0, 0, 0) := by decide +kernel
theorem f211_2 : mFetch 211 2 = some (.putfield 300, 3, 12, 18, 0, 1) := by decide +kernel
theorem f211_5 : mFetch 211 5 = some (.iload_n 2, 1, 0, 0, 0, 0) := by decide +kernel
theorem f211_6 : mFetch 211 6 = some (.istore 4, 2, 0, 0, 0, 0) := by decide +kernel
theorem f211_8 : mFetch 211 8 = some (.iload 4, 2, 0, 0, 0, 0) := by decide +kernel
theorem f211_10 : mFetch 211 10 = some (.iload_n 3, 1, 0, 0, 0, 0) := by decide +kernel
theorem f211_11 : mFetch 211 11 = some (.if_icmp .ge 124, 3, 135, 0, 0, 0) := by decide +kernel
theorem f211_14 : mFetch 211 14 = some (.aload_n 0, 1, 0, 0, 0, 0) := by decide +kernel
theorem f211_15 : mFetch 211 15 = some (.getfield 13, 3, 12, 3, 2, 1) := by decide +kernel
theorem f211_18 : mFetch 211 18 = some (.sipush 400, 3, 0, 0, 0, 0) := by decide +kernel
theorem f211_21 : mFetch 211 21 = some (.iload_n 1, 1, 0, 0, 0, 0) := by decide +kernel
theorem f211_22 : mFetch 211 22 = some (.imul, 1, 0, 0, 0, 0) := by decide +kernel
theorem f211_23 : mFetch 211 23 = some (.iload 4, 2, 0, 0, 0, 0) := by decide +kernel
theorem f211_25 : mFetch 211 25 = some (.iadd, 1, 0, 0, 0, 0) := by decide +kernel
theorem f211_26 : mFetch 211 26 = some (.iaload, 1, 0, 0, 0, 0) := by decide +kernel
theorem f211_27 : mFetch 211 27 = some (.bipush 15, 2, 0, 0, 0, 0) := by decide +kernel
theorem f211_29 : mFetch 211 29 = some (.iand, 1, 0, 0, 0, 0) := by decide +kernel
theorem f211_30 : mFetch 211 30 = some (.istore 5, 2, 0, 0, 0, 0) := by decide +kernel
theorem f211_32 : mFetch 211 32 = some (.aload_n 0, 1, 0, 0, 0, 0) := by decide +kernel
theorem f211_33 : mFetch 211 33 = some (.getfield 13, 3, 12, 3, 2, 1) := by decide +kernel
theorem f211_36 : mFetch 211 36 = some (.sipush 400, 3, 0, 0, 0, 0) := by decide +kernel
theorem f211_39 : mFetch 211 39 = some (.iload_n 1, 1, 0, 0, 0, 0) := by decide +kernel
theorem f211_40 : mFetch 211 40 = some (.imul, 1, 0, 0, 0, 0) := by decide +kernel
theorem f211_41 : mFetch 211 41 = some (.iload 4, 2, 0, 0, 0, 0) := by decide +kernel
theorem f211_43 : mFetch 211 43 = some (.iadd, 1, 0, 0, 0, 0) := by decide +kernel
theorem f211_44 : mFetch 211 44 = some (.iaload, 1, 0, 0, 0, 0) := by decide +kernel
theorem f211_45 : mFetch 211 45 = some (.iconst 4, 1, 0, 0, 0, 0) := by decide +kernel
theorem f211_46 : mFetch 211 46 = some (.ishr, 1, 0, 0, 0, 0) := by decide +kernel
theorem f211_47 : mFetch 211 47 = some (.istore 6, 2, 0, 0, 0, 0) := by decide +kernel
theorem f211_49 : mFetch 211 49 = some (.iload 5, 2, 0, 0, 0, 0) := by decide +kernel
theorem f211_51 : mFetch 211 51 = some (.ifCond .ne 13, 3, 64, 0, 0, 0) := by decide +kernel
theorem f211_54 : mFetch 211 54 = some (.aload_n 0, 1, 0, 0, 0, 0) := by decide +kernel
theorem f211_55 : mFetch 211 55 = some (.iload 6, 2, 0, 0, 0, 0) := by decide +kernel
theorem f211_57 : mFetch 211 57 = some (.i2l, 1, 0, 0, 0, 0) := by decide +kernel
theorem f211_58 : mFetch 211 58 = some (.invokevirtual 303, 3, 208, 0, 2, 12) := by decide +kernel
theorem f211_61 : mFetch 211 61 = some (.goto 68, 3, 129, 0, 0, 0) := by decide +kernel
theorem f211_64 : mFetch 211 64 = some (.iload 5, 2, 0, 0, 0, 0) := by decide +kernel
theorem f211_66 : mFetch 211 66 = some (.iconst 1, 1, 0, 0, 0, 0) := by decide +kernel
theorem f211_67 : mFetch 211 67 = some (.if_icmp .ne 17, 3, 84, 0, 0, 0) := by decide +kernel
theorem f211_70 : mFetch 211 70 = some (.aload_n 0, 1, 0, 0, 0, 0) := by decide +kernel
theorem f211_71 : mFetch 211 71 = some (.aload_n 0, 1, 0, 0, 0, 0) := by decide +kernel
theorem f211_72 : mFetch 211 72 = some (.getfield 36, 3, 12, 19, 2, 1) := by decide +kernel
theorem f211_75 : mFetch 211 75 = some (.iload 6, 2, 0, 0, 0, 0) := by decide +kernel
theorem f211_77 : mFetch 211 77 = some (.laload, 1, 0, 0, 0, 0) := by decide +kernel
theorem f211_78 : mFetch 211 78 = some (.invokevirtual 303, 3, 208, 0, 2, 12) := by decide +kernel
theorem f211_81 : mFetch 211 81 = some (.goto 48, 3, 129, 0, 0, 0) := by decide +kernel
theorem f211_84 : mFetch 211 84 = some (.iload 5, 2, 0, 0, 0, 0) := by decide +kernel
theorem f211_86 : mFetch 211 86 = some (.bipush 11, 2, 0, 0, 0, 0) := by decide +kernel
theorem f211_88 : mFetch 211 88 = some (.if_icmp .ne 16, 3, 104, 0, 0, 0) := by decide +kernel
theorem f211_91 : mFetch 211 91 = some (.aload_n 0, 1, 0, 0, 0, 0) := by decide +kernel
theorem f211_92 : mFetch 211 92 = some (.lconst 1, 1, 0, 0, 0, 0) := by decide +kernel
theorem f211_93 : mFetch 211 93 = some (.aload_n 0, 1, 0, 0, 0, 0) := by decide +kernel
theorem f211_94 : mFetch 211 94 = some (.invokevirtual 307, 3, 209, 0, 1, 12) := by decide +kernel
theorem f211_97 : mFetch 211 97 = some (.lsub, 1, 0, 0, 0, 0) := by decide +kernel
theorem f211_98 : mFetch 211 98 = some (.invokevirtual 303, 3, 208, 0, 2, 12) := by decide +kernel
theorem f211_101 : mFetch 211 101 = some (.goto 28, 3, 129, 0, 0, 0) := by decide +kernel
theorem f211_104 : mFetch 211 104 = some (.aload_n 0, 1, 0, 0, 0, 0) := by decide +kernel
theorem f211_105 : mFetch 211 105 = some (.invokevirtual 307, 3, 209, 0, 1, 12) := by decide +kernel
theorem f211_108 : mFetch 211 108 = some (.lstore 7, 2, 0, 0, 0, 0) := by decide +kernel
theorem f211_110 : mFetch 211 110 = some (.aload_n 0, 1, 0, 0, 0, 0) := by decide +kernel
theorem f211_111 : mFetch 211 111 = some (.invokevirtual 307, 3, 209, 0, 1, 12) := by decide +kernel
theorem f211_114 : mFetch 211 114 = some (.lstore 9, 2, 0, 0, 0, 0) := by decide +kernel
theorem f211_116 : mFetch 211 116 = some (.aload_n 0, 1, 0, 0, 0, 0) := by decide +kernel
theorem f211_117 : mFetch 211 117 = some (.iload 5, 2, 0, 0, 0, 0) := by decide +kernel
theorem f211_119 : mFetch 211 119 = some (.lload 9, 2, 0, 0, 0, 0) := by decide +kernel
theorem f211_121 : mFetch 211 121 = some (.lload 7, 2, 0, 0, 0, 0) := by decide +kernel
theorem f211_123 : mFetch 211 123 = some (.invokestatic 311, 3, 210, 0, 3, 99) := by decide +kernel
theorem f211_126 : mFetch 211 126 = some (.invokevirtual 303, 3, 208, 0, 2, 12) := by decide +kernel
theorem f211_129 : mFetch 211 129 = some (.iinc 4 1, 3, 0, 0, 0, 0) := by decide +kernel
theorem f211_132 : mFetch 211 132 = some (.goto (-124), 3, 8, 0, 0, 0) := by decide +kernel
theorem f211_135 : mFetch 211 135 = some (.aload_n 0, 1, 0, 0, 0, 0) := by decide +kernel
theorem f211_136 : mFetch 211 136 = some (.invokevirtual 307, 3, 209, 0, 1, 12) := by decide +kernel
theorem f211_139 : mFetch 211 139 = some (.lreturn, 1, 0, 0, 0, 0) := by decide +kernel
theorem b211_0 {X : (Nat → Int) × Nat} {d : Nat} {s : mSt} {Q : mQ} {x1 : Int} {x2 : Int} {x3 : Int} {l4 : Option mV} {l5 : Option mV} {l6 : Option mV} {l7 : Option mV} {l8 : Option mV} {l9 : Option mV} {l10 : Option mV} (h_1 : Wp X d 211 8 [some (mR 407), some (mI x1), some (mI x2), some (mI x3), some (mI x2), l5, l6, l7, l8, l9, l10] [] (uS s 407 18 0) Q) : Wp X d 211 0 [some (mR 407), some (mI x1), some (mI x2), some (mI x3), l4, l5, l6, l7, l8, l9, l10] [] s Q := Wp_step k211 f211_0 (Wp_step k211 f211_1 (Wp_step k211 f211_2 ⟨kf_407, Wp_step k211 f211_5 (Wp_step k211 f211_6 (h_1))⟩))
theorem b211_8 {X : (Nat → Int) × Nat} {d : Nat} {s : mSt} {Q : mQ} {x1 : Int} {x2 : Int} {x3 : Int} {x4 : Int} {l5 : Option mV} {l6 : Option mV} {l7 : Option mV} {l8 : Option mV} {l9 : Option mV} {l10 : Option mV} (h_1 : x3 ≤ x4 → Wp X d 211 135 [some (mR 407), some (mI x1), some (mI x2), some (mI x3), some (mI x4), l5, l6, l7, l8, l9, l10] [] s Q) (h_2 : ¬ x3 ≤ x4 → Wp X d 211 14 [some (mR 407), some (mI x1), some (mI x2), some (mI x3), some (mI x4), l5, l6, l7, l8, l9, l10] [] s Q) : Wp X d 211 8 [some (mR 407), some (mI x1), some (mI x2), some (mI x3), some (mI x4), l5, l6, l7, l8, l9, l10] [] s Q := Wp_step k211 f211_8 (Wp_step k211 f211_10 (Wp_step k211 f211_11 ⟨h_1, h_2⟩))
theorem b211_14 {X : (Nat → Int) × Nat} {d : Nat} {s : mSt} {Q : mQ} {x1 : Int} {x2 : Int} {x3 : Int} {x4 : Int} {l5 : Option mV} {l6 : Option mV} {l7 : Option mV} {l8 : Option mV} {l9 : Option mV} {l10 : Option mV} (h_1 : 0 ≤ (w32 ((w32 (400 * x1)) + x4)) ∧ (w32 ((w32 (400 * x1)) + x4)) < 2400) (h_2 : 0 ≤ (w32 ((w32 (400 * x1)) + x4)) ∧ (w32 ((w32 (400 * x1)) + x4)) < 2400) (h_3 : ¬ (iAnd (s 409 (w32 ((w32 (400 * x1)) + x4)).toNat) 15) = 0 → Wp X d 211 64 [some (mR 407), some (mI x1), some (mI x2), some (mI x3), some (mI x4), some (mI (iAnd (s 409 (w32 ((w32 (400 * x1)) + x4)).toNat) 15)), some (mI (iShr (s 409 (w32 ((w32 (400 * x1)) + x4)).toNat) 4)), l7, l8, l9, l10] [] s Q) (h_4 : (iAnd (s 409 (w32 ((w32 (400 * x1)) + x4)).toNat) 15) = 0 → Wp X d 211 54 [some (mR 407), some (mI x1), some (mI x2), some (mI x3), some (mI x4), some (mI (iAnd (s 409 (w32 ((w32 (400 * x1)) + x4)).toNat) 15)), some (mI (iShr (s 409 (w32 ((w32 (400 * x1)) + x4)).toNat) 4)), l7, l8, l9, l10] [] s Q) : Wp X d 211 14 [some (mR 407), some (mI x1), some (mI x2), some (mI x3), some (mI x4), l5, l6, l7, l8, l9, l10] [] s Q := Wp_step k211 f211_14 (Wp_step k211 f211_15 ⟨kf_407, 409, rf_407_3, Wp_step k211 f211_18 (Wp_step k211 f211_21 (Wp_step k211 f211_22 (Wp_step k211 f211_23 (Wp_step k211 f211_25 (Wp_step k211 f211_26 ⟨2400, af_409, h_1, Wp_step k211 f211_27 (Wp_step k211 f211_29 (Wp_step k211 f211_30 (Wp_step k211 f211_32 (Wp_step k211 f211_33 ⟨kf_407, 409, rf_407_3, Wp_step k211 f211_36 (Wp_step k211 f211_39 (Wp_step k211 f211_40 (Wp_step k211 f211_41 (Wp_step k211 f211_43 (Wp_step k211 f211_44 ⟨2400, af_409, h_2, Wp_step k211 f211_45 (Wp_step k211 f211_46 (Wp_step k211 f211_47 (Wp_step k211 f211_49 (Wp_step k211 f211_51 ⟨h_3, h_4⟩))))⟩)))))⟩))))⟩)))))⟩)
theorem b211_54 {X : (Nat → Int) × Nat} {d : Nat} {s : mSt} {Q : mQ} {x1 : Int} {x2 : Int} {x3 : Int} {x4 : Int} {x5 : Int} {x6 : Int} {l7 : Option mV} {l8 : Option mV} {l9 : Option mV} {l10 : Option mV} (h_1 : Sp X d 208 [mR 407, mJ x6] s (fun r s' => r = none ∧ Wp X (d + 1) 211 61 [some (mR 407), some (mI x1), some (mI x2), some (mI x3), some (mI x4), some (mI x5), some (mI x6), l7, l8, l9, l10] [] s' Q)) : Wp X (d + 1) 211 54 [some (mR 407), some (mI x1), some (mI x2), some (mI x3), some (mI x4), some (mI x5), some (mI x6), l7, l8, l9, l10] [] s Q := Wp_step k211 f211_54 (Wp_step k211 f211_55 (Wp_step k211 f211_57 (Wp_step k211 f211_58 ⟨⟨kf_407, Nat.le_of_ble_eq_true rfl⟩, Nat.le_refl _, _, rfl, Sp_V h_1⟩)))
theorem b211_61 {X : (Nat → Int) × Nat} {d : Nat} {s : mSt} {Q : mQ} {x1 : Int} {x2 : Int} {x3 : Int} {x4 : Int} {x5 : Int} {x6 : Int} {l7 : Option mV} {l8 : Option mV} {l9 : Option mV} {l10 : Option mV} (h_1 : Wp X d 211 129 [some (mR 407), some (mI x1), some (mI x2), some (mI x3), some (mI x4), some (mI x5), some (mI x6), l7, l8, l9, l10] [] s Q) : Wp X d 211 61 [some (mR 407), some (mI x1), some (mI x2), some (mI x3), some (mI x4), some (mI x5), some (mI x6), l7, l8, l9, l10] [] s Q := Wp_step k211 f211_61 (h_1)
theorem b211_64 {X : (Nat → Int) × Nat} {d : Nat} {s : mSt} {Q : mQ} {x1 : Int} {x2 : Int} {x3 : Int} {x4 : Int} {x5 : Int} {x6 : Int} {l7 : Option mV} {l8 : Option mV} {l9 : Option mV} {l10 : Option mV} (h_1 : ¬ x5 = 1 → Wp X d 211 84 [some (mR 407), some (mI x1), some (mI x2), some (mI x3), some (mI x4), some (mI x5), some (mI x6), l7, l8, l9, l10] [] s Q) (h_2 : x5 = 1 → Wp X d 211 70 [some (mR 407), some (mI x1), some (mI x2), some (mI x3), some (mI x4), some (mI x5), some (mI x6), l7, l8, l9, l10] [] s Q) : Wp X d 211 64 [some (mR 407), some (mI x1), some (mI x2), some (mI x3), some (mI x4), some (mI x5), some (mI x6), l7, l8, l9, l10] [] s Q := Wp_step k211 f211_64 (Wp_step k211 f211_66 (Wp_step k211 f211_67 ⟨h_1, h_2⟩))
theorem b211_70 {X : (Nat → Int) × Nat} {d : Nat} {s : mSt} {Q : mQ} {x1 : Int} {x2 : Int} {x3 : Int} {x4 : Int} {x5 : Int} {x6 : Int} {l7 : Option mV} {l8 : Option mV} {l9 : Option mV} {l10 : Option mV} (h_1 : 0 ≤ x6 ∧ x6 < 11) (h_2 : Sp X d 208 [mR 407, mJ (s 416 x6.toNat)] s (fun r s' => r = none ∧ Wp X (d + 1) 211 81 [some (mR 407), some (mI x1), some (mI x2), some (mI x3), some (mI x4), some (mI x5), some (mI x6), l7, l8, l9, l10] [] s' Q)) : Wp X (d + 1) 211 70 [some (mR 407), some (mI x1), some (mI x2), some (mI x3), some (mI x4), some (mI x5), some (mI x6), l7, l8, l9, l10] [] s Q := Wp_step k211 f211_70 (Wp_step k211 f211_71 (Wp_step k211 f211_72 ⟨kf_407, 416, rf_407_19, Wp_step k211 f211_75 (Wp_step k211 f211_77 ⟨11, af_416, h_1, Wp_step k211 f211_78 ⟨⟨kf_407, Nat.le_of_ble_eq_true rfl⟩, Nat.le_refl _, _, rfl, Sp_V h_2⟩⟩)⟩))
theorem b211_81 {X : (Nat → Int) × Nat} {d : Nat} {s : mSt} {Q : mQ} {x1 : Int} {x2 : Int} {x3 : Int} {x4 : Int} {x5 : Int} {x6 : Int} {l7 : Option mV} {l8 : Option mV} {l9 : Option mV} {l10 : Option mV} (h_1 : Wp X d 211 129 [some (mR 407), some (mI x1), some (mI x2), some (mI x3), some (mI x4), some (mI x5), some (mI x6), l7, l8, l9, l10] [] s Q) : Wp X d 211 81 [some (mR 407), some (mI x1), some (mI x2), some (mI x3), some (mI x4), some (mI x5), some (mI x6), l7, l8, l9, l10] [] s Q := Wp_step k211 f211_81 (h_1)
theorem b211_84 {X : (Nat → Int) × Nat} {d : Nat} {s : mSt} {Q : mQ} {x1 : Int} {x2 : Int} {x3 : Int} {x4 : Int} {x5 : Int} {x6 : Int} {l7 : Option mV} {l8 : Option mV} {l9 : Option mV} {l10 : Option mV} (h_1 : ¬ x5 = 11 → Wp X d 211 104 [some (mR 407), some (mI x1), some (mI x2), some (mI x3), some (mI x4), some (mI x5), some (mI x6), l7, l8, l9, l10] [] s Q) (h_2 : x5 = 11 → Wp X d 211 91 [some (mR 407), some (mI x1), some (mI x2), some (mI x3), some (mI x4), some (mI x5), some (mI x6), l7, l8, l9, l10] [] s Q) : Wp X d 211 84 [some (mR 407), some (mI x1), some (mI x2), some (mI x3), some (mI x4), some (mI x5), some (mI x6), l7, l8, l9, l10] [] s Q := Wp_step k211 f211_84 (Wp_step k211 f211_86 (Wp_step k211 f211_88 ⟨h_1, h_2⟩))
theorem b211_91 {X : (Nat → Int) × Nat} {d : Nat} {s : mSt} {Q : mQ} {x1 : Int} {x2 : Int} {x3 : Int} {x4 : Int} {x5 : Int} {x6 : Int} {l7 : Option mV} {l8 : Option mV} {l9 : Option mV} {l10 : Option mV} (h_1 : Sp X d 209 [mR 407] s (fun r s' => ∃ v : Int, r = some (mJ v) ∧ Wp X (d + 1) 211 97 [some (mR 407), some (mI x1), some (mI x2), some (mI x3), some (mI x4), some (mI x5), some (mI x6), l7, l8, l9, l10] [mJ v, mJ 1, mR 407] s' Q)) : Wp X (d + 1) 211 91 [some (mR 407), some (mI x1), some (mI x2), some (mI x3), some (mI x4), some (mI x5), some (mI x6), l7, l8, l9, l10] [] s Q := Wp_step k211 f211_91 (Wp_step k211 f211_92 (Wp_step k211 f211_93 (Wp_step k211 f211_94 ⟨⟨kf_407, Nat.le_of_ble_eq_true rfl⟩, Nat.le_refl _, _, rfl, Sp_E h_1⟩)))
theorem b211_97 {X : (Nat → Int) × Nat} {d : Nat} {s : mSt} {Q : mQ} {x1 : Int} {x2 : Int} {x3 : Int} {x4 : Int} {x5 : Int} {x6 : Int} {l7 : Option mV} {l8 : Option mV} {l9 : Option mV} {l10 : Option mV} {xt1 : Int} {xt2 : Int} (h_1 : Sp X d 208 [mR 407, mJ (w64 (xt1 - xt2))] s (fun r s' => r = none ∧ Wp X (d + 1) 211 101 [some (mR 407), some (mI x1), some (mI x2), some (mI x3), some (mI x4), some (mI x5), some (mI x6), l7, l8, l9, l10] [] s' Q)) : Wp X (d + 1) 211 97 [some (mR 407), some (mI x1), some (mI x2), some (mI x3), some (mI x4), some (mI x5), some (mI x6), l7, l8, l9, l10] [mJ xt2, mJ xt1, mR 407] s Q := Wp_step k211 f211_97 (Wp_step k211 f211_98 ⟨⟨kf_407, Nat.le_of_ble_eq_true rfl⟩, Nat.le_refl _, _, rfl, Sp_V h_1⟩)
theorem b211_101 {X : (Nat → Int) × Nat} {d : Nat} {s : mSt} {Q : mQ} {x1 : Int} {x2 : Int} {x3 : Int} {x4 : Int} {x5 : Int} {x6 : Int} {l7 : Option mV} {l8 : Option mV} {l9 : Option mV} {l10 : Option mV} (h_1 : Wp X d 211 129 [some (mR 407), some (mI x1), some (mI x2), some (mI x3), some (mI x4), some (mI x5), some (mI x6), l7, l8, l9, l10] [] s Q) : Wp X d 211 101 [some (mR 407), some (mI x1), some (mI x2), some (mI x3), some (mI x4), some (mI x5), some (mI x6), l7, l8, l9, l10] [] s Q := Wp_step k211 f211_101 (h_1)
theorem b211_104 {X : (Nat → Int) × Nat} {d : Nat} {s : mSt} {Q : mQ} {x1 : Int} {x2 : Int} {x3 : Int} {x4 : Int} {x5 : Int} {x6 : Int} {l7 : Option mV} {l8 : Option mV} {l9 : Option mV} {l10 : Option mV} (h_1 : Sp X d 209 [mR 407] s (fun r s' => ∃ v : Int, r = some (mJ v) ∧ Wp X (d + 1) 211 108 [some (mR 407), some (mI x1), some (mI x2), some (mI x3), some (mI x4), some (mI x5), some (mI x6), l7, l8, l9, l10] [mJ v] s' Q)) : Wp X (d + 1) 211 104 [some (mR 407), some (mI x1), some (mI x2), some (mI x3), some (mI x4), some (mI x5), some (mI x6), l7, l8, l9, l10] [] s Q := Wp_step k211 f211_104 (Wp_step k211 f211_105 ⟨⟨kf_407, Nat.le_of_ble_eq_true rfl⟩, Nat.le_refl _, _, rfl, Sp_E h_1⟩)
theorem b211_108 {X : (Nat → Int) × Nat} {d : Nat} {s : mSt} {Q : mQ} {x1 : Int} {x2 : Int} {x3 : Int} {x4 : Int} {x5 : Int} {x6 : Int} {l7 : Option mV} {l8 : Option mV} {l9 : Option mV} {l10 : Option mV} {xt0 : Int} (h_1 : Sp X d 209 [mR 407] s (fun r s' => ∃ v : Int, r = some (mJ v) ∧ Wp X (d + 1) 211 114 [some (mR 407), some (mI x1), some (mI x2), some (mI x3), some (mI x4), some (mI x5), some (mI x6), some (mJ xt0), none, l9, l10] [mJ v] s' Q)) : Wp X (d + 1) 211 108 [some (mR 407), some (mI x1), some (mI x2), some (mI x3), some (mI x4), some (mI x5), some (mI x6), l7, l8, l9, l10] [mJ xt0] s Q := Wp_step k211 f211_108 (Wp_step k211 f211_110 (Wp_step k211 f211_111 ⟨⟨kf_407, Nat.le_of_ble_eq_true rfl⟩, Nat.le_refl _, _, rfl, Sp_E h_1⟩))
theorem b211_114 {X : (Nat → Int) × Nat} {d : Nat} {s : mSt} {Q : mQ} {x1 : Int} {x2 : Int} {x3 : Int} {x4 : Int} {x5 : Int} {x6 : Int} {x7 : Int} {l8 : Option mV} {l9 : Option mV} {l10 : Option mV} {xt0 : Int} (h_1 : Sp X d 210 [mI x5, mJ xt0, mJ x7] s (fun r s' => ∃ v : Int, r = some (mJ v) ∧ Wp X (d + 1) 211 126 [some (mR 407), some (mI x1), some (mI x2), some (mI x3), some (mI x4), some (mI x5), some (mI x6), some (mJ x7), kL 0 l8, some (mJ xt0), none] [mJ v, mR 407] s' Q)) : Wp X (d + 1) 211 114 [some (mR 407), some (mI x1), some (mI x2), some (mI x3), some (mI x4), some (mI x5), some (mI x6), some (mJ x7), l8, l9, l10] [mJ xt0] s Q := Wp_step k211 f211_114 (Wp_step k211 f211_116 (Wp_step k211 f211_117 (Wp_step k211 f211_119 (Wp_step k211 f211_121 (Wp_step k211 f211_123 ⟨⟨Nat.le_of_ble_eq_true rfl, Nat.le_refl _⟩, _, rfl, Sp_E h_1⟩)))))
theorem b211_126 {X : (Nat → Int) × Nat} {d : Nat} {s : mSt} {Q : mQ} {x1 : Int} {x2 : Int} {x3 : Int} {x4 : Int} {x5 : Int} {x6 : Int} {x7 : Int} {l8 : Option mV} {x9 : Int} {l10 : Option mV} {xt1 : Int} (h_1 : Sp X d 208 [mR 407, mJ xt1] s (fun r s' => r = none ∧ Wp X (d + 1) 211 129 [some (mR 407), some (mI x1), some (mI x2), some (mI x3), some (mI x4), some (mI x5), some (mI x6), some (mJ x7), l8, some (mJ x9), l10] [] s' Q)) : Wp X (d + 1) 211 126 [some (mR 407), some (mI x1), some (mI x2), some (mI x3), some (mI x4), some (mI x5), some (mI x6), some (mJ x7), l8, some (mJ x9), l10] [mJ xt1, mR 407] s Q := Wp_step k211 f211_126 ⟨⟨kf_407, Nat.le_of_ble_eq_true rfl⟩, Nat.le_refl _, _, rfl, Sp_V h_1⟩
theorem b211_129 {X : (Nat → Int) × Nat} {d : Nat} {s : mSt} {Q : mQ} {x1 : Int} {x2 : Int} {x3 : Int} {x4 : Int} {x5 : Int} {x6 : Int} {l7 : Option mV} {l8 : Option mV} {l9 : Option mV} {l10 : Option mV} (h_1 : Wp X d 211 8 [some (mR 407), some (mI x1), some (mI x2), some (mI x3), some (mI (w32 (x4 + 1))), some (mI x5), some (mI x6), l7, l8, l9, l10] [] s Q) : Wp X d 211 129 [some (mR 407), some (mI x1), some (mI x2), some (mI x3), some (mI x4), some (mI x5), some (mI x6), l7, l8, l9, l10] [] s Q := Wp_step k211 f211_129 (Wp_step k211 f211_132 (h_1))
theorem b211_135 {X : (Nat → Int) × Nat} {d : Nat} {s : mSt} {Q : mQ} {x1 : Int} {x2 : Int} {x3 : Int} {x4 : Int} {l5 : Option mV} {l6 : Option mV} {l7 : Option mV} {l8 : Option mV} {l9 : Option mV} {l10 : Option mV} (h_1 : Sp X d 209 [mR 407] s (fun r s' => ∃ v : Int, r = some (mJ v) ∧ Wp X (d + 1) 211 139 [some (mR 407), some (mI x1), some (mI x2), some (mI x3), some (mI x4), l5, l6, l7, l8, l9, l10] [mJ v] s' Q)) : Wp X (d + 1) 211 135 [some (mR 407), some (mI x1), some (mI x2), some (mI x3), some (mI x4), l5, l6, l7, l8, l9, l10] [] s Q := Wp_step k211 f211_135 (Wp_step k211 f211_136 ⟨⟨kf_407, Nat.le_of_ble_eq_true rfl⟩, Nat.le_refl _, _, rfl, Sp_E h_1⟩)
theorem b211_139 {X : (Nat → Int) × Nat} {d : Nat} {s : mSt} {Q : mQ} {x1 : Int} {x2 : Int} {x3 : Int} {x4 : Int} {l5 : Option mV} {l6 : Option mV} {l7 : Option mV} {l8 : Option mV} {l9 : Option mV} {l10 : Option mV} {xt0 : Int} (h_1 : Q (some (mJ xt0)) s) : Wp X d 211 139 [some (mR 407), some (mI x1), some (mI x2), some (mI x3), some (mI x4), l5, l6, l7, l8, l9, l10] [mJ xt0] s Q := Wp_step k211 f211_139 ⟨⟨rfl, rfl⟩, h_1⟩
theorem e211 {X : (Nat → Int) × Nat} {d : Nat} {s : mSt} {Q : mQ} {x1 : Int} {x2 : Int} {x3 : Int} (h : Wp X d 211 0 [some (mR 407), some (mI x1), some (mI x2), some (mI x3), none, none, none, none, none, none, none] [] s Q) : Sp X d 211 [mR 407, mI x1, mI x2, mI x3] s Q := Sp_of (show mCe 211 = 0 by decide +kernel) (by rw [show mML 211 = 11 by decide +kernel]; rfl) (Nat.le_trans (Nat.le_of_ble_eq_true (show Nat.ble (mArgs _).length 11 = true from rfl)) (show 11 ≤ mML 211 by decide +kernel)) h
-- 212 ClashDayModel.isDay()Z
theorem k212 : mRk 212 = 2 := by decide +kernel
theorem f212_0 : mFetch 212 0 = some (.aload_n 0, 1, 0, 0, 0, 0) := by decide +kernel
theorem f212_1 : mFetch 212 1 = some (.getfield 39, 3, 12, 20, 2, 1) := by decide +kernel
theorem f212_4 : mFetch 212 4 = some (.iconst 0, 1, 0, 0, 0, 0) := by decide +kernel
theorem f212_5 : mFetch 212 5 = some (.iaload, 1, 0, 0, 0, 0) := by decide +kernel
theorem f212_6 : mFetch 212 6 = some (.iconst 1, 1, 0, 0, 0, 0) := by decide +kernel
theorem f212_7 : mFetch 212 7 = some (.if_icmp .ne 7, 3, 14, 0, 0, 0) := by decide +kernel
theorem f212_10 : mFetch 212 10 = some (.iconst 1, 1, 0, 0, 0, 0) := by decide +kernel
theorem f212_11 : mFetch 212 11 = some (.goto 4, 3, 15, 0, 0, 0) := by decide +kernel
theorem f212_14 : mFetch 212 14 = some (.iconst 0, 1, 0, 0, 0, 0) := by decide +kernel
theorem f212_15 : mFetch 212 15 = some (.ireturn, 1, 0, 0, 0, 0) := by decide +kernel
theorem b212_0 {X : (Nat → Int) × Nat} {d : Nat} {s : mSt} {Q : mQ} (h_1 : ¬ (s 417 0) = 1 → Wp X d 212 14 [some (mR 407)] [] s Q) (h_2 : (s 417 0) = 1 → Wp X d 212 10 [some (mR 407)] [] s Q) : Wp X d 212 0 [some (mR 407)] [] s Q := Wp_step k212 f212_0 (Wp_step k212 f212_1 ⟨kf_407, 417, rf_407_20, Wp_step k212 f212_4 (Wp_step k212 f212_5 ⟨166, af_417, ⟨by decide, by decide⟩, Wp_step k212 f212_6 (Wp_step k212 f212_7 ⟨h_1, h_2⟩)⟩)⟩)
theorem b212_10 {X : (Nat → Int) × Nat} {d : Nat} {s : mSt} {Q : mQ} (h_1 : Wp X d 212 15 [some (mR 407)] [mI 1] s Q) : Wp X d 212 10 [some (mR 407)] [] s Q := Wp_step k212 f212_10 (Wp_step k212 f212_11 (h_1))
theorem b212_14 {X : (Nat → Int) × Nat} {d : Nat} {s : mSt} {Q : mQ} (h_1 : Wp X d 212 15 [some (mR 407)] [mI 0] s Q) : Wp X d 212 14 [some (mR 407)] [] s Q := Wp_step k212 f212_14 (h_1)
theorem b212_15 {X : (Nat → Int) × Nat} {d : Nat} {s : mSt} {Q : mQ} {xt0 : Int} (h_1 : Q (some (mI xt0)) s) (h_2 : xt0 = 0 ∨ xt0 = 1) : Wp X d 212 15 [some (mR 407)] [mI xt0] s Q := Wp_step k212 f212_15 ⟨⟨rfl, h_2⟩, h_1⟩
theorem e212 {X : (Nat → Int) × Nat} {d : Nat} {s : mSt} {Q : mQ} (h : Wp X d 212 0 [some (mR 407)] [] s Q) : Sp X d 212 [mR 407] s Q := Sp_of (show mCe 212 = 0 by decide +kernel) (by rw [show mML 212 = 1 by decide +kernel]; rfl) (Nat.le_trans (Nat.le_of_ble_eq_true (show Nat.ble (mArgs _).length 1 = true from rfl)) (show 1 ≤ mML 212 by decide +kernel)) h
-- 213 ClashDayModel.isPaper(I)Z
theorem k213 : mRk 213 = 2 := by decide +kernel
theorem f213_0 : mFetch 213 0 = some (.iload_n 1, 1, 0, 0, 0, 0) := by decide +kernel
theorem f213_1 : mFetch 213 1 = some (.ifCond .lt 17, 3, 18, 0, 0, 0) := by decide +kernel
theorem f213_4 : mFetch 213 4 = some (.iload_n 1, 1, 0, 0, 0, 0) := by decide +kernel
theorem f213_5 : mFetch 213 5 = some (.aload_n 0, 1, 0, 0, 0, 0) := by decide +kernel
theorem f213_6 : mFetch 213 6 = some (.getfield 39, 3, 12, 20, 2, 1) := by decide +kernel
theorem f213_9 : mFetch 213 9 = some (.iconst 3, 1, 0, 0, 0, 0) := by decide +kernel
theorem f213_10 : mFetch 213 10 = some (.iaload, 1, 0, 0, 0, 0) := by decide +kernel
theorem f213_11 : mFetch 213 11 = some (.if_icmp .ge 7, 3, 18, 0, 0, 0) := by decide +kernel
theorem f213_14 : mFetch 213 14 = some (.iconst 1, 1, 0, 0, 0, 0) := by decide +kernel
theorem f213_15 : mFetch 213 15 = some (.goto 4, 3, 19, 0, 0, 0) := by decide +kernel
theorem f213_18 : mFetch 213 18 = some (.iconst 0, 1, 0, 0, 0, 0) := by decide +kernel
theorem f213_19 : mFetch 213 19 = some (.ireturn, 1, 0, 0, 0, 0) := by decide +kernel
theorem b213_0 {X : (Nat → Int) × Nat} {d : Nat} {s : mSt} {Q : mQ} {x1 : Int} (h_1 : x1 < 0 → Wp X d 213 18 [some (mR 407), some (mI x1)] [] s Q) (h_2 : ¬ x1 < 0 → Wp X d 213 4 [some (mR 407), some (mI x1)] [] s Q) : Wp X d 213 0 [some (mR 407), some (mI x1)] [] s Q := Wp_step k213 f213_0 (Wp_step k213 f213_1 ⟨h_1, h_2⟩)
theorem b213_4 {X : (Nat → Int) × Nat} {d : Nat} {s : mSt} {Q : mQ} {x1 : Int} (h_1 : (s 417 3) ≤ x1 → Wp X d 213 18 [some (mR 407), some (mI x1)] [] s Q) (h_2 : ¬ (s 417 3) ≤ x1 → Wp X d 213 14 [some (mR 407), some (mI x1)] [] s Q) : Wp X d 213 4 [some (mR 407), some (mI x1)] [] s Q := Wp_step k213 f213_4 (Wp_step k213 f213_5 (Wp_step k213 f213_6 ⟨kf_407, 417, rf_407_20, Wp_step k213 f213_9 (Wp_step k213 f213_10 ⟨166, af_417, ⟨by decide, by decide⟩, Wp_step k213 f213_11 ⟨h_1, h_2⟩⟩)⟩))
theorem b213_14 {X : (Nat → Int) × Nat} {d : Nat} {s : mSt} {Q : mQ} {x1 : Int} (h_1 : Wp X d 213 19 [some (mR 407), some (mI x1)] [mI 1] s Q) : Wp X d 213 14 [some (mR 407), some (mI x1)] [] s Q := Wp_step k213 f213_14 (Wp_step k213 f213_15 (h_1))
theorem b213_18 {X : (Nat → Int) × Nat} {d : Nat} {s : mSt} {Q : mQ} {x1 : Int} (h_1 : Wp X d 213 19 [some (mR 407), some (mI x1)] [mI 0] s Q) : Wp X d 213 18 [some (mR 407), some (mI x1)] [] s Q := Wp_step k213 f213_18 (h_1)
theorem b213_19 {X : (Nat → Int) × Nat} {d : Nat} {s : mSt} {Q : mQ} {x1 : Int} {xt0 : Int} (h_1 : Q (some (mI xt0)) s) (h_2 : xt0 = 0 ∨ xt0 = 1) : Wp X d 213 19 [some (mR 407), some (mI x1)] [mI xt0] s Q := Wp_step k213 f213_19 ⟨⟨rfl, h_2⟩, h_1⟩
theorem e213 {X : (Nat → Int) × Nat} {d : Nat} {s : mSt} {Q : mQ} {x1 : Int} (h : Wp X d 213 0 [some (mR 407), some (mI x1)] [] s Q) : Sp X d 213 [mR 407, mI x1] s Q := Sp_of (show mCe 213 = 0 by decide +kernel) (by rw [show mML 213 = 2 by decide +kernel]; rfl) (Nat.le_trans (Nat.le_of_ble_eq_true (show Nat.ble (mArgs _).length 2 = true from rfl)) (show 2 ≤ mML 213 by decide +kernel)) h
-- 214 ClashDayModel.isCandidate(I)Z
theorem k214 : mRk 214 = 2 := by decide +kernel
theorem f214_0 : mFetch 214 0 = some (.iload_n 1, 1, 0, 0, 0, 0) := by decide +kernel
theorem f214_1 : mFetch 214 1 = some (.ifCond .lt 17, 3, 18, 0, 0, 0) := by decide +kernel
theorem f214_4 : mFetch 214 4 = some (.iload_n 1, 1, 0, 0, 0, 0) := by decide +kernel
theorem f214_5 : mFetch 214 5 = some (.aload_n 0, 1, 0, 0, 0, 0) := by decide +kernel
theorem f214_6 : mFetch 214 6 = some (.getfield 39, 3, 12, 20, 2, 1) := by decide +kernel
theorem f214_9 : mFetch 214 9 = some (.iconst 4, 1, 0, 0, 0, 0) := by decide +kernel
theorem f214_10 : mFetch 214 10 = some (.iaload, 1, 0, 0, 0, 0) := by decide +kernel
theorem f214_11 : mFetch 214 11 = some (.if_icmp .ge 7, 3, 18, 0, 0, 0) := by decide +kernel
theorem f214_14 : mFetch 214 14 = some (.iconst 1, 1, 0, 0, 0, 0) := by decide +kernel
theorem f214_15 : mFetch 214 15 = some (.goto 4, 3, 19, 0, 0, 0) := by decide +kernel
theorem f214_18 : mFetch 214 18 = some (.iconst 0, 1, 0, 0, 0, 0) := by decide +kernel
theorem f214_19 : mFetch 214 19 = some (.ireturn, 1, 0, 0, 0, 0) := by decide +kernel
theorem b214_0 {X : (Nat → Int) × Nat} {d : Nat} {s : mSt} {Q : mQ} {x1 : Int} (h_1 : x1 < 0 → Wp X d 214 18 [some (mR 407), some (mI x1)] [] s Q) (h_2 : ¬ x1 < 0 → Wp X d 214 4 [some (mR 407), some (mI x1)] [] s Q) : Wp X d 214 0 [some (mR 407), some (mI x1)] [] s Q := Wp_step k214 f214_0 (Wp_step k214 f214_1 ⟨h_1, h_2⟩)
theorem b214_4 {X : (Nat → Int) × Nat} {d : Nat} {s : mSt} {Q : mQ} {x1 : Int} (h_1 : (s 417 4) ≤ x1 → Wp X d 214 18 [some (mR 407), some (mI x1)] [] s Q) (h_2 : ¬ (s 417 4) ≤ x1 → Wp X d 214 14 [some (mR 407), some (mI x1)] [] s Q) : Wp X d 214 4 [some (mR 407), some (mI x1)] [] s Q := Wp_step k214 f214_4 (Wp_step k214 f214_5 (Wp_step k214 f214_6 ⟨kf_407, 417, rf_407_20, Wp_step k214 f214_9 (Wp_step k214 f214_10 ⟨166, af_417, ⟨by decide, by decide⟩, Wp_step k214 f214_11 ⟨h_1, h_2⟩⟩)⟩))
theorem b214_14 {X : (Nat → Int) × Nat} {d : Nat} {s : mSt} {Q : mQ} {x1 : Int} (h_1 : Wp X d 214 19 [some (mR 407), some (mI x1)] [mI 1] s Q) : Wp X d 214 14 [some (mR 407), some (mI x1)] [] s Q := Wp_step k214 f214_14 (Wp_step k214 f214_15 (h_1))
theorem b214_18 {X : (Nat → Int) × Nat} {d : Nat} {s : mSt} {Q : mQ} {x1 : Int} (h_1 : Wp X d 214 19 [some (mR 407), some (mI x1)] [mI 0] s Q) : Wp X d 214 18 [some (mR 407), some (mI x1)] [] s Q := Wp_step k214 f214_18 (h_1)
theorem b214_19 {X : (Nat → Int) × Nat} {d : Nat} {s : mSt} {Q : mQ} {x1 : Int} {xt0 : Int} (h_1 : Q (some (mI xt0)) s) (h_2 : xt0 = 0 ∨ xt0 = 1) : Wp X d 214 19 [some (mR 407), some (mI x1)] [mI xt0] s Q := Wp_step k214 f214_19 ⟨⟨rfl, h_2⟩, h_1⟩
theorem e214 {X : (Nat → Int) × Nat} {d : Nat} {s : mSt} {Q : mQ} {x1 : Int} (h : Wp X d 214 0 [some (mR 407), some (mI x1)] [] s Q) : Sp X d 214 [mR 407, mI x1] s Q := Sp_of (show mCe 214 = 0 by decide +kernel) (by rw [show mML 214 = 2 by decide +kernel]; rfl) (Nat.le_trans (Nat.le_of_ble_eq_true (show Nat.ble (mArgs _).length 2 = true from rfl)) (show 2 ≤ mML 214 by decide +kernel)) h
-- 215 ClashDayModel.isWaiting(I)Z
theorem k215 : mRk 215 = 2 := by decide +kernel
theorem f215_0 : mFetch 215 0 = some (.aload_n 0, 1, 0, 0, 0, 0) := by decide +kernel
theorem f215_1 : mFetch 215 1 = some (.iload_n 1, 1, 0, 0, 0, 0) := by decide +kernel
theorem f215_2 : mFetch 215 2 = some (.invokevirtual 315, 3, 214, 0, 2, 12) := by decide +kernel
theorem f215_5 : mFetch 215 5 = some (.ifCond .eq 20, 3, 25, 0, 0, 0) := by decide +kernel
theorem f215_8 : mFetch 215 8 = some (.aload_n 0, 1, 0, 0, 0, 0) := by decide +kernel
theorem f215_9 : mFetch 215 9 = some (.getfield 39, 3, 12, 20, 2, 1) := by decide +kernel
theorem f215_12 : mFetch 215 12 = some (.bipush 41, 2, 0, 0, 0, 0) := by decide +kernel
theorem f215_14 : mFetch 215 14 = some (.iload_n 1, 1, 0, 0, 0, 0) := by decide +kernel
theorem f215_15 : mFetch 215 15 = some (.iadd, 1, 0, 0, 0, 0) := by decide +kernel
theorem f215_16 : mFetch 215 16 = some (.iaload, 1, 0, 0, 0, 0) := by decide +kernel
theorem f215_17 : mFetch 215 17 = some (.iconst 1, 1, 0, 0, 0, 0) := by decide +kernel
theorem f215_18 : mFetch 215 18 = some (.if_icmp .ne 7, 3, 25, 0, 0, 0) := by decide +kernel
theorem f215_21 : mFetch 215 21 = some (.iconst 1, 1, 0, 0, 0, 0) := by decide +kernel
theorem f215_22 : mFetch 215 22 = some (.goto 4, 3, 26, 0, 0, 0) := by decide +kernel
theorem f215_25 : mFetch 215 25 = some (.iconst 0, 1, 0, 0, 0, 0) := by decide +kernel
theorem f215_26 : mFetch 215 26 = some (.ireturn, 1, 0, 0, 0, 0) := by decide +kernel
theorem b215_0 {X : (Nat → Int) × Nat} {d : Nat} {s : mSt} {Q : mQ} {x1 : Int} (h_1 : Sp X d 214 [mR 407, mI x1] s (fun r s' => ∃ v : Int, r = some (mI v) ∧ Wp X (d + 1) 215 5 [some (mR 407), some (mI x1)] [mI v] s' Q)) : Wp X (d + 1) 215 0 [some (mR 407), some (mI x1)] [] s Q := Wp_step k215 f215_0 (Wp_step k215 f215_1 (Wp_step k215 f215_2 ⟨⟨kf_407, Nat.le_of_ble_eq_true rfl⟩, Nat.le_refl _, _, rfl, Sp_E h_1⟩))
theorem b215_5 {X : (Nat → Int) × Nat} {d : Nat} {s : mSt} {Q : mQ} {x1 : Int} {xt0 : Int} (h_1 : xt0 = 0 → Wp X d 215 25 [some (mR 407), some (mI x1)] [] s Q) (h_2 : ¬ xt0 = 0 → Wp X d 215 8 [some (mR 407), some (mI x1)] [] s Q) : Wp X d 215 5 [some (mR 407), some (mI x1)] [mI xt0] s Q := Wp_step k215 f215_5 ⟨h_1, h_2⟩
theorem b215_8 {X : (Nat → Int) × Nat} {d : Nat} {s : mSt} {Q : mQ} {x1 : Int} (h_1 : 0 ≤ (w32 (41 + x1)) ∧ (w32 (41 + x1)) < 166) (h_2 : ¬ (s 417 (w32 (41 + x1)).toNat) = 1 → Wp X d 215 25 [some (mR 407), some (mI x1)] [] s Q) (h_3 : (s 417 (w32 (41 + x1)).toNat) = 1 → Wp X d 215 21 [some (mR 407), some (mI x1)] [] s Q) : Wp X d 215 8 [some (mR 407), some (mI x1)] [] s Q := Wp_step k215 f215_8 (Wp_step k215 f215_9 ⟨kf_407, 417, rf_407_20, Wp_step k215 f215_12 (Wp_step k215 f215_14 (Wp_step k215 f215_15 (Wp_step k215 f215_16 ⟨166, af_417, h_1, Wp_step k215 f215_17 (Wp_step k215 f215_18 ⟨h_2, h_3⟩)⟩)))⟩)
theorem b215_21 {X : (Nat → Int) × Nat} {d : Nat} {s : mSt} {Q : mQ} {x1 : Int} (h_1 : Wp X d 215 26 [some (mR 407), some (mI x1)] [mI 1] s Q) : Wp X d 215 21 [some (mR 407), some (mI x1)] [] s Q := Wp_step k215 f215_21 (Wp_step k215 f215_22 (h_1))
theorem b215_25 {X : (Nat → Int) × Nat} {d : Nat} {s : mSt} {Q : mQ} {x1 : Int} (h_1 : Wp X d 215 26 [some (mR 407), some (mI x1)] [mI 0] s Q) : Wp X d 215 25 [some (mR 407), some (mI x1)] [] s Q := Wp_step k215 f215_25 (h_1)
theorem b215_26 {X : (Nat → Int) × Nat} {d : Nat} {s : mSt} {Q : mQ} {x1 : Int} {xt0 : Int} (h_1 : Q (some (mI xt0)) s) (h_2 : xt0 = 0 ∨ xt0 = 1) : Wp X d 215 26 [some (mR 407), some (mI x1)] [mI xt0] s Q := Wp_step k215 f215_26 ⟨⟨rfl, h_2⟩, h_1⟩
theorem e215 {X : (Nat → Int) × Nat} {d : Nat} {s : mSt} {Q : mQ} {x1 : Int} (h : Wp X d 215 0 [some (mR 407), some (mI x1)] [] s Q) : Sp X d 215 [mR 407, mI x1] s Q := Sp_of (show mCe 215 = 0 by decide +kernel) (by rw [show mML 215 = 2 by decide +kernel]; rfl) (Nat.le_trans (Nat.le_of_ble_eq_true (show Nat.ble (mArgs _).length 2 = true from rfl)) (show 2 ≤ mML 215 by decide +kernel)) h
-- 216 ClashDayModel.isPlanned(I)Z
theorem k216 : mRk 216 = 2 := by decide +kernel
theorem f216_0 : mFetch 216 0 = some (.aload_n 0, 1, 0, 0, 0, 0) := by decide +kernel
theorem f216_1 : mFetch 216 1 = some (.iload_n 1, 1, 0, 0, 0, 0) := by decide +kernel
theorem f216_2 : mFetch 216 2 = some (.invokevirtual 315, 3, 214, 0, 2, 12) := by decide +kernel
theorem f216_5 : mFetch 216 5 = some (.ifCond .eq 19, 3, 24, 0, 0, 0) := by decide +kernel
theorem f216_8 : mFetch 216 8 = some (.aload_n 0, 1, 0, 0, 0, 0) := by decide +kernel
theorem f216_9 : mFetch 216 9 = some (.getfield 39, 3, 12, 20, 2, 1) := by decide +kernel
theorem f216_12 : mFetch 216 12 = some (.bipush 41, 2, 0, 0, 0, 0) := by decide +kernel
theorem f216_14 : mFetch 216 14 = some (.iload_n 1, 1, 0, 0, 0, 0) := by decide +kernel
theorem f216_15 : mFetch 216 15 = some (.iadd, 1, 0, 0, 0, 0) := by decide +kernel
theorem f216_16 : mFetch 216 16 = some (.iaload, 1, 0, 0, 0, 0) := by decide +kernel
theorem f216_17 : mFetch 216 17 = some (.ifCond .ne 7, 3, 24, 0, 0, 0) := by decide +kernel
theorem f216_20 : mFetch 216 20 = some (.iconst 1, 1, 0, 0, 0, 0) := by decide +kernel
theorem f216_21 : mFetch 216 21 = some (.goto 4, 3, 25, 0, 0, 0) := by decide +kernel
theorem f216_24 : mFetch 216 24 = some (.iconst 0, 1, 0, 0, 0, 0) := by decide +kernel
theorem f216_25 : mFetch 216 25 = some (.ireturn, 1, 0, 0, 0, 0) := by decide +kernel
theorem b216_0 {X : (Nat → Int) × Nat} {d : Nat} {s : mSt} {Q : mQ} {x1 : Int} (h_1 : Sp X d 214 [mR 407, mI x1] s (fun r s' => ∃ v : Int, r = some (mI v) ∧ Wp X (d + 1) 216 5 [some (mR 407), some (mI x1)] [mI v] s' Q)) : Wp X (d + 1) 216 0 [some (mR 407), some (mI x1)] [] s Q := Wp_step k216 f216_0 (Wp_step k216 f216_1 (Wp_step k216 f216_2 ⟨⟨kf_407, Nat.le_of_ble_eq_true rfl⟩, Nat.le_refl _, _, rfl, Sp_E h_1⟩))
theorem b216_5 {X : (Nat → Int) × Nat} {d : Nat} {s : mSt} {Q : mQ} {x1 : Int} {xt0 : Int} (h_1 : xt0 = 0 → Wp X d 216 24 [some (mR 407), some (mI x1)] [] s Q) (h_2 : ¬ xt0 = 0 → Wp X d 216 8 [some (mR 407), some (mI x1)] [] s Q) : Wp X d 216 5 [some (mR 407), some (mI x1)] [mI xt0] s Q := Wp_step k216 f216_5 ⟨h_1, h_2⟩
theorem b216_8 {X : (Nat → Int) × Nat} {d : Nat} {s : mSt} {Q : mQ} {x1 : Int} (h_1 : 0 ≤ (w32 (41 + x1)) ∧ (w32 (41 + x1)) < 166) (h_2 : ¬ (s 417 (w32 (41 + x1)).toNat) = 0 → Wp X d 216 24 [some (mR 407), some (mI x1)] [] s Q) (h_3 : (s 417 (w32 (41 + x1)).toNat) = 0 → Wp X d 216 20 [some (mR 407), some (mI x1)] [] s Q) : Wp X d 216 8 [some (mR 407), some (mI x1)] [] s Q := Wp_step k216 f216_8 (Wp_step k216 f216_9 ⟨kf_407, 417, rf_407_20, Wp_step k216 f216_12 (Wp_step k216 f216_14 (Wp_step k216 f216_15 (Wp_step k216 f216_16 ⟨166, af_417, h_1, Wp_step k216 f216_17 ⟨h_2, h_3⟩⟩)))⟩)
theorem b216_20 {X : (Nat → Int) × Nat} {d : Nat} {s : mSt} {Q : mQ} {x1 : Int} (h_1 : Wp X d 216 25 [some (mR 407), some (mI x1)] [mI 1] s Q) : Wp X d 216 20 [some (mR 407), some (mI x1)] [] s Q := Wp_step k216 f216_20 (Wp_step k216 f216_21 (h_1))
theorem b216_24 {X : (Nat → Int) × Nat} {d : Nat} {s : mSt} {Q : mQ} {x1 : Int} (h_1 : Wp X d 216 25 [some (mR 407), some (mI x1)] [mI 0] s Q) : Wp X d 216 24 [some (mR 407), some (mI x1)] [] s Q := Wp_step k216 f216_24 (h_1)
theorem b216_25 {X : (Nat → Int) × Nat} {d : Nat} {s : mSt} {Q : mQ} {x1 : Int} {xt0 : Int} (h_1 : Q (some (mI xt0)) s) (h_2 : xt0 = 0 ∨ xt0 = 1) : Wp X d 216 25 [some (mR 407), some (mI x1)] [mI xt0] s Q := Wp_step k216 f216_25 ⟨⟨rfl, h_2⟩, h_1⟩
theorem e216 {X : (Nat → Int) × Nat} {d : Nat} {s : mSt} {Q : mQ} {x1 : Int} (h : Wp X d 216 0 [some (mR 407), some (mI x1)] [] s Q) : Sp X d 216 [mR 407, mI x1] s Q := Sp_of (show mCe 216 = 0 by decide +kernel) (by rw [show mML 216 = 2 by decide +kernel]; rfl) (Nat.le_trans (Nat.le_of_ble_eq_true (show Nat.ble (mArgs _).length 2 = true from rfl)) (show 2 ≤ mML 216 by decide +kernel)) h
-- 217 ClashDayModel.doesSit(II)Z
theorem k217 : mRk 217 = 2 := by decide +kernel
theorem f217_0 : mFetch 217 0 = some (.aload_n 0, 1, 0, 0, 0, 0) := by decide +kernel
theorem f217_1 : mFetch 217 1 = some (.getfield 39, 3, 12, 20, 2, 1) := by decide +kernel
theorem f217_4 : mFetch 217 4 = some (.bipush 117, 2, 0, 0, 0, 0) := by decide +kernel
theorem f217_6 : mFetch 217 6 = some (.iload_n 1, 1, 0, 0, 0, 0) := by decide +kernel
theorem f217_7 : mFetch 217 7 = some (.iadd, 1, 0, 0, 0, 0) := by decide +kernel
theorem f217_8 : mFetch 217 8 = some (.iaload, 1, 0, 0, 0, 0) := by decide +kernel
theorem f217_9 : mFetch 217 9 = some (.iload_n 2, 1, 0, 0, 0, 0) := by decide +kernel
theorem f217_10 : mFetch 217 10 = some (.invokestatic 318, 3, 168, 0, 2, 99) := by decide +kernel
theorem f217_13 : mFetch 217 13 = some (.ireturn, 1, 0, 0, 0, 0) := by decide +kernel
theorem b217_0 {X : (Nat → Int) × Nat} {d : Nat} {s : mSt} {Q : mQ} {x1 : Int} {x2 : Int} (h_1 : 0 ≤ (w32 (117 + x1)) ∧ (w32 (117 + x1)) < 166) (h_2 : Sp X d 168 [mI (s 417 (w32 (117 + x1)).toNat), mI x2] s (fun r s' => ∃ v : Int, r = some (mI v) ∧ Wp X (d + 1) 217 13 [some (mR 407), some (mI x1), some (mI x2)] [mI v] s' Q)) : Wp X (d + 1) 217 0 [some (mR 407), some (mI x1), some (mI x2)] [] s Q := Wp_step k217 f217_0 (Wp_step k217 f217_1 ⟨kf_407, 417, rf_407_20, Wp_step k217 f217_4 (Wp_step k217 f217_6 (Wp_step k217 f217_7 (Wp_step k217 f217_8 ⟨166, af_417, h_1, Wp_step k217 f217_9 (Wp_step k217 f217_10 ⟨⟨Nat.le_of_ble_eq_true rfl, Nat.le_refl _⟩, _, rfl, Sp_E h_2⟩)⟩)))⟩)
theorem b217_13 {X : (Nat → Int) × Nat} {d : Nat} {s : mSt} {Q : mQ} {x1 : Int} {x2 : Int} {xt0 : Int} (h_1 : Q (some (mI xt0)) s) (h_2 : xt0 = 0 ∨ xt0 = 1) : Wp X d 217 13 [some (mR 407), some (mI x1), some (mI x2)] [mI xt0] s Q := Wp_step k217 f217_13 ⟨⟨rfl, h_2⟩, h_1⟩
theorem e217 {X : (Nat → Int) × Nat} {d : Nat} {s : mSt} {Q : mQ} {x1 : Int} {x2 : Int} (h : Wp X d 217 0 [some (mR 407), some (mI x1), some (mI x2)] [] s Q) : Sp X d 217 [mR 407, mI x1, mI x2] s Q := Sp_of (show mCe 217 = 0 by decide +kernel) (by rw [show mML 217 = 3 by decide +kernel]; rfl) (Nat.le_trans (Nat.le_of_ble_eq_true (show Nat.ble (mArgs _).length 3 = true from rfl)) (show 3 ≤ mML 217 by decide +kernel)) h
-- 218 ClashDayModel.beginOf(II)I
theorem k218 : mRk 218 = 1 := by decide +kernel
theorem f218_0 : mFetch 218 0 = some (.aload_n 0, 1, 0, 0, 0, 0) := by decide +kernel
theorem f218_1 : mFetch 218 1 = some (.getfield 39, 3, 12, 20, 2, 1) := by decide +kernel
theorem f218_4 : mFetch 218 4 = some (.bipush 47, 2, 0, 0, 0, 0) := by decide +kernel
theorem f218_6 : mFetch 218 6 = some (.iconst 5, 1, 0, 0, 0, 0) := by decide +kernel
theorem f218_7 : mFetch 218 7 = some (.iload_n 1, 1, 0, 0, 0, 0) := by decide +kernel
theorem f218_8 : mFetch 218 8 = some (.imul, 1, 0, 0, 0, 0) := by decide +kernel
theorem f218_9 : mFetch 218 9 = some (.iadd, 1, 0, 0, 0, 0) := by decide +kernel
theorem f218_10 : mFetch 218 10 = some (.iload_n 2, 1, 0, 0, 0, 0) := by decide +kernel
theorem f218_11 : mFetch 218 11 = some (.iadd, 1, 0, 0, 0, 0) := by decide +kernel
theorem f218_12 : mFetch 218 12 = some (.iaload, 1, 0, 0, 0, 0) := by decide +kernel
theorem f218_13 : mFetch 218 13 = some (.ireturn, 1, 0, 0, 0, 0) := by decide +kernel
theorem b218_0 {X : (Nat → Int) × Nat} {d : Nat} {s : mSt} {Q : mQ} {x1 : Int} {x2 : Int} (h_1 : 0 ≤ (w32 ((w32 (47 + (w32 (5 * x1)))) + x2)) ∧ (w32 ((w32 (47 + (w32 (5 * x1)))) + x2)) < 166) (h_2 : Q (some (mI (s 417 (w32 ((w32 (47 + (w32 (5 * x1)))) + x2)).toNat))) s) : Wp X d 218 0 [some (mR 407), some (mI x1), some (mI x2)] [] s Q := Wp_step k218 f218_0 (Wp_step k218 f218_1 ⟨kf_407, 417, rf_407_20, Wp_step k218 f218_4 (Wp_step k218 f218_6 (Wp_step k218 f218_7 (Wp_step k218 f218_8 (Wp_step k218 f218_9 (Wp_step k218 f218_10 (Wp_step k218 f218_11 (Wp_step k218 f218_12 ⟨166, af_417, h_1, Wp_step k218 f218_13 ⟨⟨rfl, trivial⟩, h_2⟩⟩)))))))⟩)
theorem e218 {X : (Nat → Int) × Nat} {d : Nat} {s : mSt} {Q : mQ} {x1 : Int} {x2 : Int} (h : Wp X d 218 0 [some (mR 407), some (mI x1), some (mI x2)] [] s Q) : Sp X d 218 [mR 407, mI x1, mI x2] s Q := Sp_of (show mCe 218 = 0 by decide +kernel) (by rw [show mML 218 = 3 by decide +kernel]; rfl) (Nat.le_trans (Nat.le_of_ble_eq_true (show Nat.ble (mArgs _).length 3 = true from rfl)) (show 3 ≤ mML 218 by decide +kernel)) h
-- 219 ClashDayModel.timeOf(II)I
theorem k219 : mRk 219 = 1 := by decide +kernel
theorem f219_0 : mFetch 219 0 = some (.aload_n 0, 1, 0, 0, 0, 0) := by decide +kernel
theorem f219_1 : mFetch 219 1 = some (.getfield 39, 3, 12, 20, 2, 1) := by decide +kernel
theorem f219_4 : mFetch 219 4 = some (.bipush 77, 2, 0, 0, 0, 0) := by decide +kernel
theorem f219_6 : mFetch 219 6 = some (.iload_n 2, 1, 0, 0, 0, 0) := by decide +kernel
theorem f219_7 : mFetch 219 7 = some (.iadd, 1, 0, 0, 0, 0) := by decide +kernel
theorem f219_8 : mFetch 219 8 = some (.iaload, 1, 0, 0, 0, 0) := by decide +kernel
theorem f219_9 : mFetch 219 9 = some (.bipush 100, 2, 0, 0, 0, 0) := by decide +kernel
theorem f219_11 : mFetch 219 11 = some (.aload_n 0, 1, 0, 0, 0, 0) := by decide +kernel
theorem f219_12 : mFetch 219 12 = some (.getfield 39, 3, 12, 20, 2, 1) := by decide +kernel
theorem f219_15 : mFetch 219 15 = some (.bipush 123, 2, 0, 0, 0, 0) := by decide +kernel
theorem f219_17 : mFetch 219 17 = some (.iload_n 1, 1, 0, 0, 0, 0) := by decide +kernel
theorem f219_18 : mFetch 219 18 = some (.iadd, 1, 0, 0, 0, 0) := by decide +kernel
theorem f219_19 : mFetch 219 19 = some (.iaload, 1, 0, 0, 0, 0) := by decide +kernel
theorem f219_20 : mFetch 219 20 = some (.iadd, 1, 0, 0, 0, 0) := by decide +kernel
theorem f219_21 : mFetch 219 21 = some (.imul, 1, 0, 0, 0, 0) := by decide +kernel
theorem f219_22 : mFetch 219 22 = some (.bipush 99, 2, 0, 0, 0, 0) := by decide +kernel
theorem f219_24 : mFetch 219 24 = some (.iadd, 1, 0, 0, 0, 0) := by decide +kernel
theorem f219_25 : mFetch 219 25 = some (.bipush 100, 2, 0, 0, 0, 0) := by decide +kernel
theorem f219_27 : mFetch 219 27 = some (.idiv, 1, 0, 0, 0, 0) := by decide +kernel
theorem f219_28 : mFetch 219 28 = some (.ireturn, 1, 0, 0, 0, 0) := by decide +kernel
theorem b219_0 {X : (Nat → Int) × Nat} {d : Nat} {s : mSt} {Q : mQ} {x1 : Int} {x2 : Int} (h_1 : 0 ≤ (w32 (77 + x2)) ∧ (w32 (77 + x2)) < 166) (h_2 : 0 ≤ (w32 (123 + x1)) ∧ (w32 (123 + x1)) < 166) (h_3 : Q (some (mI (w32 (Int.tdiv (w32 ((w32 ((s 417 (w32 (77 + x2)).toNat) * (w32 (100 + (s 417 (w32 (123 + x1)).toNat))))) + 99)) 100)))) s) : Wp X d 219 0 [some (mR 407), some (mI x1), some (mI x2)] [] s Q := Wp_step k219 f219_0 (Wp_step k219 f219_1 ⟨kf_407, 417, rf_407_20, Wp_step k219 f219_4 (Wp_step k219 f219_6 (Wp_step k219 f219_7 (Wp_step k219 f219_8 ⟨166, af_417, h_1, Wp_step k219 f219_9 (Wp_step k219 f219_11 (Wp_step k219 f219_12 ⟨kf_407, 417, rf_407_20, Wp_step k219 f219_15 (Wp_step k219 f219_17 (Wp_step k219 f219_18 (Wp_step k219 f219_19 ⟨166, af_417, h_2, Wp_step k219 f219_20 (Wp_step k219 f219_21 (Wp_step k219 f219_22 (Wp_step k219 f219_24 (Wp_step k219 f219_25 (Wp_step k219 f219_27 ⟨(by decide), Wp_step k219 f219_28 ⟨⟨rfl, trivial⟩, h_3⟩⟩)))))⟩)))⟩))⟩)))⟩)
theorem e219 {X : (Nat → Int) × Nat} {d : Nat} {s : mSt} {Q : mQ} {x1 : Int} {x2 : Int} (h : Wp X d 219 0 [some (mR 407), some (mI x1), some (mI x2)] [] s Q) : Sp X d 219 [mR 407, mI x1, mI x2] s Q := Sp_of (show mCe 219 = 0 by decide +kernel) (by rw [show mML 219 = 3 by decide +kernel]; rfl) (Nat.le_trans (Nat.le_of_ble_eq_true (show Nat.ble (mArgs _).length 3 = true from rfl)) (show 3 ≤ mML 219 by decide +kernel)) h
-- 220 ClashDayModel.workOf(I)I
theorem k220 : mRk 220 = 1 := by decide +kernel
theorem f220_0 : mFetch 220 0 = some (.iconst 0, 1, 0, 0, 0, 0) := by decide +kernel
theorem f220_1 : mFetch 220 1 = some (.istore_n 2, 1, 0, 0, 0, 0) := by decide +kernel
theorem f220_2 : mFetch 220 2 = some (.iconst 0, 1, 0, 0, 0, 0) := by decide +kernel
theorem f220_3 : mFetch 220 3 = some (.istore_n 3, 1, 0, 0, 0, 0) := by decide +kernel
theorem f220_4 : mFetch 220 4 = some (.iload_n 3, 1, 0, 0, 0, 0) := by decide +kernel
theorem f220_5 : mFetch 220 5 = some (.aload_n 0, 1, 0, 0, 0, 0) := by decide +kernel
theorem f220_6 : mFetch 220 6 = some (.getfield 39, 3, 12, 20, 2, 1) := by decide +kernel
theorem f220_9 : mFetch 220 9 = some (.iconst 3, 1, 0, 0, 0, 0) := by decide +kernel
theorem f220_10 : mFetch 220 10 = some (.iaload, 1, 0, 0, 0, 0) := by decide +kernel
theorem f220_11 : mFetch 220 11 = some (.if_icmp .ge 31, 3, 42, 0, 0, 0) := by decide +kernel
theorem f220_14 : mFetch 220 14 = some (.iload_n 2, 1, 0, 0, 0, 0) := by decide +kernel
theorem f220_15 : mFetch 220 15 = some (.aload_n 0, 1, 0, 0, 0, 0) := by decide +kernel
theorem f220_16 : mFetch 220 16 = some (.iload_n 1, 1, 0, 0, 0, 0) := by decide +kernel
theorem f220_17 : mFetch 220 17 = some (.iload_n 3, 1, 0, 0, 0, 0) := by decide +kernel
theorem f220_18 : mFetch 220 18 = some (.invokevirtual 321, 3, 217, 0, 3, 12) := by decide +kernel
theorem f220_21 : mFetch 220 21 = some (.ifCond .eq 12, 3, 33, 0, 0, 0) := by decide +kernel
theorem f220_24 : mFetch 220 24 = some (.aload_n 0, 1, 0, 0, 0, 0) := by decide +kernel
theorem f220_25 : mFetch 220 25 = some (.iload_n 1, 1, 0, 0, 0, 0) := by decide +kernel
theorem f220_26 : mFetch 220 26 = some (.iload_n 3, 1, 0, 0, 0, 0) := by decide +kernel
theorem f220_27 : mFetch 220 27 = some (.invokevirtual 324, 3, 219, 0, 3, 12) := by decide +kernel
theorem f220_30 : mFetch 220 30 = some (.goto 4, 3, 34, 0, 0, 0) := by decide +kernel
theorem f220_33 : mFetch 220 33 = some (.iconst 0, 1, 0, 0, 0, 0) := by decide +kernel
theorem f220_34 : mFetch 220 34 = some (.iadd, 1, 0, 0, 0, 0) := by decide +kernel
theorem f220_35 : mFetch 220 35 = some (.istore_n 2, 1, 0, 0, 0, 0) := by decide +kernel
theorem f220_36 : mFetch 220 36 = some (.iinc 3 1, 3, 0, 0, 0, 0) := by decide +kernel
theorem f220_39 : mFetch 220 39 = some (.goto (-35), 3, 4, 0, 0, 0) := by decide +kernel
theorem f220_42 : mFetch 220 42 = some (.iload_n 2, 1, 0, 0, 0, 0) := by decide +kernel
theorem f220_43 : mFetch 220 43 = some (.ireturn, 1, 0, 0, 0, 0) := by decide +kernel
theorem b220_0 {X : (Nat → Int) × Nat} {d : Nat} {s : mSt} {Q : mQ} {x1 : Int} {l2 : Option mV} {l3 : Option mV} (h_1 : Wp X d 220 4 [some (mR 407), some (mI x1), some (mI 0), some (mI 0)] [] s Q) : Wp X d 220 0 [some (mR 407), some (mI x1), l2, l3] [] s Q := Wp_step k220 f220_0 (Wp_step k220 f220_1 (Wp_step k220 f220_2 (Wp_step k220 f220_3 (h_1))))
theorem b220_4 {X : (Nat → Int) × Nat} {d : Nat} {s : mSt} {Q : mQ} {x1 : Int} {x2 : Int} {x3 : Int} (h_1 : (s 417 3) ≤ x3 → Wp X d 220 42 [some (mR 407), some (mI x1), some (mI x2), some (mI x3)] [] s Q) (h_2 : ¬ (s 417 3) ≤ x3 → Wp X d 220 14 [some (mR 407), some (mI x1), some (mI x2), some (mI x3)] [] s Q) : Wp X d 220 4 [some (mR 407), some (mI x1), some (mI x2), some (mI x3)] [] s Q := Wp_step k220 f220_4 (Wp_step k220 f220_5 (Wp_step k220 f220_6 ⟨kf_407, 417, rf_407_20, Wp_step k220 f220_9 (Wp_step k220 f220_10 ⟨166, af_417, ⟨by decide, by decide⟩, Wp_step k220 f220_11 ⟨h_1, h_2⟩⟩)⟩))
theorem b220_14 {X : (Nat → Int) × Nat} {d : Nat} {s : mSt} {Q : mQ} {x1 : Int} {x2 : Int} {x3 : Int} (h_1 : Sp X d 217 [mR 407, mI x1, mI x3] s (fun r s' => ∃ v : Int, r = some (mI v) ∧ Wp X (d + 1) 220 21 [some (mR 407), some (mI x1), some (mI x2), some (mI x3)] [mI v, mI x2] s' Q)) : Wp X (d + 1) 220 14 [some (mR 407), some (mI x1), some (mI x2), some (mI x3)] [] s Q := Wp_step k220 f220_14 (Wp_step k220 f220_15 (Wp_step k220 f220_16 (Wp_step k220 f220_17 (Wp_step k220 f220_18 ⟨⟨kf_407, Nat.le_of_ble_eq_true rfl⟩, Nat.le_refl _, _, rfl, Sp_E h_1⟩))))
theorem b220_21 {X : (Nat → Int) × Nat} {d : Nat} {s : mSt} {Q : mQ} {x1 : Int} {x2 : Int} {x3 : Int} {xt0 : Int} {xt1 : Int} (h_1 : xt1 = 0 → Wp X d 220 33 [some (mR 407), some (mI x1), some (mI x2), some (mI x3)] [mI xt0] s Q) (h_2 : ¬ xt1 = 0 → Wp X d 220 24 [some (mR 407), some (mI x1), some (mI x2), some (mI x3)] [mI xt0] s Q) : Wp X d 220 21 [some (mR 407), some (mI x1), some (mI x2), some (mI x3)] [mI xt1, mI xt0] s Q := Wp_step k220 f220_21 ⟨h_1, h_2⟩
theorem b220_24 {X : (Nat → Int) × Nat} {d : Nat} {s : mSt} {Q : mQ} {x1 : Int} {x2 : Int} {x3 : Int} {xt0 : Int} (h_1 : Sp X d 219 [mR 407, mI x1, mI x3] s (fun r s' => ∃ v : Int, r = some (mI v) ∧ Wp X (d + 1) 220 30 [some (mR 407), some (mI x1), some (mI x2), some (mI x3)] [mI v, mI xt0] s' Q)) : Wp X (d + 1) 220 24 [some (mR 407), some (mI x1), some (mI x2), some (mI x3)] [mI xt0] s Q := Wp_step k220 f220_24 (Wp_step k220 f220_25 (Wp_step k220 f220_26 (Wp_step k220 f220_27 ⟨⟨kf_407, Nat.le_of_ble_eq_true rfl⟩, Nat.le_refl _, _, rfl, Sp_E h_1⟩)))
theorem b220_30 {X : (Nat → Int) × Nat} {d : Nat} {s : mSt} {Q : mQ} {x1 : Int} {x2 : Int} {x3 : Int} {xt0 : Int} {xt1 : Int} (h_1 : Wp X d 220 34 [some (mR 407), some (mI x1), some (mI x2), some (mI x3)] [mI xt1, mI xt0] s Q) : Wp X d 220 30 [some (mR 407), some (mI x1), some (mI x2), some (mI x3)] [mI xt1, mI xt0] s Q := Wp_step k220 f220_30 (h_1)
theorem b220_33 {X : (Nat → Int) × Nat} {d : Nat} {s : mSt} {Q : mQ} {x1 : Int} {x2 : Int} {x3 : Int} {xt0 : Int} (h_1 : Wp X d 220 34 [some (mR 407), some (mI x1), some (mI x2), some (mI x3)] [mI 0, mI xt0] s Q) : Wp X d 220 33 [some (mR 407), some (mI x1), some (mI x2), some (mI x3)] [mI xt0] s Q := Wp_step k220 f220_33 (h_1)
theorem b220_34 {X : (Nat → Int) × Nat} {d : Nat} {s : mSt} {Q : mQ} {x1 : Int} {x2 : Int} {x3 : Int} {xt0 : Int} {xt1 : Int} (h_1 : Wp X d 220 4 [some (mR 407), some (mI x1), some (mI (w32 (xt0 + xt1))), some (mI (w32 (x3 + 1)))] [] s Q) : Wp X d 220 34 [some (mR 407), some (mI x1), some (mI x2), some (mI x3)] [mI xt1, mI xt0] s Q := Wp_step k220 f220_34 (Wp_step k220 f220_35 (Wp_step k220 f220_36 (Wp_step k220 f220_39 (h_1))))
theorem b220_42 {X : (Nat → Int) × Nat} {d : Nat} {s : mSt} {Q : mQ} {x1 : Int} {x2 : Int} {x3 : Int} (h_1 : Q (some (mI x2)) s) : Wp X d 220 42 [some (mR 407), some (mI x1), some (mI x2), some (mI x3)] [] s Q := Wp_step k220 f220_42 (Wp_step k220 f220_43 ⟨⟨rfl, trivial⟩, h_1⟩)
theorem e220 {X : (Nat → Int) × Nat} {d : Nat} {s : mSt} {Q : mQ} {x1 : Int} (h : Wp X d 220 0 [some (mR 407), some (mI x1), none, none] [] s Q) : Sp X d 220 [mR 407, mI x1] s Q := Sp_of (show mCe 220 = 0 by decide +kernel) (by rw [show mML 220 = 4 by decide +kernel]; rfl) (Nat.le_trans (Nat.le_of_ble_eq_true (show Nat.ble (mArgs _).length 4 = true from rfl)) (show 4 ≤ mML 220 by decide +kernel)) h
-- 221 ClashDayModel.waitingOnes()I
theorem k221 : mRk 221 = 1 := by decide +kernel
theorem f221_0 : mFetch 221 0 = some (.iconst 0, 1, 0, 0, 0, 0) := by decide +kernel
theorem f221_1 : mFetch 221 1 = some (.istore_n 1, 1, 0, 0, 0, 0) := by decide +kernel
theorem f221_2 : mFetch 221 2 = some (.iconst 0, 1, 0, 0, 0, 0) := by decide +kernel
theorem f221_3 : mFetch 221 3 = some (.istore_n 2, 1, 0, 0, 0, 0) := by decide +kernel
theorem f221_4 : mFetch 221 4 = some (.iload_n 2, 1, 0, 0, 0, 0) := by decide +kernel
theorem f221_5 : mFetch 221 5 = some (.aload_n 0, 1, 0, 0, 0, 0) := by decide +kernel
theorem f221_6 : mFetch 221 6 = some (.getfield 39, 3, 12, 20, 2, 1) := by decide +kernel
theorem f221_9 : mFetch 221 9 = some (.iconst 4, 1, 0, 0, 0, 0) := by decide +kernel
theorem f221_10 : mFetch 221 10 = some (.iaload, 1, 0, 0, 0, 0) := by decide +kernel
theorem f221_11 : mFetch 221 11 = some (.if_icmp .ge 27, 3, 38, 0, 0, 0) := by decide +kernel
theorem f221_14 : mFetch 221 14 = some (.iload_n 1, 1, 0, 0, 0, 0) := by decide +kernel
theorem f221_15 : mFetch 221 15 = some (.aload_n 0, 1, 0, 0, 0, 0) := by decide +kernel
theorem f221_16 : mFetch 221 16 = some (.iload_n 2, 1, 0, 0, 0, 0) := by decide +kernel
theorem f221_17 : mFetch 221 17 = some (.invokevirtual 328, 3, 215, 0, 2, 12) := by decide +kernel
theorem f221_20 : mFetch 221 20 = some (.ifCond .eq 9, 3, 29, 0, 0, 0) := by decide +kernel
theorem f221_23 : mFetch 221 23 = some (.iconst 1, 1, 0, 0, 0, 0) := by decide +kernel
theorem f221_24 : mFetch 221 24 = some (.iload_n 2, 1, 0, 0, 0, 0) := by decide +kernel
theorem f221_25 : mFetch 221 25 = some (.ishl, 1, 0, 0, 0, 0) := by decide +kernel
theorem f221_26 : mFetch 221 26 = some (.goto 4, 3, 30, 0, 0, 0) := by decide +kernel
theorem f221_29 : mFetch 221 29 = some (.iconst 0, 1, 0, 0, 0, 0) := by decide +kernel
theorem f221_30 : mFetch 221 30 = some (.ior, 1, 0, 0, 0, 0) := by decide +kernel
theorem f221_31 : mFetch 221 31 = some (.istore_n 1, 1, 0, 0, 0, 0) := by decide +kernel
theorem f221_32 : mFetch 221 32 = some (.iinc 2 1, 3, 0, 0, 0, 0) := by decide +kernel
theorem f221_35 : mFetch 221 35 = some (.goto (-31), 3, 4, 0, 0, 0) := by decide +kernel
theorem f221_38 : mFetch 221 38 = some (.iload_n 1, 1, 0, 0, 0, 0) := by decide +kernel
theorem f221_39 : mFetch 221 39 = some (.ireturn, 1, 0, 0, 0, 0) := by decide +kernel
theorem b221_0 {X : (Nat → Int) × Nat} {d : Nat} {s : mSt} {Q : mQ} {l1 : Option mV} {l2 : Option mV} (h_1 : Wp X d 221 4 [some (mR 407), some (mI 0), some (mI 0)] [] s Q) : Wp X d 221 0 [some (mR 407), l1, l2] [] s Q := Wp_step k221 f221_0 (Wp_step k221 f221_1 (Wp_step k221 f221_2 (Wp_step k221 f221_3 (h_1))))
theorem b221_4 {X : (Nat → Int) × Nat} {d : Nat} {s : mSt} {Q : mQ} {x1 : Int} {x2 : Int} (h_1 : (s 417 4) ≤ x2 → Wp X d 221 38 [some (mR 407), some (mI x1), some (mI x2)] [] s Q) (h_2 : ¬ (s 417 4) ≤ x2 → Wp X d 221 14 [some (mR 407), some (mI x1), some (mI x2)] [] s Q) : Wp X d 221 4 [some (mR 407), some (mI x1), some (mI x2)] [] s Q := Wp_step k221 f221_4 (Wp_step k221 f221_5 (Wp_step k221 f221_6 ⟨kf_407, 417, rf_407_20, Wp_step k221 f221_9 (Wp_step k221 f221_10 ⟨166, af_417, ⟨by decide, by decide⟩, Wp_step k221 f221_11 ⟨h_1, h_2⟩⟩)⟩))
theorem b221_14 {X : (Nat → Int) × Nat} {d : Nat} {s : mSt} {Q : mQ} {x1 : Int} {x2 : Int} (h_1 : Sp X d 215 [mR 407, mI x2] s (fun r s' => ∃ v : Int, r = some (mI v) ∧ Wp X (d + 1) 221 20 [some (mR 407), some (mI x1), some (mI x2)] [mI v, mI x1] s' Q)) : Wp X (d + 1) 221 14 [some (mR 407), some (mI x1), some (mI x2)] [] s Q := Wp_step k221 f221_14 (Wp_step k221 f221_15 (Wp_step k221 f221_16 (Wp_step k221 f221_17 ⟨⟨kf_407, Nat.le_of_ble_eq_true rfl⟩, Nat.le_refl _, _, rfl, Sp_E h_1⟩)))
theorem b221_20 {X : (Nat → Int) × Nat} {d : Nat} {s : mSt} {Q : mQ} {x1 : Int} {x2 : Int} {xt0 : Int} {xt1 : Int} (h_1 : xt1 = 0 → Wp X d 221 29 [some (mR 407), some (mI x1), some (mI x2)] [mI xt0] s Q) (h_2 : ¬ xt1 = 0 → Wp X d 221 23 [some (mR 407), some (mI x1), some (mI x2)] [mI xt0] s Q) : Wp X d 221 20 [some (mR 407), some (mI x1), some (mI x2)] [mI xt1, mI xt0] s Q := Wp_step k221 f221_20 ⟨h_1, h_2⟩
theorem b221_23 {X : (Nat → Int) × Nat} {d : Nat} {s : mSt} {Q : mQ} {x1 : Int} {x2 : Int} {xt0 : Int} (h_1 : Wp X d 221 30 [some (mR 407), some (mI x1), some (mI x2)] [mI (iShl 1 x2), mI xt0] s Q) : Wp X d 221 23 [some (mR 407), some (mI x1), some (mI x2)] [mI xt0] s Q := Wp_step k221 f221_23 (Wp_step k221 f221_24 (Wp_step k221 f221_25 (Wp_step k221 f221_26 (h_1))))
theorem b221_29 {X : (Nat → Int) × Nat} {d : Nat} {s : mSt} {Q : mQ} {x1 : Int} {x2 : Int} {xt0 : Int} (h_1 : Wp X d 221 30 [some (mR 407), some (mI x1), some (mI x2)] [mI 0, mI xt0] s Q) : Wp X d 221 29 [some (mR 407), some (mI x1), some (mI x2)] [mI xt0] s Q := Wp_step k221 f221_29 (h_1)
theorem b221_30 {X : (Nat → Int) × Nat} {d : Nat} {s : mSt} {Q : mQ} {x1 : Int} {x2 : Int} {xt0 : Int} {xt1 : Int} (h_1 : Wp X d 221 4 [some (mR 407), some (mI (iOr xt0 xt1)), some (mI (w32 (x2 + 1)))] [] s Q) : Wp X d 221 30 [some (mR 407), some (mI x1), some (mI x2)] [mI xt1, mI xt0] s Q := Wp_step k221 f221_30 (Wp_step k221 f221_31 (Wp_step k221 f221_32 (Wp_step k221 f221_35 (h_1))))
theorem b221_38 {X : (Nat → Int) × Nat} {d : Nat} {s : mSt} {Q : mQ} {x1 : Int} {x2 : Int} (h_1 : Q (some (mI x1)) s) : Wp X d 221 38 [some (mR 407), some (mI x1), some (mI x2)] [] s Q := Wp_step k221 f221_38 (Wp_step k221 f221_39 ⟨⟨rfl, trivial⟩, h_1⟩)
theorem e221 {X : (Nat → Int) × Nat} {d : Nat} {s : mSt} {Q : mQ} (h : Wp X d 221 0 [some (mR 407), none, none] [] s Q) : Sp X d 221 [mR 407] s Q := Sp_of (show mCe 221 = 0 by decide +kernel) (by rw [show mML 221 = 3 by decide +kernel]; rfl) (Nat.le_trans (Nat.le_of_ble_eq_true (show Nat.ble (mArgs _).length 3 = true from rfl)) (show 3 ≤ mML 221 by decide +kernel)) h
-- 222 ClashDayModel.sitsIn(II)I
theorem k222 : mRk 222 = 1 := by decide +kernel
theorem f222_0 : mFetch 222 0 = some (.iconst 0, 1, 0, 0, 0, 0) := by decide +kernel
theorem f222_1 : mFetch 222 1 = some (.istore_n 3, 1, 0, 0, 0, 0) := by decide +kernel
theorem f222_2 : mFetch 222 2 = some (.iload_n 3, 1, 0, 0, 0, 0) := by decide +kernel
theorem f222_3 : mFetch 222 3 = some (.aload_n 0, 1, 0, 0, 0, 0) := by decide +kernel
theorem f222_4 : mFetch 222 4 = some (.getfield 39, 3, 12, 20, 2, 1) := by decide +kernel
theorem f222_7 : mFetch 222 7 = some (.iconst 3, 1, 0, 0, 0, 0) := by decide +kernel
theorem f222_8 : mFetch 222 8 = some (.iaload, 1, 0, 0, 0, 0) := by decide +kernel
theorem f222_9 : mFetch 222 9 = some (.if_icmp .ge 51, 3, 60, 0, 0, 0) := by decide +kernel
theorem f222_12 : mFetch 222 12 = some (.aload_n 0, 1, 0, 0, 0, 0) := by decide +kernel
theorem f222_13 : mFetch 222 13 = some (.iload_n 1, 1, 0, 0, 0, 0) := by decide +kernel
theorem f222_14 : mFetch 222 14 = some (.iload_n 3, 1, 0, 0, 0, 0) := by decide +kernel
theorem f222_15 : mFetch 222 15 = some (.invokevirtual 321, 3, 217, 0, 3, 12) := by decide +kernel
theorem f222_18 : mFetch 222 18 = some (.ifCond .eq 36, 3, 54, 0, 0, 0) := by decide +kernel
theorem f222_21 : mFetch 222 21 = some (.iload_n 2, 1, 0, 0, 0, 0) := by decide +kernel
theorem f222_22 : mFetch 222 22 = some (.i2l, 1, 0, 0, 0, 0) := by decide +kernel
theorem f222_23 : mFetch 222 23 = some (.aload_n 0, 1, 0, 0, 0, 0) := by decide +kernel
theorem f222_24 : mFetch 222 24 = some (.iload_n 1, 1, 0, 0, 0, 0) := by decide +kernel
theorem f222_25 : mFetch 222 25 = some (.iload_n 3, 1, 0, 0, 0, 0) := by decide +kernel
theorem f222_26 : mFetch 222 26 = some (.invokevirtual 331, 3, 218, 0, 3, 12) := by decide +kernel
theorem f222_29 : mFetch 222 29 = some (.i2l, 1, 0, 0, 0, 0) := by decide +kernel
theorem f222_30 : mFetch 222 30 = some (.aload_n 0, 1, 0, 0, 0, 0) := by decide +kernel
theorem f222_31 : mFetch 222 31 = some (.iload_n 1, 1, 0, 0, 0, 0) := by decide +kernel
theorem f222_32 : mFetch 222 32 = some (.iload_n 3, 1, 0, 0, 0, 0) := by decide +kernel
theorem f222_33 : mFetch 222 33 = some (.invokevirtual 331, 3, 218, 0, 3, 12) := by decide +kernel
theorem f222_36 : mFetch 222 36 = some (.aload_n 0, 1, 0, 0, 0, 0) := by decide +kernel
theorem f222_37 : mFetch 222 37 = some (.iload_n 1, 1, 0, 0, 0, 0) := by decide +kernel
theorem f222_38 : mFetch 222 38 = some (.iload_n 3, 1, 0, 0, 0, 0) := by decide +kernel
theorem f222_39 : mFetch 222 39 = some (.invokevirtual 324, 3, 219, 0, 3, 12) := by decide +kernel
theorem f222_42 : mFetch 222 42 = some (.iadd, 1, 0, 0, 0, 0) := by decide +kernel
theorem f222_43 : mFetch 222 43 = some (.iconst 1, 1, 0, 0, 0, 0) := by decide +kernel
theorem f222_44 : mFetch 222 44 = some (.isub, 1, 0, 0, 0, 0) := by decide +kernel
theorem f222_45 : mFetch 222 45 = some (.i2l, 1, 0, 0, 0, 0) := by decide +kernel
theorem f222_46 : mFetch 222 46 = some (.invokestatic 151, 3, 167, 0, 3, 99) := by decide +kernel
theorem f222_49 : mFetch 222 49 = some (.ifCond .eq 5, 3, 54, 0, 0, 0) := by decide +kernel
theorem f222_52 : mFetch 222 52 = some (.iload_n 3, 1, 0, 0, 0, 0) := by decide +kernel
theorem f222_53 : mFetch 222 53 = some (.ireturn, 1, 0, 0, 0, 0) := by decide +kernel
theorem f222_54 : mFetch 222 54 = some (.iinc 3 1, 3, 0, 0, 0, 0) := by decide +kernel
theorem f222_57 : mFetch 222 57 = some (.goto (-55), 3, 2, 0, 0, 0) := by decide +kernel
theorem f222_60 : mFetch 222 60 = some (.iconst (-1), 1, 0, 0, 0, 0) := by decide +kernel
theorem f222_61 : mFetch 222 61 = some (.ireturn, 1, 0, 0, 0, 0) := by decide +kernel
theorem b222_0 {X : (Nat → Int) × Nat} {d : Nat} {s : mSt} {Q : mQ} {x1 : Int} {x2 : Int} {l3 : Option mV} (h_1 : Wp X d 222 2 [some (mR 407), some (mI x1), some (mI x2), some (mI 0)] [] s Q) : Wp X d 222 0 [some (mR 407), some (mI x1), some (mI x2), l3] [] s Q := Wp_step k222 f222_0 (Wp_step k222 f222_1 (h_1))
theorem b222_2 {X : (Nat → Int) × Nat} {d : Nat} {s : mSt} {Q : mQ} {x1 : Int} {x2 : Int} {x3 : Int} (h_1 : (s 417 3) ≤ x3 → Wp X d 222 60 [some (mR 407), some (mI x1), some (mI x2), some (mI x3)] [] s Q) (h_2 : ¬ (s 417 3) ≤ x3 → Wp X d 222 12 [some (mR 407), some (mI x1), some (mI x2), some (mI x3)] [] s Q) : Wp X d 222 2 [some (mR 407), some (mI x1), some (mI x2), some (mI x3)] [] s Q := Wp_step k222 f222_2 (Wp_step k222 f222_3 (Wp_step k222 f222_4 ⟨kf_407, 417, rf_407_20, Wp_step k222 f222_7 (Wp_step k222 f222_8 ⟨166, af_417, ⟨by decide, by decide⟩, Wp_step k222 f222_9 ⟨h_1, h_2⟩⟩)⟩))
theorem b222_12 {X : (Nat → Int) × Nat} {d : Nat} {s : mSt} {Q : mQ} {x1 : Int} {x2 : Int} {x3 : Int} (h_1 : Sp X d 217 [mR 407, mI x1, mI x3] s (fun r s' => ∃ v : Int, r = some (mI v) ∧ Wp X (d + 1) 222 18 [some (mR 407), some (mI x1), some (mI x2), some (mI x3)] [mI v] s' Q)) : Wp X (d + 1) 222 12 [some (mR 407), some (mI x1), some (mI x2), some (mI x3)] [] s Q := Wp_step k222 f222_12 (Wp_step k222 f222_13 (Wp_step k222 f222_14 (Wp_step k222 f222_15 ⟨⟨kf_407, Nat.le_of_ble_eq_true rfl⟩, Nat.le_refl _, _, rfl, Sp_E h_1⟩)))
theorem b222_18 {X : (Nat → Int) × Nat} {d : Nat} {s : mSt} {Q : mQ} {x1 : Int} {x2 : Int} {x3 : Int} {xt0 : Int} (h_1 : xt0 = 0 → Wp X d 222 54 [some (mR 407), some (mI x1), some (mI x2), some (mI x3)] [] s Q) (h_2 : ¬ xt0 = 0 → Wp X d 222 21 [some (mR 407), some (mI x1), some (mI x2), some (mI x3)] [] s Q) : Wp X d 222 18 [some (mR 407), some (mI x1), some (mI x2), some (mI x3)] [mI xt0] s Q := Wp_step k222 f222_18 ⟨h_1, h_2⟩
theorem b222_21 {X : (Nat → Int) × Nat} {d : Nat} {s : mSt} {Q : mQ} {x1 : Int} {x2 : Int} {x3 : Int} (h_1 : Sp X d 218 [mR 407, mI x1, mI x3] s (fun r s' => ∃ v : Int, r = some (mI v) ∧ Wp X (d + 1) 222 29 [some (mR 407), some (mI x1), some (mI x2), some (mI x3)] [mI v, mJ x2] s' Q)) : Wp X (d + 1) 222 21 [some (mR 407), some (mI x1), some (mI x2), some (mI x3)] [] s Q := Wp_step k222 f222_21 (Wp_step k222 f222_22 (Wp_step k222 f222_23 (Wp_step k222 f222_24 (Wp_step k222 f222_25 (Wp_step k222 f222_26 ⟨⟨kf_407, Nat.le_of_ble_eq_true rfl⟩, Nat.le_refl _, _, rfl, Sp_E h_1⟩)))))
theorem b222_29 {X : (Nat → Int) × Nat} {d : Nat} {s : mSt} {Q : mQ} {x1 : Int} {x2 : Int} {x3 : Int} {xt0 : Int} {xt1 : Int} (h_1 : Sp X d 218 [mR 407, mI x1, mI x3] s (fun r s' => ∃ v : Int, r = some (mI v) ∧ Wp X (d + 1) 222 36 [some (mR 407), some (mI x1), some (mI x2), some (mI x3)] [mI v, mJ xt1, mJ xt0] s' Q)) : Wp X (d + 1) 222 29 [some (mR 407), some (mI x1), some (mI x2), some (mI x3)] [mI xt1, mJ xt0] s Q := Wp_step k222 f222_29 (Wp_step k222 f222_30 (Wp_step k222 f222_31 (Wp_step k222 f222_32 (Wp_step k222 f222_33 ⟨⟨kf_407, Nat.le_of_ble_eq_true rfl⟩, Nat.le_refl _, _, rfl, Sp_E h_1⟩))))
theorem b222_36 {X : (Nat → Int) × Nat} {d : Nat} {s : mSt} {Q : mQ} {x1 : Int} {x2 : Int} {x3 : Int} {xt0 : Int} {xt1 : Int} {xt2 : Int} (h_1 : Sp X d 219 [mR 407, mI x1, mI x3] s (fun r s' => ∃ v : Int, r = some (mI v) ∧ Wp X (d + 1) 222 42 [some (mR 407), some (mI x1), some (mI x2), some (mI x3)] [mI v, mI xt2, mJ xt1, mJ xt0] s' Q)) : Wp X (d + 1) 222 36 [some (mR 407), some (mI x1), some (mI x2), some (mI x3)] [mI xt2, mJ xt1, mJ xt0] s Q := Wp_step k222 f222_36 (Wp_step k222 f222_37 (Wp_step k222 f222_38 (Wp_step k222 f222_39 ⟨⟨kf_407, Nat.le_of_ble_eq_true rfl⟩, Nat.le_refl _, _, rfl, Sp_E h_1⟩)))
theorem b222_42 {X : (Nat → Int) × Nat} {d : Nat} {s : mSt} {Q : mQ} {x1 : Int} {x2 : Int} {x3 : Int} {xt0 : Int} {xt1 : Int} {xt2 : Int} {xt3 : Int} (h_1 : Sp X d 167 [mJ xt0, mJ xt1, mJ (w32 ((w32 (xt2 + xt3)) - 1))] s (fun r s' => ∃ v : Int, r = some (mI v) ∧ Wp X (d + 1) 222 49 [some (mR 407), some (mI x1), some (mI x2), some (mI x3)] [mI v] s' Q)) : Wp X (d + 1) 222 42 [some (mR 407), some (mI x1), some (mI x2), some (mI x3)] [mI xt3, mI xt2, mJ xt1, mJ xt0] s Q := Wp_step k222 f222_42 (Wp_step k222 f222_43 (Wp_step k222 f222_44 (Wp_step k222 f222_45 (Wp_step k222 f222_46 ⟨⟨Nat.le_of_ble_eq_true rfl, Nat.le_refl _⟩, _, rfl, Sp_E h_1⟩))))
theorem b222_49 {X : (Nat → Int) × Nat} {d : Nat} {s : mSt} {Q : mQ} {x1 : Int} {x2 : Int} {x3 : Int} {xt0 : Int} (h_1 : xt0 = 0 → Wp X d 222 54 [some (mR 407), some (mI x1), some (mI x2), some (mI x3)] [] s Q) (h_2 : ¬ xt0 = 0 → Wp X d 222 52 [some (mR 407), some (mI x1), some (mI x2), some (mI x3)] [] s Q) : Wp X d 222 49 [some (mR 407), some (mI x1), some (mI x2), some (mI x3)] [mI xt0] s Q := Wp_step k222 f222_49 ⟨h_1, h_2⟩
theorem b222_52 {X : (Nat → Int) × Nat} {d : Nat} {s : mSt} {Q : mQ} {x1 : Int} {x2 : Int} {x3 : Int} (h_1 : Q (some (mI x3)) s) : Wp X d 222 52 [some (mR 407), some (mI x1), some (mI x2), some (mI x3)] [] s Q := Wp_step k222 f222_52 (Wp_step k222 f222_53 ⟨⟨rfl, trivial⟩, h_1⟩)
theorem b222_54 {X : (Nat → Int) × Nat} {d : Nat} {s : mSt} {Q : mQ} {x1 : Int} {x2 : Int} {x3 : Int} (h_1 : Wp X d 222 2 [some (mR 407), some (mI x1), some (mI x2), some (mI (w32 (x3 + 1)))] [] s Q) : Wp X d 222 54 [some (mR 407), some (mI x1), some (mI x2), some (mI x3)] [] s Q := Wp_step k222 f222_54 (Wp_step k222 f222_57 (h_1))
theorem b222_60 {X : (Nat → Int) × Nat} {d : Nat} {s : mSt} {Q : mQ} {x1 : Int} {x2 : Int} {x3 : Int} (h_1 : Q (some (mI (-1))) s) : Wp X d 222 60 [some (mR 407), some (mI x1), some (mI x2), some (mI x3)] [] s Q := Wp_step k222 f222_60 (Wp_step k222 f222_61 ⟨⟨rfl, trivial⟩, h_1⟩)
theorem e222 {X : (Nat → Int) × Nat} {d : Nat} {s : mSt} {Q : mQ} {x1 : Int} {x2 : Int} (h : Wp X d 222 0 [some (mR 407), some (mI x1), some (mI x2), none] [] s Q) : Sp X d 222 [mR 407, mI x1, mI x2] s Q := Sp_of (show mCe 222 = 0 by decide +kernel) (by rw [show mML 222 = 4 by decide +kernel]; rfl) (Nat.le_trans (Nat.le_of_ble_eq_true (show Nat.ble (mArgs _).length 4 = true from rfl)) (show 4 ≤ mML 222 by decide +kernel)) h
-- 223 ClashDayModel.freeIn(I)I
theorem k223 : mRk 223 = 1 := by decide +kernel
theorem f223_0 : mFetch 223 0 = some (.aload_n 0, 1, 0, 0, 0, 0) := by decide +kernel
theorem f223_1 : mFetch 223 1 = some (.getfield 39, 3, 12, 20, 2, 1) := by decide +kernel
theorem f223_4 : mFetch 223 4 = some (.iconst 1, 1, 0, 0, 0, 0) := by decide +kernel
theorem f223_5 : mFetch 223 5 = some (.iaload, 1, 0, 0, 0, 0) := by decide +kernel
theorem f223_6 : mFetch 223 6 = some (.aload_n 0, 1, 0, 0, 0, 0) := by decide +kernel
theorem f223_7 : mFetch 223 7 = some (.getfield 39, 3, 12, 20, 2, 1) := by decide +kernel
theorem f223_10 : mFetch 223 10 = some (.bipush 11, 2, 0, 0, 0, 0) := by decide +kernel
theorem f223_12 : mFetch 223 12 = some (.iload_n 1, 1, 0, 0, 0, 0) := by decide +kernel
theorem f223_13 : mFetch 223 13 = some (.iadd, 1, 0, 0, 0, 0) := by decide +kernel
theorem f223_14 : mFetch 223 14 = some (.iaload, 1, 0, 0, 0, 0) := by decide +kernel
theorem f223_15 : mFetch 223 15 = some (.isub, 1, 0, 0, 0, 0) := by decide +kernel
theorem f223_16 : mFetch 223 16 = some (.istore_n 2, 1, 0, 0, 0, 0) := by decide +kernel
theorem f223_17 : mFetch 223 17 = some (.iconst 0, 1, 0, 0, 0, 0) := by decide +kernel
theorem f223_18 : mFetch 223 18 = some (.istore_n 3, 1, 0, 0, 0, 0) := by decide +kernel
theorem f223_19 : mFetch 223 19 = some (.iload_n 3, 1, 0, 0, 0, 0) := by decide +kernel
theorem f223_20 : mFetch 223 20 = some (.aload_n 0, 1, 0, 0, 0, 0) := by decide +kernel
theorem f223_21 : mFetch 223 21 = some (.getfield 39, 3, 12, 20, 2, 1) := by decide +kernel
theorem f223_24 : mFetch 223 24 = some (.iconst 4, 1, 0, 0, 0, 0) := by decide +kernel
theorem f223_25 : mFetch 223 25 = some (.iaload, 1, 0, 0, 0, 0) := by decide +kernel
theorem f223_26 : mFetch 223 26 = some (.if_icmp .ge 34, 3, 60, 0, 0, 0) := by decide +kernel
theorem f223_29 : mFetch 223 29 = some (.iload_n 2, 1, 0, 0, 0, 0) := by decide +kernel
theorem f223_30 : mFetch 223 30 = some (.aload_n 0, 1, 0, 0, 0, 0) := by decide +kernel
theorem f223_31 : mFetch 223 31 = some (.iload_n 3, 1, 0, 0, 0, 0) := by decide +kernel
theorem f223_32 : mFetch 223 32 = some (.invokevirtual 334, 3, 216, 0, 2, 12) := by decide +kernel
theorem f223_35 : mFetch 223 35 = some (.ifCond .eq 16, 3, 51, 0, 0, 0) := by decide +kernel
theorem f223_38 : mFetch 223 38 = some (.aload_n 0, 1, 0, 0, 0, 0) := by decide +kernel
theorem f223_39 : mFetch 223 39 = some (.iload_n 3, 1, 0, 0, 0, 0) := by decide +kernel
theorem f223_40 : mFetch 223 40 = some (.iload_n 1, 1, 0, 0, 0, 0) := by decide +kernel
theorem f223_41 : mFetch 223 41 = some (.invokevirtual 337, 3, 222, 0, 3, 12) := by decide +kernel
theorem f223_44 : mFetch 223 44 = some (.ifCond .lt 7, 3, 51, 0, 0, 0) := by decide +kernel
theorem f223_47 : mFetch 223 47 = some (.iconst 1, 1, 0, 0, 0, 0) := by decide +kernel
theorem f223_48 : mFetch 223 48 = some (.goto 4, 3, 52, 0, 0, 0) := by decide +kernel
theorem f223_51 : mFetch 223 51 = some (.iconst 0, 1, 0, 0, 0, 0) := by decide +kernel
theorem f223_52 : mFetch 223 52 = some (.isub, 1, 0, 0, 0, 0) := by decide +kernel
theorem f223_53 : mFetch 223 53 = some (.istore_n 2, 1, 0, 0, 0, 0) := by decide +kernel
theorem f223_54 : mFetch 223 54 = some (.iinc 3 1, 3, 0, 0, 0, 0) := by decide +kernel
theorem f223_57 : mFetch 223 57 = some (.goto (-38), 3, 19, 0, 0, 0) := by decide +kernel
theorem f223_60 : mFetch 223 60 = some (.iload_n 2, 1, 0, 0, 0, 0) := by decide +kernel
theorem f223_61 : mFetch 223 61 = some (.ifCond .ge 7, 3, 68, 0, 0, 0) := by decide +kernel
theorem f223_64 : mFetch 223 64 = some (.iconst 0, 1, 0, 0, 0, 0) := by decide +kernel
theorem f223_65 : mFetch 223 65 = some (.goto 4, 3, 69, 0, 0, 0) := by decide +kernel
theorem f223_68 : mFetch 223 68 = some (.iload_n 2, 1, 0, 0, 0, 0) := by decide +kernel
theorem f223_69 : mFetch 223 69 = some (.ireturn, 1, 0, 0, 0, 0) := by decide +kernel
theorem b223_0 {X : (Nat → Int) × Nat} {d : Nat} {s : mSt} {Q : mQ} {x1 : Int} {l2 : Option mV} {l3 : Option mV} (h_1 : 0 ≤ (w32 (11 + x1)) ∧ (w32 (11 + x1)) < 166) (h_2 : Wp X d 223 19 [some (mR 407), some (mI x1), some (mI (w32 ((s 417 1) - (s 417 (w32 (11 + x1)).toNat)))), some (mI 0)] [] s Q) : Wp X d 223 0 [some (mR 407), some (mI x1), l2, l3] [] s Q := Wp_step k223 f223_0 (Wp_step k223 f223_1 ⟨kf_407, 417, rf_407_20, Wp_step k223 f223_4 (Wp_step k223 f223_5 ⟨166, af_417, ⟨by decide, by decide⟩, Wp_step k223 f223_6 (Wp_step k223 f223_7 ⟨kf_407, 417, rf_407_20, Wp_step k223 f223_10 (Wp_step k223 f223_12 (Wp_step k223 f223_13 (Wp_step k223 f223_14 ⟨166, af_417, h_1, Wp_step k223 f223_15 (Wp_step k223 f223_16 (Wp_step k223 f223_17 (Wp_step k223 f223_18 (h_2))))⟩)))⟩)⟩)⟩)
theorem b223_19 {X : (Nat → Int) × Nat} {d : Nat} {s : mSt} {Q : mQ} {x1 : Int} {x2 : Int} {x3 : Int} (h_1 : (s 417 4) ≤ x3 → Wp X d 223 60 [some (mR 407), some (mI x1), some (mI x2), some (mI x3)] [] s Q) (h_2 : ¬ (s 417 4) ≤ x3 → Wp X d 223 29 [some (mR 407), some (mI x1), some (mI x2), some (mI x3)] [] s Q) : Wp X d 223 19 [some (mR 407), some (mI x1), some (mI x2), some (mI x3)] [] s Q := Wp_step k223 f223_19 (Wp_step k223 f223_20 (Wp_step k223 f223_21 ⟨kf_407, 417, rf_407_20, Wp_step k223 f223_24 (Wp_step k223 f223_25 ⟨166, af_417, ⟨by decide, by decide⟩, Wp_step k223 f223_26 ⟨h_1, h_2⟩⟩)⟩))
theorem b223_29 {X : (Nat → Int) × Nat} {d : Nat} {s : mSt} {Q : mQ} {x1 : Int} {x2 : Int} {x3 : Int} (h_1 : Sp X d 216 [mR 407, mI x3] s (fun r s' => ∃ v : Int, r = some (mI v) ∧ Wp X (d + 1) 223 35 [some (mR 407), some (mI x1), some (mI x2), some (mI x3)] [mI v, mI x2] s' Q)) : Wp X (d + 1) 223 29 [some (mR 407), some (mI x1), some (mI x2), some (mI x3)] [] s Q := Wp_step k223 f223_29 (Wp_step k223 f223_30 (Wp_step k223 f223_31 (Wp_step k223 f223_32 ⟨⟨kf_407, Nat.le_of_ble_eq_true rfl⟩, Nat.le_refl _, _, rfl, Sp_E h_1⟩)))
theorem b223_35 {X : (Nat → Int) × Nat} {d : Nat} {s : mSt} {Q : mQ} {x1 : Int} {x2 : Int} {x3 : Int} {xt0 : Int} {xt1 : Int} (h_1 : xt1 = 0 → Wp X d 223 51 [some (mR 407), some (mI x1), some (mI x2), some (mI x3)] [mI xt0] s Q) (h_2 : ¬ xt1 = 0 → Wp X d 223 38 [some (mR 407), some (mI x1), some (mI x2), some (mI x3)] [mI xt0] s Q) : Wp X d 223 35 [some (mR 407), some (mI x1), some (mI x2), some (mI x3)] [mI xt1, mI xt0] s Q := Wp_step k223 f223_35 ⟨h_1, h_2⟩
theorem b223_38 {X : (Nat → Int) × Nat} {d : Nat} {s : mSt} {Q : mQ} {x1 : Int} {x2 : Int} {x3 : Int} {xt0 : Int} (h_1 : Sp X d 222 [mR 407, mI x3, mI x1] s (fun r s' => ∃ v : Int, r = some (mI v) ∧ Wp X (d + 1) 223 44 [some (mR 407), some (mI x1), some (mI x2), some (mI x3)] [mI v, mI xt0] s' Q)) : Wp X (d + 1) 223 38 [some (mR 407), some (mI x1), some (mI x2), some (mI x3)] [mI xt0] s Q := Wp_step k223 f223_38 (Wp_step k223 f223_39 (Wp_step k223 f223_40 (Wp_step k223 f223_41 ⟨⟨kf_407, Nat.le_of_ble_eq_true rfl⟩, Nat.le_refl _, _, rfl, Sp_E h_1⟩)))
theorem b223_44 {X : (Nat → Int) × Nat} {d : Nat} {s : mSt} {Q : mQ} {x1 : Int} {x2 : Int} {x3 : Int} {xt0 : Int} {xt1 : Int} (h_1 : xt1 < 0 → Wp X d 223 51 [some (mR 407), some (mI x1), some (mI x2), some (mI x3)] [mI xt0] s Q) (h_2 : ¬ xt1 < 0 → Wp X d 223 47 [some (mR 407), some (mI x1), some (mI x2), some (mI x3)] [mI xt0] s Q) : Wp X d 223 44 [some (mR 407), some (mI x1), some (mI x2), some (mI x3)] [mI xt1, mI xt0] s Q := Wp_step k223 f223_44 ⟨h_1, h_2⟩
theorem b223_47 {X : (Nat → Int) × Nat} {d : Nat} {s : mSt} {Q : mQ} {x1 : Int} {x2 : Int} {x3 : Int} {xt0 : Int} (h_1 : Wp X d 223 52 [some (mR 407), some (mI x1), some (mI x2), some (mI x3)] [mI 1, mI xt0] s Q) : Wp X d 223 47 [some (mR 407), some (mI x1), some (mI x2), some (mI x3)] [mI xt0] s Q := Wp_step k223 f223_47 (Wp_step k223 f223_48 (h_1))
theorem b223_51 {X : (Nat → Int) × Nat} {d : Nat} {s : mSt} {Q : mQ} {x1 : Int} {x2 : Int} {x3 : Int} {xt0 : Int} (h_1 : Wp X d 223 52 [some (mR 407), some (mI x1), some (mI x2), some (mI x3)] [mI 0, mI xt0] s Q) : Wp X d 223 51 [some (mR 407), some (mI x1), some (mI x2), some (mI x3)] [mI xt0] s Q := Wp_step k223 f223_51 (h_1)
theorem b223_52 {X : (Nat → Int) × Nat} {d : Nat} {s : mSt} {Q : mQ} {x1 : Int} {x2 : Int} {x3 : Int} {xt0 : Int} {xt1 : Int} (h_1 : Wp X d 223 19 [some (mR 407), some (mI x1), some (mI (w32 (xt0 - xt1))), some (mI (w32 (x3 + 1)))] [] s Q) : Wp X d 223 52 [some (mR 407), some (mI x1), some (mI x2), some (mI x3)] [mI xt1, mI xt0] s Q := Wp_step k223 f223_52 (Wp_step k223 f223_53 (Wp_step k223 f223_54 (Wp_step k223 f223_57 (h_1))))
theorem b223_60 {X : (Nat → Int) × Nat} {d : Nat} {s : mSt} {Q : mQ} {x1 : Int} {x2 : Int} {x3 : Int} (h_1 : 0 ≤ x2 → Wp X d 223 68 [some (mR 407), some (mI x1), some (mI x2), some (mI x3)] [] s Q) (h_2 : ¬ 0 ≤ x2 → Wp X d 223 64 [some (mR 407), some (mI x1), some (mI x2), some (mI x3)] [] s Q) : Wp X d 223 60 [some (mR 407), some (mI x1), some (mI x2), some (mI x3)] [] s Q := Wp_step k223 f223_60 (Wp_step k223 f223_61 ⟨h_1, h_2⟩)
theorem b223_64 {X : (Nat → Int) × Nat} {d : Nat} {s : mSt} {Q : mQ} {x1 : Int} {x2 : Int} {x3 : Int} (h_1 : Wp X d 223 69 [some (mR 407), some (mI x1), some (mI x2), some (mI x3)] [mI 0] s Q) : Wp X d 223 64 [some (mR 407), some (mI x1), some (mI x2), some (mI x3)] [] s Q := Wp_step k223 f223_64 (Wp_step k223 f223_65 (h_1))
theorem b223_68 {X : (Nat → Int) × Nat} {d : Nat} {s : mSt} {Q : mQ} {x1 : Int} {x2 : Int} {x3 : Int} (h_1 : Wp X d 223 69 [some (mR 407), some (mI x1), some (mI x2), some (mI x3)] [mI x2] s Q) : Wp X d 223 68 [some (mR 407), some (mI x1), some (mI x2), some (mI x3)] [] s Q := Wp_step k223 f223_68 (h_1)
theorem b223_69 {X : (Nat → Int) × Nat} {d : Nat} {s : mSt} {Q : mQ} {x1 : Int} {x2 : Int} {x3 : Int} {xt0 : Int} (h_1 : Q (some (mI xt0)) s) : Wp X d 223 69 [some (mR 407), some (mI x1), some (mI x2), some (mI x3)] [mI xt0] s Q := Wp_step k223 f223_69 ⟨⟨rfl, trivial⟩, h_1⟩
theorem e223 {X : (Nat → Int) × Nat} {d : Nat} {s : mSt} {Q : mQ} {x1 : Int} (h : Wp X d 223 0 [some (mR 407), some (mI x1), none, none] [] s Q) : Sp X d 223 [mR 407, mI x1] s Q := Sp_of (show mCe 223 = 0 by decide +kernel) (by rw [show mML 223 = 4 by decide +kernel]; rfl) (Nat.le_trans (Nat.le_of_ble_eq_true (show Nat.ble (mArgs _).length 4 = true from rfl)) (show 4 ≤ mML 223 by decide +kernel)) h
-- 224 ClashDayModel.isKept(II)Z
theorem k224 : mRk 224 = 2 := by decide +kernel
theorem f224_0 : mFetch 224 0 = some (.aload_n 0, 1, 0, 0, 0, 0) := by decide +kernel
theorem f224_1 : mFetch 224 1 = some (.iload_n 1, 1, 0, 0, 0, 0) := by decide +kernel
theorem f224_2 : mFetch 224 2 = some (.iload_n 2, 1, 0, 0, 0, 0) := by decide +kernel
theorem f224_3 : mFetch 224 3 = some (.invokevirtual 337, 3, 222, 0, 3, 12) := by decide +kernel
theorem f224_6 : mFetch 224 6 = some (.ifCond .lt 5, 3, 11, 0, 0, 0) := by decide +kernel
theorem f224_9 : mFetch 224 9 = some (.iconst 0, 1, 0, 0, 0, 0) := by decide +kernel
theorem f224_10 : mFetch 224 10 = some (.ireturn, 1, 0, 0, 0, 0) := by decide +kernel
theorem f224_11 : mFetch 224 11 = some (.iconst 0, 1, 0, 0, 0, 0) := by decide +kernel
theorem f224_12 : mFetch 224 12 = some (.istore_n 3, 1, 0, 0, 0, 0) := by decide +kernel
theorem f224_13 : mFetch 224 13 = some (.iload_n 3, 1, 0, 0, 0, 0) := by decide +kernel
theorem f224_14 : mFetch 224 14 = some (.aload_n 0, 1, 0, 0, 0, 0) := by decide +kernel
theorem f224_15 : mFetch 224 15 = some (.getfield 39, 3, 12, 20, 2, 1) := by decide +kernel
theorem f224_18 : mFetch 224 18 = some (.iconst 3, 1, 0, 0, 0, 0) := by decide +kernel
theorem f224_19 : mFetch 224 19 = some (.iaload, 1, 0, 0, 0, 0) := by decide +kernel
theorem f224_20 : mFetch 224 20 = some (.if_icmp .ge 43, 3, 63, 0, 0, 0) := by decide +kernel
theorem f224_23 : mFetch 224 23 = some (.aload_n 0, 1, 0, 0, 0, 0) := by decide +kernel
theorem f224_24 : mFetch 224 24 = some (.iload_n 1, 1, 0, 0, 0, 0) := by decide +kernel
theorem f224_25 : mFetch 224 25 = some (.iload_n 3, 1, 0, 0, 0, 0) := by decide +kernel
theorem f224_26 : mFetch 224 26 = some (.invokevirtual 321, 3, 217, 0, 3, 12) := by decide +kernel
theorem f224_29 : mFetch 224 29 = some (.ifCond .eq 28, 3, 57, 0, 0, 0) := by decide +kernel
theorem f224_32 : mFetch 224 32 = some (.aload_n 0, 1, 0, 0, 0, 0) := by decide +kernel
theorem f224_33 : mFetch 224 33 = some (.getfield 39, 3, 12, 20, 2, 1) := by decide +kernel
theorem f224_36 : mFetch 224 36 = some (.bipush 6, 2, 0, 0, 0, 0) := by decide +kernel
theorem f224_38 : mFetch 224 38 = some (.iload_n 3, 1, 0, 0, 0, 0) := by decide +kernel
theorem f224_39 : mFetch 224 39 = some (.iadd, 1, 0, 0, 0, 0) := by decide +kernel
theorem f224_40 : mFetch 224 40 = some (.iaload, 1, 0, 0, 0, 0) := by decide +kernel
theorem f224_41 : mFetch 224 41 = some (.iload_n 2, 1, 0, 0, 0, 0) := by decide +kernel
theorem f224_42 : mFetch 224 42 = some (.if_icmp .gt 15, 3, 57, 0, 0, 0) := by decide +kernel
theorem f224_45 : mFetch 224 45 = some (.aload_n 0, 1, 0, 0, 0, 0) := by decide +kernel
theorem f224_46 : mFetch 224 46 = some (.iload_n 1, 1, 0, 0, 0, 0) := by decide +kernel
theorem f224_47 : mFetch 224 47 = some (.iload_n 3, 1, 0, 0, 0, 0) := by decide +kernel
theorem f224_48 : mFetch 224 48 = some (.invokevirtual 331, 3, 218, 0, 3, 12) := by decide +kernel
theorem f224_51 : mFetch 224 51 = some (.iload_n 2, 1, 0, 0, 0, 0) := by decide +kernel
theorem f224_52 : mFetch 224 52 = some (.if_icmp .le 5, 3, 57, 0, 0, 0) := by decide +kernel
theorem f224_55 : mFetch 224 55 = some (.iconst 1, 1, 0, 0, 0, 0) := by decide +kernel
theorem f224_56 : mFetch 224 56 = some (.ireturn, 1, 0, 0, 0, 0) := by decide +kernel
theorem f224_57 : mFetch 224 57 = some (.iinc 3 1, 3, 0, 0, 0, 0) := by decide +kernel
theorem f224_60 : mFetch 224 60 = some (.goto (-47), 3, 13, 0, 0, 0) := by decide +kernel
theorem f224_63 : mFetch 224 63 = some (.iconst 0, 1, 0, 0, 0, 0) := by decide +kernel
theorem f224_64 : mFetch 224 64 = some (.ireturn, 1, 0, 0, 0, 0) := by decide +kernel
theorem b224_0 {X : (Nat → Int) × Nat} {d : Nat} {s : mSt} {Q : mQ} {x1 : Int} {x2 : Int} {l3 : Option mV} (h_1 : Sp X d 222 [mR 407, mI x1, mI x2] s (fun r s' => ∃ v : Int, r = some (mI v) ∧ Wp X (d + 1) 224 6 [some (mR 407), some (mI x1), some (mI x2), l3] [mI v] s' Q)) : Wp X (d + 1) 224 0 [some (mR 407), some (mI x1), some (mI x2), l3] [] s Q := Wp_step k224 f224_0 (Wp_step k224 f224_1 (Wp_step k224 f224_2 (Wp_step k224 f224_3 ⟨⟨kf_407, Nat.le_of_ble_eq_true rfl⟩, Nat.le_refl _, _, rfl, Sp_E h_1⟩)))
theorem b224_6 {X : (Nat → Int) × Nat} {d : Nat} {s : mSt} {Q : mQ} {x1 : Int} {x2 : Int} {l3 : Option mV} {xt0 : Int} (h_1 : xt0 < 0 → Wp X d 224 11 [some (mR 407), some (mI x1), some (mI x2), l3] [] s Q) (h_2 : ¬ xt0 < 0 → Wp X d 224 9 [some (mR 407), some (mI x1), some (mI x2), l3] [] s Q) : Wp X d 224 6 [some (mR 407), some (mI x1), some (mI x2), l3] [mI xt0] s Q := Wp_step k224 f224_6 ⟨h_1, h_2⟩
theorem b224_9 {X : (Nat → Int) × Nat} {d : Nat} {s : mSt} {Q : mQ} {x1 : Int} {x2 : Int} {l3 : Option mV} (h_1 : Q (some (mI 0)) s) : Wp X d 224 9 [some (mR 407), some (mI x1), some (mI x2), l3] [] s Q := Wp_step k224 f224_9 (Wp_step k224 f224_10 ⟨⟨rfl, (Or.inl rfl)⟩, h_1⟩)
theorem b224_11 {X : (Nat → Int) × Nat} {d : Nat} {s : mSt} {Q : mQ} {x1 : Int} {x2 : Int} {l3 : Option mV} (h_1 : Wp X d 224 13 [some (mR 407), some (mI x1), some (mI x2), some (mI 0)] [] s Q) : Wp X d 224 11 [some (mR 407), some (mI x1), some (mI x2), l3] [] s Q := Wp_step k224 f224_11 (Wp_step k224 f224_12 (h_1))
theorem b224_13 {X : (Nat → Int) × Nat} {d : Nat} {s : mSt} {Q : mQ} {x1 : Int} {x2 : Int} {x3 : Int} (h_1 : (s 417 3) ≤ x3 → Wp X d 224 63 [some (mR 407), some (mI x1), some (mI x2), some (mI x3)] [] s Q) (h_2 : ¬ (s 417 3) ≤ x3 → Wp X d 224 23 [some (mR 407), some (mI x1), some (mI x2), some (mI x3)] [] s Q) : Wp X d 224 13 [some (mR 407), some (mI x1), some (mI x2), some (mI x3)] [] s Q := Wp_step k224 f224_13 (Wp_step k224 f224_14 (Wp_step k224 f224_15 ⟨kf_407, 417, rf_407_20, Wp_step k224 f224_18 (Wp_step k224 f224_19 ⟨166, af_417, ⟨by decide, by decide⟩, Wp_step k224 f224_20 ⟨h_1, h_2⟩⟩)⟩))
theorem b224_23 {X : (Nat → Int) × Nat} {d : Nat} {s : mSt} {Q : mQ} {x1 : Int} {x2 : Int} {x3 : Int} (h_1 : Sp X d 217 [mR 407, mI x1, mI x3] s (fun r s' => ∃ v : Int, r = some (mI v) ∧ Wp X (d + 1) 224 29 [some (mR 407), some (mI x1), some (mI x2), some (mI x3)] [mI v] s' Q)) : Wp X (d + 1) 224 23 [some (mR 407), some (mI x1), some (mI x2), some (mI x3)] [] s Q := Wp_step k224 f224_23 (Wp_step k224 f224_24 (Wp_step k224 f224_25 (Wp_step k224 f224_26 ⟨⟨kf_407, Nat.le_of_ble_eq_true rfl⟩, Nat.le_refl _, _, rfl, Sp_E h_1⟩)))
theorem b224_29 {X : (Nat → Int) × Nat} {d : Nat} {s : mSt} {Q : mQ} {x1 : Int} {x2 : Int} {x3 : Int} {xt0 : Int} (h_1 : xt0 = 0 → Wp X d 224 57 [some (mR 407), some (mI x1), some (mI x2), some (mI x3)] [] s Q) (h_2 : ¬ xt0 = 0 → Wp X d 224 32 [some (mR 407), some (mI x1), some (mI x2), some (mI x3)] [] s Q) : Wp X d 224 29 [some (mR 407), some (mI x1), some (mI x2), some (mI x3)] [mI xt0] s Q := Wp_step k224 f224_29 ⟨h_1, h_2⟩
theorem b224_32 {X : (Nat → Int) × Nat} {d : Nat} {s : mSt} {Q : mQ} {x1 : Int} {x2 : Int} {x3 : Int} (h_1 : 0 ≤ (w32 (6 + x3)) ∧ (w32 (6 + x3)) < 166) (h_2 : x2 < (s 417 (w32 (6 + x3)).toNat) → Wp X d 224 57 [some (mR 407), some (mI x1), some (mI x2), some (mI x3)] [] s Q) (h_3 : ¬ x2 < (s 417 (w32 (6 + x3)).toNat) → Wp X d 224 45 [some (mR 407), some (mI x1), some (mI x2), some (mI x3)] [] s Q) : Wp X d 224 32 [some (mR 407), some (mI x1), some (mI x2), some (mI x3)] [] s Q := Wp_step k224 f224_32 (Wp_step k224 f224_33 ⟨kf_407, 417, rf_407_20, Wp_step k224 f224_36 (Wp_step k224 f224_38 (Wp_step k224 f224_39 (Wp_step k224 f224_40 ⟨166, af_417, h_1, Wp_step k224 f224_41 (Wp_step k224 f224_42 ⟨h_2, h_3⟩)⟩)))⟩)
theorem b224_45 {X : (Nat → Int) × Nat} {d : Nat} {s : mSt} {Q : mQ} {x1 : Int} {x2 : Int} {x3 : Int} (h_1 : Sp X d 218 [mR 407, mI x1, mI x3] s (fun r s' => ∃ v : Int, r = some (mI v) ∧ Wp X (d + 1) 224 51 [some (mR 407), some (mI x1), some (mI x2), some (mI x3)] [mI v] s' Q)) : Wp X (d + 1) 224 45 [some (mR 407), some (mI x1), some (mI x2), some (mI x3)] [] s Q := Wp_step k224 f224_45 (Wp_step k224 f224_46 (Wp_step k224 f224_47 (Wp_step k224 f224_48 ⟨⟨kf_407, Nat.le_of_ble_eq_true rfl⟩, Nat.le_refl _, _, rfl, Sp_E h_1⟩)))
theorem b224_51 {X : (Nat → Int) × Nat} {d : Nat} {s : mSt} {Q : mQ} {x1 : Int} {x2 : Int} {x3 : Int} {xt0 : Int} (h_1 : xt0 ≤ x2 → Wp X d 224 57 [some (mR 407), some (mI x1), some (mI x2), some (mI x3)] [] s Q) (h_2 : ¬ xt0 ≤ x2 → Wp X d 224 55 [some (mR 407), some (mI x1), some (mI x2), some (mI x3)] [] s Q) : Wp X d 224 51 [some (mR 407), some (mI x1), some (mI x2), some (mI x3)] [mI xt0] s Q := Wp_step k224 f224_51 (Wp_step k224 f224_52 ⟨h_1, h_2⟩)
theorem b224_55 {X : (Nat → Int) × Nat} {d : Nat} {s : mSt} {Q : mQ} {x1 : Int} {x2 : Int} {x3 : Int} (h_1 : Q (some (mI 1)) s) : Wp X d 224 55 [some (mR 407), some (mI x1), some (mI x2), some (mI x3)] [] s Q := Wp_step k224 f224_55 (Wp_step k224 f224_56 ⟨⟨rfl, (Or.inr rfl)⟩, h_1⟩)
theorem b224_57 {X : (Nat → Int) × Nat} {d : Nat} {s : mSt} {Q : mQ} {x1 : Int} {x2 : Int} {x3 : Int} (h_1 : Wp X d 224 13 [some (mR 407), some (mI x1), some (mI x2), some (mI (w32 (x3 + 1)))] [] s Q) : Wp X d 224 57 [some (mR 407), some (mI x1), some (mI x2), some (mI x3)] [] s Q := Wp_step k224 f224_57 (Wp_step k224 f224_60 (h_1))
theorem b224_63 {X : (Nat → Int) × Nat} {d : Nat} {s : mSt} {Q : mQ} {x1 : Int} {x2 : Int} {x3 : Int} (h_1 : Q (some (mI 0)) s) : Wp X d 224 63 [some (mR 407), some (mI x1), some (mI x2), some (mI x3)] [] s Q := Wp_step k224 f224_63 (Wp_step k224 f224_64 ⟨⟨rfl, (Or.inl rfl)⟩, h_1⟩)
theorem e224 {X : (Nat → Int) × Nat} {d : Nat} {s : mSt} {Q : mQ} {x1 : Int} {x2 : Int} (h : Wp X d 224 0 [some (mR 407), some (mI x1), some (mI x2), none] [] s Q) : Sp X d 224 [mR 407, mI x1, mI x2] s Q := Sp_of (show mCe 224 = 0 by decide +kernel) (by rw [show mML 224 = 4 by decide +kernel]; rfl) (Nat.le_trans (Nat.le_of_ble_eq_true (show Nat.ble (mArgs _).length 4 = true from rfl)) (show 4 ≤ mML 224 by decide +kernel)) h
-- 225 ClashDayModel.keptOf(I)I
theorem k225 : mRk 225 = 1 := by decide +kernel
theorem f225_0 : mFetch 225 0 = some (.iconst 0, 1, 0, 0, 0, 0) := by decide +kernel
theorem f225_1 : mFetch 225 1 = some (.istore_n 2, 1, 0, 0, 0, 0) := by decide +kernel
theorem f225_2 : mFetch 225 2 = some (.iconst 0, 1, 0, 0, 0, 0) := by decide +kernel
theorem f225_3 : mFetch 225 3 = some (.istore_n 3, 1, 0, 0, 0, 0) := by decide +kernel
theorem f225_4 : mFetch 225 4 = some (.iload_n 3, 1, 0, 0, 0, 0) := by decide +kernel
theorem f225_5 : mFetch 225 5 = some (.bipush 30, 2, 0, 0, 0, 0) := by decide +kernel
theorem f225_7 : mFetch 225 7 = some (.if_icmp .ge 26, 3, 33, 0, 0, 0) := by decide +kernel
theorem f225_10 : mFetch 225 10 = some (.iload_n 2, 1, 0, 0, 0, 0) := by decide +kernel
theorem f225_11 : mFetch 225 11 = some (.aload_n 0, 1, 0, 0, 0, 0) := by decide +kernel
theorem f225_12 : mFetch 225 12 = some (.iload_n 1, 1, 0, 0, 0, 0) := by decide +kernel
theorem f225_13 : mFetch 225 13 = some (.iload_n 3, 1, 0, 0, 0, 0) := by decide +kernel
theorem f225_14 : mFetch 225 14 = some (.invokevirtual 340, 3, 224, 0, 3, 12) := by decide +kernel
theorem f225_17 : mFetch 225 17 = some (.ifCond .eq 7, 3, 24, 0, 0, 0) := by decide +kernel
theorem f225_20 : mFetch 225 20 = some (.iconst 1, 1, 0, 0, 0, 0) := by decide +kernel
theorem f225_21 : mFetch 225 21 = some (.goto 4, 3, 25, 0, 0, 0) := by decide +kernel
theorem f225_24 : mFetch 225 24 = some (.iconst 0, 1, 0, 0, 0, 0) := by decide +kernel
theorem f225_25 : mFetch 225 25 = some (.iadd, 1, 0, 0, 0, 0) := by decide +kernel
theorem f225_26 : mFetch 225 26 = some (.istore_n 2, 1, 0, 0, 0, 0) := by decide +kernel
theorem f225_27 : mFetch 225 27 = some (.iinc 3 1, 3, 0, 0, 0, 0) := by decide +kernel
theorem f225_30 : mFetch 225 30 = some (.goto (-26), 3, 4, 0, 0, 0) := by decide +kernel
theorem f225_33 : mFetch 225 33 = some (.iload_n 2, 1, 0, 0, 0, 0) := by decide +kernel
theorem f225_34 : mFetch 225 34 = some (.ireturn, 1, 0, 0, 0, 0) := by decide +kernel
theorem b225_0 {X : (Nat → Int) × Nat} {d : Nat} {s : mSt} {Q : mQ} {x1 : Int} {l2 : Option mV} {l3 : Option mV} (h_1 : Wp X d 225 4 [some (mR 407), some (mI x1), some (mI 0), some (mI 0)] [] s Q) : Wp X d 225 0 [some (mR 407), some (mI x1), l2, l3] [] s Q := Wp_step k225 f225_0 (Wp_step k225 f225_1 (Wp_step k225 f225_2 (Wp_step k225 f225_3 (h_1))))
theorem b225_4 {X : (Nat → Int) × Nat} {d : Nat} {s : mSt} {Q : mQ} {x1 : Int} {x2 : Int} {x3 : Int} (h_1 : 30 ≤ x3 → Wp X d 225 33 [some (mR 407), some (mI x1), some (mI x2), some (mI x3)] [] s Q) (h_2 : ¬ 30 ≤ x3 → Wp X d 225 10 [some (mR 407), some (mI x1), some (mI x2), some (mI x3)] [] s Q) : Wp X d 225 4 [some (mR 407), some (mI x1), some (mI x2), some (mI x3)] [] s Q := Wp_step k225 f225_4 (Wp_step k225 f225_5 (Wp_step k225 f225_7 ⟨h_1, h_2⟩))
theorem b225_10 {X : (Nat → Int) × Nat} {d : Nat} {s : mSt} {Q : mQ} {x1 : Int} {x2 : Int} {x3 : Int} (h_1 : Sp X d 224 [mR 407, mI x1, mI x3] s (fun r s' => ∃ v : Int, r = some (mI v) ∧ Wp X (d + 1) 225 17 [some (mR 407), some (mI x1), some (mI x2), some (mI x3)] [mI v, mI x2] s' Q)) : Wp X (d + 1) 225 10 [some (mR 407), some (mI x1), some (mI x2), some (mI x3)] [] s Q := Wp_step k225 f225_10 (Wp_step k225 f225_11 (Wp_step k225 f225_12 (Wp_step k225 f225_13 (Wp_step k225 f225_14 ⟨⟨kf_407, Nat.le_of_ble_eq_true rfl⟩, Nat.le_refl _, _, rfl, Sp_E h_1⟩))))
theorem b225_17 {X : (Nat → Int) × Nat} {d : Nat} {s : mSt} {Q : mQ} {x1 : Int} {x2 : Int} {x3 : Int} {xt0 : Int} {xt1 : Int} (h_1 : xt1 = 0 → Wp X d 225 24 [some (mR 407), some (mI x1), some (mI x2), some (mI x3)] [mI xt0] s Q) (h_2 : ¬ xt1 = 0 → Wp X d 225 20 [some (mR 407), some (mI x1), some (mI x2), some (mI x3)] [mI xt0] s Q) : Wp X d 225 17 [some (mR 407), some (mI x1), some (mI x2), some (mI x3)] [mI xt1, mI xt0] s Q := Wp_step k225 f225_17 ⟨h_1, h_2⟩
theorem b225_20 {X : (Nat → Int) × Nat} {d : Nat} {s : mSt} {Q : mQ} {x1 : Int} {x2 : Int} {x3 : Int} {xt0 : Int} (h_1 : Wp X d 225 25 [some (mR 407), some (mI x1), some (mI x2), some (mI x3)] [mI 1, mI xt0] s Q) : Wp X d 225 20 [some (mR 407), some (mI x1), some (mI x2), some (mI x3)] [mI xt0] s Q := Wp_step k225 f225_20 (Wp_step k225 f225_21 (h_1))
theorem b225_24 {X : (Nat → Int) × Nat} {d : Nat} {s : mSt} {Q : mQ} {x1 : Int} {x2 : Int} {x3 : Int} {xt0 : Int} (h_1 : Wp X d 225 25 [some (mR 407), some (mI x1), some (mI x2), some (mI x3)] [mI 0, mI xt0] s Q) : Wp X d 225 24 [some (mR 407), some (mI x1), some (mI x2), some (mI x3)] [mI xt0] s Q := Wp_step k225 f225_24 (h_1)
theorem b225_25 {X : (Nat → Int) × Nat} {d : Nat} {s : mSt} {Q : mQ} {x1 : Int} {x2 : Int} {x3 : Int} {xt0 : Int} {xt1 : Int} (h_1 : Wp X d 225 4 [some (mR 407), some (mI x1), some (mI (w32 (xt0 + xt1))), some (mI (w32 (x3 + 1)))] [] s Q) : Wp X d 225 25 [some (mR 407), some (mI x1), some (mI x2), some (mI x3)] [mI xt1, mI xt0] s Q := Wp_step k225 f225_25 (Wp_step k225 f225_26 (Wp_step k225 f225_27 (Wp_step k225 f225_30 (h_1))))
theorem b225_33 {X : (Nat → Int) × Nat} {d : Nat} {s : mSt} {Q : mQ} {x1 : Int} {x2 : Int} {x3 : Int} (h_1 : Q (some (mI x2)) s) : Wp X d 225 33 [some (mR 407), some (mI x1), some (mI x2), some (mI x3)] [] s Q := Wp_step k225 f225_33 (Wp_step k225 f225_34 ⟨⟨rfl, trivial⟩, h_1⟩)
theorem e225 {X : (Nat → Int) × Nat} {d : Nat} {s : mSt} {Q : mQ} {x1 : Int} (h : Wp X d 225 0 [some (mR 407), some (mI x1), none, none] [] s Q) : Sp X d 225 [mR 407, mI x1] s Q := Sp_of (show mCe 225 = 0 by decide +kernel) (by rw [show mML 225 = 4 by decide +kernel]; rfl) (Nat.le_trans (Nat.le_of_ble_eq_true (show Nat.ble (mArgs _).length 4 = true from rfl)) (show 4 ≤ mML 225 by decide +kernel)) h
-- 226 ClashDayModel.keptAll()I
theorem k226 : mRk 226 = 1 := by decide +kernel
theorem f226_0 : mFetch 226 0 = some (.iconst 0, 1, 0, 0, 0, 0) := by decide +kernel
theorem f226_1 : mFetch 226 1 = some (.istore_n 1, 1, 0, 0, 0, 0) := by decide +kernel
theorem f226_2 : mFetch 226 2 = some (.iconst 0, 1, 0, 0, 0, 0) := by decide +kernel
theorem f226_3 : mFetch 226 3 = some (.istore_n 2, 1, 0, 0, 0, 0) := by decide +kernel
theorem f226_4 : mFetch 226 4 = some (.iload_n 2, 1, 0, 0, 0, 0) := by decide +kernel
theorem f226_5 : mFetch 226 5 = some (.aload_n 0, 1, 0, 0, 0, 0) := by decide +kernel
theorem f226_6 : mFetch 226 6 = some (.getfield 39, 3, 12, 20, 2, 1) := by decide +kernel
theorem f226_9 : mFetch 226 9 = some (.iconst 4, 1, 0, 0, 0, 0) := by decide +kernel
theorem f226_10 : mFetch 226 10 = some (.iaload, 1, 0, 0, 0, 0) := by decide +kernel
theorem f226_11 : mFetch 226 11 = some (.if_icmp .ge 29, 3, 40, 0, 0, 0) := by decide +kernel
theorem f226_14 : mFetch 226 14 = some (.iload_n 1, 1, 0, 0, 0, 0) := by decide +kernel
theorem f226_15 : mFetch 226 15 = some (.aload_n 0, 1, 0, 0, 0, 0) := by decide +kernel
theorem f226_16 : mFetch 226 16 = some (.iload_n 2, 1, 0, 0, 0, 0) := by decide +kernel
theorem f226_17 : mFetch 226 17 = some (.invokevirtual 334, 3, 216, 0, 2, 12) := by decide +kernel
theorem f226_20 : mFetch 226 20 = some (.ifCond .eq 11, 3, 31, 0, 0, 0) := by decide +kernel
theorem f226_23 : mFetch 226 23 = some (.aload_n 0, 1, 0, 0, 0, 0) := by decide +kernel
theorem f226_24 : mFetch 226 24 = some (.iload_n 2, 1, 0, 0, 0, 0) := by decide +kernel
theorem f226_25 : mFetch 226 25 = some (.invokevirtual 343, 3, 225, 0, 2, 12) := by decide +kernel
theorem f226_28 : mFetch 226 28 = some (.goto 4, 3, 32, 0, 0, 0) := by decide +kernel
theorem f226_31 : mFetch 226 31 = some (.iconst 0, 1, 0, 0, 0, 0) := by decide +kernel
theorem f226_32 : mFetch 226 32 = some (.iadd, 1, 0, 0, 0, 0) := by decide +kernel
theorem f226_33 : mFetch 226 33 = some (.istore_n 1, 1, 0, 0, 0, 0) := by decide +kernel
theorem f226_34 : mFetch 226 34 = some (.iinc 2 1, 3, 0, 0, 0, 0) := by decide +kernel
theorem f226_37 : mFetch 226 37 = some (.goto (-33), 3, 4, 0, 0, 0) := by decide +kernel
theorem f226_40 : mFetch 226 40 = some (.iload_n 1, 1, 0, 0, 0, 0) := by decide +kernel
theorem f226_41 : mFetch 226 41 = some (.ireturn, 1, 0, 0, 0, 0) := by decide +kernel
theorem b226_0 {X : (Nat → Int) × Nat} {d : Nat} {s : mSt} {Q : mQ} {l1 : Option mV} {l2 : Option mV} (h_1 : Wp X d 226 4 [some (mR 407), some (mI 0), some (mI 0)] [] s Q) : Wp X d 226 0 [some (mR 407), l1, l2] [] s Q := Wp_step k226 f226_0 (Wp_step k226 f226_1 (Wp_step k226 f226_2 (Wp_step k226 f226_3 (h_1))))
theorem b226_4 {X : (Nat → Int) × Nat} {d : Nat} {s : mSt} {Q : mQ} {x1 : Int} {x2 : Int} (h_1 : (s 417 4) ≤ x2 → Wp X d 226 40 [some (mR 407), some (mI x1), some (mI x2)] [] s Q) (h_2 : ¬ (s 417 4) ≤ x2 → Wp X d 226 14 [some (mR 407), some (mI x1), some (mI x2)] [] s Q) : Wp X d 226 4 [some (mR 407), some (mI x1), some (mI x2)] [] s Q := Wp_step k226 f226_4 (Wp_step k226 f226_5 (Wp_step k226 f226_6 ⟨kf_407, 417, rf_407_20, Wp_step k226 f226_9 (Wp_step k226 f226_10 ⟨166, af_417, ⟨by decide, by decide⟩, Wp_step k226 f226_11 ⟨h_1, h_2⟩⟩)⟩))
theorem b226_14 {X : (Nat → Int) × Nat} {d : Nat} {s : mSt} {Q : mQ} {x1 : Int} {x2 : Int} (h_1 : Sp X d 216 [mR 407, mI x2] s (fun r s' => ∃ v : Int, r = some (mI v) ∧ Wp X (d + 1) 226 20 [some (mR 407), some (mI x1), some (mI x2)] [mI v, mI x1] s' Q)) : Wp X (d + 1) 226 14 [some (mR 407), some (mI x1), some (mI x2)] [] s Q := Wp_step k226 f226_14 (Wp_step k226 f226_15 (Wp_step k226 f226_16 (Wp_step k226 f226_17 ⟨⟨kf_407, Nat.le_of_ble_eq_true rfl⟩, Nat.le_refl _, _, rfl, Sp_E h_1⟩)))
theorem b226_20 {X : (Nat → Int) × Nat} {d : Nat} {s : mSt} {Q : mQ} {x1 : Int} {x2 : Int} {xt0 : Int} {xt1 : Int} (h_1 : xt1 = 0 → Wp X d 226 31 [some (mR 407), some (mI x1), some (mI x2)] [mI xt0] s Q) (h_2 : ¬ xt1 = 0 → Wp X d 226 23 [some (mR 407), some (mI x1), some (mI x2)] [mI xt0] s Q) : Wp X d 226 20 [some (mR 407), some (mI x1), some (mI x2)] [mI xt1, mI xt0] s Q := Wp_step k226 f226_20 ⟨h_1, h_2⟩
theorem b226_23 {X : (Nat → Int) × Nat} {d : Nat} {s : mSt} {Q : mQ} {x1 : Int} {x2 : Int} {xt0 : Int} (h_1 : Sp X d 225 [mR 407, mI x2] s (fun r s' => ∃ v : Int, r = some (mI v) ∧ Wp X (d + 1) 226 28 [some (mR 407), some (mI x1), some (mI x2)] [mI v, mI xt0] s' Q)) : Wp X (d + 1) 226 23 [some (mR 407), some (mI x1), some (mI x2)] [mI xt0] s Q := Wp_step k226 f226_23 (Wp_step k226 f226_24 (Wp_step k226 f226_25 ⟨⟨kf_407, Nat.le_of_ble_eq_true rfl⟩, Nat.le_refl _, _, rfl, Sp_E h_1⟩))
theorem b226_28 {X : (Nat → Int) × Nat} {d : Nat} {s : mSt} {Q : mQ} {x1 : Int} {x2 : Int} {xt0 : Int} {xt1 : Int} (h_1 : Wp X d 226 32 [some (mR 407), some (mI x1), some (mI x2)] [mI xt1, mI xt0] s Q) : Wp X d 226 28 [some (mR 407), some (mI x1), some (mI x2)] [mI xt1, mI xt0] s Q := Wp_step k226 f226_28 (h_1)
theorem b226_31 {X : (Nat → Int) × Nat} {d : Nat} {s : mSt} {Q : mQ} {x1 : Int} {x2 : Int} {xt0 : Int} (h_1 : Wp X d 226 32 [some (mR 407), some (mI x1), some (mI x2)] [mI 0, mI xt0] s Q) : Wp X d 226 31 [some (mR 407), some (mI x1), some (mI x2)] [mI xt0] s Q := Wp_step k226 f226_31 (h_1)
theorem b226_32 {X : (Nat → Int) × Nat} {d : Nat} {s : mSt} {Q : mQ} {x1 : Int} {x2 : Int} {xt0 : Int} {xt1 : Int} (h_1 : Wp X d 226 4 [some (mR 407), some (mI (w32 (xt0 + xt1))), some (mI (w32 (x2 + 1)))] [] s Q) : Wp X d 226 32 [some (mR 407), some (mI x1), some (mI x2)] [mI xt1, mI xt0] s Q := Wp_step k226 f226_32 (Wp_step k226 f226_33 (Wp_step k226 f226_34 (Wp_step k226 f226_37 (h_1))))
theorem b226_40 {X : (Nat → Int) × Nat} {d : Nat} {s : mSt} {Q : mQ} {x1 : Int} {x2 : Int} (h_1 : Q (some (mI x1)) s) : Wp X d 226 40 [some (mR 407), some (mI x1), some (mI x2)] [] s Q := Wp_step k226 f226_40 (Wp_step k226 f226_41 ⟨⟨rfl, trivial⟩, h_1⟩)
theorem e226 {X : (Nat → Int) × Nat} {d : Nat} {s : mSt} {Q : mQ} (h : Wp X d 226 0 [some (mR 407), none, none] [] s Q) : Sp X d 226 [mR 407] s Q := Sp_of (show mCe 226 = 0 by decide +kernel) (by rw [show mML 226 = 3 by decide +kernel]; rfl) (Nat.le_trans (Nat.le_of_ble_eq_true (show Nat.ble (mArgs _).length 3 = true from rfl)) (show 3 ≤ mML 226 by decide +kernel)) h
-- 227 ClashDayModel.beginsAnew()V
theorem k227 : mRk 227 = 0 := by decide +kernel
theorem f227_0 : mFetch 227 0 = some (.aload_n 0, 1, 0, 0, 0, 0) := by decide +kernel
theorem f227_1 : mFetch 227 1 = some (.getfield 39, 3, 12, 20, 2, 1) := by decide +kernel
theorem f227_4 : mFetch 227 4 = some (.iconst 5, 1, 0, 0, 0, 0) := by decide +kernel
theorem f227_5 : mFetch 227 5 = some (.iconst 0, 1, 0, 0, 0, 0) := by decide +kernel
theorem f227_6 : mFetch 227 6 = some (.iastore, 1, 0, 0, 0, 0) := by decide +kernel
theorem f227_7 : mFetch 227 7 = some (.iconst 0, 1, 0, 0, 0, 0) := by decide +kernel
theorem f227_8 : mFetch 227 8 = some (.istore_n 1, 1, 0, 0, 0, 0) := by decide +kernel
theorem f227_9 : mFetch 227 9 = some (.iload_n 1, 1, 0, 0, 0, 0) := by decide +kernel
theorem f227_10 : mFetch 227 10 = some (.iconst 5, 1, 0, 0, 0, 0) := by decide +kernel
theorem f227_11 : mFetch 227 11 = some (.if_icmp .ge 27, 3, 38, 0, 0, 0) := by decide +kernel
theorem f227_14 : mFetch 227 14 = some (.aload_n 0, 1, 0, 0, 0, 0) := by decide +kernel
theorem f227_15 : mFetch 227 15 = some (.getfield 39, 3, 12, 20, 2, 1) := by decide +kernel
theorem f227_18 : mFetch 227 18 = some (.bipush 6, 2, 0, 0, 0, 0) := by decide +kernel
theorem f227_20 : mFetch 227 20 = some (.iload_n 1, 1, 0, 0, 0, 0) := by decide +kernel
theorem f227_21 : mFetch 227 21 = some (.iadd, 1, 0, 0, 0, 0) := by decide +kernel
theorem f227_22 : mFetch 227 22 = some (.aload_n 0, 1, 0, 0, 0, 0) := by decide +kernel
theorem f227_23 : mFetch 227 23 = some (.getfield 39, 3, 12, 20, 2, 1) := by decide +kernel
theorem f227_26 : mFetch 227 26 = some (.bipush 82, 2, 0, 0, 0, 0) := by decide +kernel
theorem f227_28 : mFetch 227 28 = some (.iload_n 1, 1, 0, 0, 0, 0) := by decide +kernel
theorem f227_29 : mFetch 227 29 = some (.iadd, 1, 0, 0, 0, 0) := by decide +kernel
theorem f227_30 : mFetch 227 30 = some (.iaload, 1, 0, 0, 0, 0) := by decide +kernel
theorem f227_31 : mFetch 227 31 = some (.iastore, 1, 0, 0, 0, 0) := by decide +kernel
theorem f227_32 : mFetch 227 32 = some (.iinc 1 1, 3, 0, 0, 0, 0) := by decide +kernel
theorem f227_35 : mFetch 227 35 = some (.goto (-26), 3, 9, 0, 0, 0) := by decide +kernel
theorem f227_38 : mFetch 227 38 = some (.iconst 0, 1, 0, 0, 0, 0) := by decide +kernel
theorem f227_39 : mFetch 227 39 = some (.istore_n 1, 1, 0, 0, 0, 0) := by decide +kernel
theorem f227_40 : mFetch 227 40 = some (.iload_n 1, 1, 0, 0, 0, 0) := by decide +kernel
theorem f227_41 : mFetch 227 41 = some (.bipush 30, 2, 0, 0, 0, 0) := by decide +kernel
theorem f227_43 : mFetch 227 43 = some (.if_icmp .ge 27, 3, 70, 0, 0, 0) := by decide +kernel
theorem f227_46 : mFetch 227 46 = some (.aload_n 0, 1, 0, 0, 0, 0) := by decide +kernel
theorem f227_47 : mFetch 227 47 = some (.getfield 39, 3, 12, 20, 2, 1) := by decide +kernel
theorem f227_50 : mFetch 227 50 = some (.bipush 11, 2, 0, 0, 0, 0) := by decide +kernel
theorem f227_52 : mFetch 227 52 = some (.iload_n 1, 1, 0, 0, 0, 0) := by decide +kernel
theorem f227_53 : mFetch 227 53 = some (.iadd, 1, 0, 0, 0, 0) := by decide +kernel
theorem f227_54 : mFetch 227 54 = some (.aload_n 0, 1, 0, 0, 0, 0) := by decide +kernel
theorem f227_55 : mFetch 227 55 = some (.getfield 39, 3, 12, 20, 2, 1) := by decide +kernel
theorem f227_58 : mFetch 227 58 = some (.bipush 87, 2, 0, 0, 0, 0) := by decide +kernel
theorem f227_60 : mFetch 227 60 = some (.iload_n 1, 1, 0, 0, 0, 0) := by decide +kernel
theorem f227_61 : mFetch 227 61 = some (.iadd, 1, 0, 0, 0, 0) := by decide +kernel
theorem f227_62 : mFetch 227 62 = some (.iaload, 1, 0, 0, 0, 0) := by decide +kernel
theorem f227_63 : mFetch 227 63 = some (.iastore, 1, 0, 0, 0, 0) := by decide +kernel
theorem f227_64 : mFetch 227 64 = some (.iinc 1 1, 3, 0, 0, 0, 0) := by decide +kernel
theorem f227_67 : mFetch 227 67 = some (.goto (-27), 3, 40, 0, 0, 0) := by decide +kernel
theorem f227_70 : mFetch 227 70 = some (.iconst 0, 1, 0, 0, 0, 0) := by decide +kernel
theorem f227_71 : mFetch 227 71 = some (.istore_n 1, 1, 0, 0, 0, 0) := by decide +kernel
theorem f227_72 : mFetch 227 72 = some (.iload_n 1, 1, 0, 0, 0, 0) := by decide +kernel
theorem f227_73 : mFetch 227 73 = some (.bipush 6, 2, 0, 0, 0, 0) := by decide +kernel
theorem f227_75 : mFetch 227 75 = some (.if_icmp .ge 19, 3, 94, 0, 0, 0) := by decide +kernel
theorem f227_78 : mFetch 227 78 = some (.aload_n 0, 1, 0, 0, 0, 0) := by decide +kernel
theorem f227_79 : mFetch 227 79 = some (.getfield 39, 3, 12, 20, 2, 1) := by decide +kernel
theorem f227_82 : mFetch 227 82 = some (.bipush 41, 2, 0, 0, 0, 0) := by decide +kernel
theorem f227_84 : mFetch 227 84 = some (.iload_n 1, 1, 0, 0, 0, 0) := by decide +kernel
theorem f227_85 : mFetch 227 85 = some (.iadd, 1, 0, 0, 0, 0) := by decide +kernel
theorem f227_86 : mFetch 227 86 = some (.iconst 1, 1, 0, 0, 0, 0) := by decide +kernel
theorem f227_87 : mFetch 227 87 = some (.iastore, 1, 0, 0, 0, 0) := by decide +kernel
theorem f227_88 : mFetch 227 88 = some (.iinc 1 1, 3, 0, 0, 0, 0) := by decide +kernel
theorem f227_91 : mFetch 227 91 = some (.goto (-19), 3, 72, 0, 0, 0) := by decide +kernel
theorem f227_94 : mFetch 227 94 = some (.iconst 0, 1, 0, 0, 0, 0) := by decide +kernel
theorem f227_95 : mFetch 227 95 = some (.istore_n 1, 1, 0, 0, 0, 0) := by decide +kernel
theorem f227_96 : mFetch 227 96 = some (.iload_n 1, 1, 0, 0, 0, 0) := by decide +kernel
theorem f227_97 : mFetch 227 97 = some (.bipush 30, 2, 0, 0, 0, 0) := by decide +kernel
theorem f227_99 : mFetch 227 99 = some (.if_icmp .ge 19, 3, 118, 0, 0, 0) := by decide +kernel
theorem f227_102 : mFetch 227 102 = some (.aload_n 0, 1, 0, 0, 0, 0) := by decide +kernel
theorem f227_103 : mFetch 227 103 = some (.getfield 39, 3, 12, 20, 2, 1) := by decide +kernel
theorem f227_106 : mFetch 227 106 = some (.bipush 47, 2, 0, 0, 0, 0) := by decide +kernel
theorem f227_108 : mFetch 227 108 = some (.iload_n 1, 1, 0, 0, 0, 0) := by decide +kernel
theorem f227_109 : mFetch 227 109 = some (.iadd, 1, 0, 0, 0, 0) := by decide +kernel
theorem f227_110 : mFetch 227 110 = some (.iconst (-1), 1, 0, 0, 0, 0) := by decide +kernel
theorem f227_111 : mFetch 227 111 = some (.iastore, 1, 0, 0, 0, 0) := by decide +kernel
theorem f227_112 : mFetch 227 112 = some (.iinc 1 1, 3, 0, 0, 0, 0) := by decide +kernel
theorem f227_115 : mFetch 227 115 = some (.goto (-19), 3, 96, 0, 0, 0) := by decide +kernel
theorem f227_118 : mFetch 227 118 = some (.return_, 1, 0, 0, 0, 0) := by decide +kernel
theorem b227_0 {X : (Nat → Int) × Nat} {d : Nat} {s : mSt} {Q : mQ} {l1 : Option mV} (h_1 : Wp X d 227 9 [some (mR 407), some (mI 0)] [] (uS s 417 5 0) Q) : Wp X d 227 0 [some (mR 407), l1] [] s Q := Wp_step k227 f227_0 (Wp_step k227 f227_1 ⟨kf_407, 417, rf_407_20, Wp_step k227 f227_4 (Wp_step k227 f227_5 (Wp_step k227 f227_6 ⟨166, af_417, ⟨by decide, by decide⟩, Wp_step k227 f227_7 (Wp_step k227 f227_8 (h_1))⟩))⟩)
theorem b227_9 {X : (Nat → Int) × Nat} {d : Nat} {s : mSt} {Q : mQ} {x1 : Int} (h_1 : 5 ≤ x1 → Wp X d 227 38 [some (mR 407), some (mI x1)] [] s Q) (h_2 : ¬ 5 ≤ x1 → Wp X d 227 14 [some (mR 407), some (mI x1)] [] s Q) : Wp X d 227 9 [some (mR 407), some (mI x1)] [] s Q := Wp_step k227 f227_9 (Wp_step k227 f227_10 (Wp_step k227 f227_11 ⟨h_1, h_2⟩))
theorem b227_14 {X : (Nat → Int) × Nat} {d : Nat} {s : mSt} {Q : mQ} {x1 : Int} (h_1 : 0 ≤ (w32 (82 + x1)) ∧ (w32 (82 + x1)) < 166) (h_2 : 0 ≤ (w32 (6 + x1)) ∧ (w32 (6 + x1)) < 166) (h_3 : Wp X d 227 9 [some (mR 407), some (mI (w32 (x1 + 1)))] [] (uS s 417 ((w32 (6 + x1)).toNat) (s 417 (w32 (82 + x1)).toNat)) Q) : Wp X d 227 14 [some (mR 407), some (mI x1)] [] s Q := Wp_step k227 f227_14 (Wp_step k227 f227_15 ⟨kf_407, 417, rf_407_20, Wp_step k227 f227_18 (Wp_step k227 f227_20 (Wp_step k227 f227_21 (Wp_step k227 f227_22 (Wp_step k227 f227_23 ⟨kf_407, 417, rf_407_20, Wp_step k227 f227_26 (Wp_step k227 f227_28 (Wp_step k227 f227_29 (Wp_step k227 f227_30 ⟨166, af_417, h_1, Wp_step k227 f227_31 ⟨166, af_417, h_2, Wp_step k227 f227_32 (Wp_step k227 f227_35 (h_3))⟩⟩)))⟩))))⟩)
theorem b227_38 {X : (Nat → Int) × Nat} {d : Nat} {s : mSt} {Q : mQ} {x1 : Int} (h_1 : Wp X d 227 40 [some (mR 407), some (mI 0)] [] s Q) : Wp X d 227 38 [some (mR 407), some (mI x1)] [] s Q := Wp_step k227 f227_38 (Wp_step k227 f227_39 (h_1))
theorem b227_40 {X : (Nat → Int) × Nat} {d : Nat} {s : mSt} {Q : mQ} {x1 : Int} (h_1 : 30 ≤ x1 → Wp X d 227 70 [some (mR 407), some (mI x1)] [] s Q) (h_2 : ¬ 30 ≤ x1 → Wp X d 227 46 [some (mR 407), some (mI x1)] [] s Q) : Wp X d 227 40 [some (mR 407), some (mI x1)] [] s Q := Wp_step k227 f227_40 (Wp_step k227 f227_41 (Wp_step k227 f227_43 ⟨h_1, h_2⟩))
theorem b227_46 {X : (Nat → Int) × Nat} {d : Nat} {s : mSt} {Q : mQ} {x1 : Int} (h_1 : 0 ≤ (w32 (87 + x1)) ∧ (w32 (87 + x1)) < 166) (h_2 : 0 ≤ (w32 (11 + x1)) ∧ (w32 (11 + x1)) < 166) (h_3 : Wp X d 227 40 [some (mR 407), some (mI (w32 (x1 + 1)))] [] (uS s 417 ((w32 (11 + x1)).toNat) (s 417 (w32 (87 + x1)).toNat)) Q) : Wp X d 227 46 [some (mR 407), some (mI x1)] [] s Q := Wp_step k227 f227_46 (Wp_step k227 f227_47 ⟨kf_407, 417, rf_407_20, Wp_step k227 f227_50 (Wp_step k227 f227_52 (Wp_step k227 f227_53 (Wp_step k227 f227_54 (Wp_step k227 f227_55 ⟨kf_407, 417, rf_407_20, Wp_step k227 f227_58 (Wp_step k227 f227_60 (Wp_step k227 f227_61 (Wp_step k227 f227_62 ⟨166, af_417, h_1, Wp_step k227 f227_63 ⟨166, af_417, h_2, Wp_step k227 f227_64 (Wp_step k227 f227_67 (h_3))⟩⟩)))⟩))))⟩)
theorem b227_70 {X : (Nat → Int) × Nat} {d : Nat} {s : mSt} {Q : mQ} {x1 : Int} (h_1 : Wp X d 227 72 [some (mR 407), some (mI 0)] [] s Q) : Wp X d 227 70 [some (mR 407), some (mI x1)] [] s Q := Wp_step k227 f227_70 (Wp_step k227 f227_71 (h_1))
theorem b227_72 {X : (Nat → Int) × Nat} {d : Nat} {s : mSt} {Q : mQ} {x1 : Int} (h_1 : 6 ≤ x1 → Wp X d 227 94 [some (mR 407), some (mI x1)] [] s Q) (h_2 : ¬ 6 ≤ x1 → Wp X d 227 78 [some (mR 407), some (mI x1)] [] s Q) : Wp X d 227 72 [some (mR 407), some (mI x1)] [] s Q := Wp_step k227 f227_72 (Wp_step k227 f227_73 (Wp_step k227 f227_75 ⟨h_1, h_2⟩))
theorem b227_78 {X : (Nat → Int) × Nat} {d : Nat} {s : mSt} {Q : mQ} {x1 : Int} (h_1 : 0 ≤ (w32 (41 + x1)) ∧ (w32 (41 + x1)) < 166) (h_2 : Wp X d 227 72 [some (mR 407), some (mI (w32 (x1 + 1)))] [] (uS s 417 ((w32 (41 + x1)).toNat) 1) Q) : Wp X d 227 78 [some (mR 407), some (mI x1)] [] s Q := Wp_step k227 f227_78 (Wp_step k227 f227_79 ⟨kf_407, 417, rf_407_20, Wp_step k227 f227_82 (Wp_step k227 f227_84 (Wp_step k227 f227_85 (Wp_step k227 f227_86 (Wp_step k227 f227_87 ⟨166, af_417, h_1, Wp_step k227 f227_88 (Wp_step k227 f227_91 (h_2))⟩))))⟩)
theorem b227_94 {X : (Nat → Int) × Nat} {d : Nat} {s : mSt} {Q : mQ} {x1 : Int} (h_1 : Wp X d 227 96 [some (mR 407), some (mI 0)] [] s Q) : Wp X d 227 94 [some (mR 407), some (mI x1)] [] s Q := Wp_step k227 f227_94 (Wp_step k227 f227_95 (h_1))
theorem b227_96 {X : (Nat → Int) × Nat} {d : Nat} {s : mSt} {Q : mQ} {x1 : Int} (h_1 : 30 ≤ x1 → Wp X d 227 118 [some (mR 407), some (mI x1)] [] s Q) (h_2 : ¬ 30 ≤ x1 → Wp X d 227 102 [some (mR 407), some (mI x1)] [] s Q) : Wp X d 227 96 [some (mR 407), some (mI x1)] [] s Q := Wp_step k227 f227_96 (Wp_step k227 f227_97 (Wp_step k227 f227_99 ⟨h_1, h_2⟩))
theorem b227_102 {X : (Nat → Int) × Nat} {d : Nat} {s : mSt} {Q : mQ} {x1 : Int} (h_1 : 0 ≤ (w32 (47 + x1)) ∧ (w32 (47 + x1)) < 166) (h_2 : Wp X d 227 96 [some (mR 407), some (mI (w32 (x1 + 1)))] [] (uS s 417 ((w32 (47 + x1)).toNat) (-1)) Q) : Wp X d 227 102 [some (mR 407), some (mI x1)] [] s Q := Wp_step k227 f227_102 (Wp_step k227 f227_103 ⟨kf_407, 417, rf_407_20, Wp_step k227 f227_106 (Wp_step k227 f227_108 (Wp_step k227 f227_109 (Wp_step k227 f227_110 (Wp_step k227 f227_111 ⟨166, af_417, h_1, Wp_step k227 f227_112 (Wp_step k227 f227_115 (h_2))⟩))))⟩)
theorem b227_118 {X : (Nat → Int) × Nat} {d : Nat} {s : mSt} {Q : mQ} {x1 : Int} (h_1 : Q none s) : Wp X d 227 118 [some (mR 407), some (mI x1)] [] s Q := Wp_step k227 f227_118 ⟨⟨rfl, Or.inl rfl⟩, h_1⟩
theorem e227 {X : (Nat → Int) × Nat} {d : Nat} {s : mSt} {Q : mQ} (h : Wp X d 227 0 [some (mR 407), none] [] s Q) : Sp X d 227 [mR 407] s Q := Sp_of (show mCe 227 = 0 by decide +kernel) (by rw [show mML 227 = 2 by decide +kernel]; rfl) (Nat.le_trans (Nat.le_of_ble_eq_true (show Nat.ble (mArgs _).length 2 = true from rfl)) (show 2 ≤ mML 227 by decide +kernel)) h
-- 228 ClashDayModel.force(I)I
theorem k228 : mRk 228 = 1 := by decide +kernel
theorem f228_0 : mFetch 228 0 = some (.iload_n 1, 1, 0, 0, 0, 0) := by decide +kernel
theorem f228_1 : mFetch 228 1 = some (.iconst (-1), 1, 0, 0, 0, 0) := by decide +kernel
theorem f228_2 : mFetch 228 2 = some (.if_icmp .eq 14, 3, 16, 0, 0, 0) := by decide +kernel
theorem f228_5 : mFetch 228 5 = some (.aload_n 0, 1, 0, 0, 0, 0) := by decide +kernel
theorem f228_6 : mFetch 228 6 = some (.iload_n 1, 1, 0, 0, 0, 0) := by decide +kernel
theorem f228_7 : mFetch 228 7 = some (.invokevirtual 346, 3, 207, 0, 2, 12) := by decide +kernel
theorem f228_10 : mFetch 228 10 = some (.ifCond .ne 6, 3, 16, 0, 0, 0) := by decide +kernel
theorem f228_13 : mFetch 228 13 = some (.bipush (-2), 2, 0, 0, 0, 0) := by decide +kernel
theorem f228_15 : mFetch 228 15 = some (.ireturn, 1, 0, 0, 0, 0) := by decide +kernel
theorem f228_16 : mFetch 228 16 = some (.aload_n 0, 1, 0, 0, 0, 0) := by decide +kernel
theorem f228_17 : mFetch 228 17 = some (.getfield 42, 3, 12, 21, 0, 1) := by decide +kernel
theorem f228_20 : mFetch 228 20 = some (.istore_n 2, 1, 0, 0, 0, 0) := by decide +kernel
theorem f228_21 : mFetch 228 21 = some (.aload_n 0, 1, 0, 0, 0, 0) := by decide +kernel
theorem f228_22 : mFetch 228 22 = some (.iload_n 1, 1, 0, 0, 0, 0) := by decide +kernel
theorem f228_23 : mFetch 228 23 = some (.putfield 42, 3, 12, 21, 0, 1) := by decide +kernel
theorem f228_26 : mFetch 228 26 = some (.iload_n 2, 1, 0, 0, 0, 0) := by decide +kernel
theorem f228_27 : mFetch 228 27 = some (.ireturn, 1, 0, 0, 0, 0) := by decide +kernel
theorem b228_0 {X : (Nat → Int) × Nat} {d : Nat} {s : mSt} {Q : mQ} {x1 : Int} {l2 : Option mV} (h_1 : x1 = (-1) → Wp X d 228 16 [some (mR 407), some (mI x1), l2] [] s Q) (h_2 : ¬ x1 = (-1) → Wp X d 228 5 [some (mR 407), some (mI x1), l2] [] s Q) : Wp X d 228 0 [some (mR 407), some (mI x1), l2] [] s Q := Wp_step k228 f228_0 (Wp_step k228 f228_1 (Wp_step k228 f228_2 ⟨h_1, h_2⟩))
theorem b228_5 {X : (Nat → Int) × Nat} {d : Nat} {s : mSt} {Q : mQ} {x1 : Int} {l2 : Option mV} (h_1 : Sp X d 207 [mR 407, mI x1] s (fun r s' => ∃ v : Int, r = some (mI v) ∧ Wp X (d + 1) 228 10 [some (mR 407), some (mI x1), l2] [mI v] s' Q)) : Wp X (d + 1) 228 5 [some (mR 407), some (mI x1), l2] [] s Q := Wp_step k228 f228_5 (Wp_step k228 f228_6 (Wp_step k228 f228_7 ⟨⟨kf_407, Nat.le_of_ble_eq_true rfl⟩, Nat.le_refl _, _, rfl, Sp_E h_1⟩))
theorem b228_10 {X : (Nat → Int) × Nat} {d : Nat} {s : mSt} {Q : mQ} {x1 : Int} {l2 : Option mV} {xt0 : Int} (h_1 : ¬ xt0 = 0 → Wp X d 228 16 [some (mR 407), some (mI x1), l2] [] s Q) (h_2 : xt0 = 0 → Wp X d 228 13 [some (mR 407), some (mI x1), l2] [] s Q) : Wp X d 228 10 [some (mR 407), some (mI x1), l2] [mI xt0] s Q := Wp_step k228 f228_10 ⟨h_1, h_2⟩
theorem b228_13 {X : (Nat → Int) × Nat} {d : Nat} {s : mSt} {Q : mQ} {x1 : Int} {l2 : Option mV} (h_1 : Q (some (mI (-2))) s) : Wp X d 228 13 [some (mR 407), some (mI x1), l2] [] s Q := Wp_step k228 f228_13 (Wp_step k228 f228_15 ⟨⟨rfl, trivial⟩, h_1⟩)
theorem b228_16 {X : (Nat → Int) × Nat} {d : Nat} {s : mSt} {Q : mQ} {x1 : Int} {l2 : Option mV} (h_1 : Q (some (mI (s 407 21))) (uS s 407 21 x1)) : Wp X d 228 16 [some (mR 407), some (mI x1), l2] [] s Q := Wp_step k228 f228_16 (Wp_step k228 f228_17 ⟨kf_407, Wp_step k228 f228_20 (Wp_step k228 f228_21 (Wp_step k228 f228_22 (Wp_step k228 f228_23 ⟨kf_407, Wp_step k228 f228_26 (Wp_step k228 f228_27 ⟨⟨rfl, trivial⟩, h_1⟩)⟩)))⟩)
theorem e228 {X : (Nat → Int) × Nat} {d : Nat} {s : mSt} {Q : mQ} {x1 : Int} (h : Wp X d 228 0 [some (mR 407), some (mI x1), none] [] s Q) : Sp X d 228 [mR 407, mI x1] s Q := Sp_of (show mCe 228 = 0 by decide +kernel) (by rw [show mML 228 = 3 by decide +kernel]; rfl) (Nat.le_trans (Nat.le_of_ble_eq_true (show Nat.ble (mArgs _).length 3 = true from rfl)) (show 3 ≤ mML 228 by decide +kernel)) h
-- 229 ClashDayModel.paper(II)I
theorem k229 : mRk 229 = 1 := by decide +kernel
theorem f229_0 : mFetch 229 0 = some (.aload_n 0, 1, 0, 0, 0, 0) := by decide +kernel
theorem f229_1 : mFetch 229 1 = some (.iload_n 1, 1, 0, 0, 0, 0) := by decide +kernel
theorem f229_2 : mFetch 229 2 = some (.invokevirtual 349, 3, 213, 0, 2, 12) := by decide +kernel
theorem f229_5 : mFetch 229 5 = some (.ifCond .eq 15, 3, 20, 0, 0, 0) := by decide +kernel
theorem f229_8 : mFetch 229 8 = some (.iload_n 2, 1, 0, 0, 0, 0) := by decide +kernel
theorem f229_9 : mFetch 229 9 = some (.i2l, 1, 0, 0, 0, 0) := by decide +kernel
theorem f229_10 : mFetch 229 10 = some (.lconst 0, 1, 0, 0, 0, 0) := by decide +kernel
theorem f229_11 : mFetch 229 11 = some (.ldc2_w 352, 3, 2, 0, 0, 0) := by decide +kernel
theorem f229_14 : mFetch 229 14 = some (.invokestatic 151, 3, 167, 0, 3, 99) := by decide +kernel
theorem f229_17 : mFetch 229 17 = some (.ifCond .ne 5, 3, 22, 0, 0, 0) := by decide +kernel
theorem f229_20 : mFetch 229 20 = some (.iconst (-1), 1, 0, 0, 0, 0) := by decide +kernel
theorem f229_21 : mFetch 229 21 = some (.ireturn, 1, 0, 0, 0, 0) := by decide +kernel
theorem f229_22 : mFetch 229 22 = some (.iload_n 2, 1, 0, 0, 0, 0) := by decide +kernel
theorem f229_23 : mFetch 229 23 = some (.iconst 2, 1, 0, 0, 0, 0) := by decide +kernel
theorem f229_24 : mFetch 229 24 = some (.if_icmp .ge 29, 3, 53, 0, 0, 0) := by decide +kernel
theorem f229_27 : mFetch 229 27 = some (.iload_n 2, 1, 0, 0, 0, 0) := by decide +kernel
theorem f229_28 : mFetch 229 28 = some (.ifCond .ne 15, 3, 43, 0, 0, 0) := by decide +kernel
theorem f229_31 : mFetch 229 31 = some (.aload_n 0, 1, 0, 0, 0, 0) := by decide +kernel
theorem f229_32 : mFetch 229 32 = some (.getfield 39, 3, 12, 20, 2, 1) := by decide +kernel
theorem f229_35 : mFetch 229 35 = some (.bipush 6, 2, 0, 0, 0, 0) := by decide +kernel
theorem f229_37 : mFetch 229 37 = some (.iload_n 1, 1, 0, 0, 0, 0) := by decide +kernel
theorem f229_38 : mFetch 229 38 = some (.iadd, 1, 0, 0, 0, 0) := by decide +kernel
theorem f229_39 : mFetch 229 39 = some (.iaload, 1, 0, 0, 0, 0) := by decide +kernel
theorem f229_40 : mFetch 229 40 = some (.goto 12, 3, 52, 0, 0, 0) := by decide +kernel
theorem f229_43 : mFetch 229 43 = some (.aload_n 0, 1, 0, 0, 0, 0) := by decide +kernel
theorem f229_44 : mFetch 229 44 = some (.getfield 39, 3, 12, 20, 2, 1) := by decide +kernel
theorem f229_47 : mFetch 229 47 = some (.bipush 77, 2, 0, 0, 0, 0) := by decide +kernel
theorem f229_49 : mFetch 229 49 = some (.iload_n 1, 1, 0, 0, 0, 0) := by decide +kernel
theorem f229_50 : mFetch 229 50 = some (.iadd, 1, 0, 0, 0, 0) := by decide +kernel
theorem f229_51 : mFetch 229 51 = some (.iaload, 1, 0, 0, 0, 0) := by decide +kernel
theorem f229_52 : mFetch 229 52 = some (.ireturn, 1, 0, 0, 0, 0) := by decide +kernel
theorem f229_53 : mFetch 229 53 = some (.iconst 0, 1, 0, 0, 0, 0) := by decide +kernel
theorem f229_54 : mFetch 229 54 = some (.istore_n 3, 1, 0, 0, 0, 0) := by decide +kernel
theorem f229_55 : mFetch 229 55 = some (.iconst 0, 1, 0, 0, 0, 0) := by decide +kernel
theorem f229_56 : mFetch 229 56 = some (.istore 4, 2, 0, 0, 0, 0) := by decide +kernel
theorem f229_58 : mFetch 229 58 = some (.iload 4, 2, 0, 0, 0, 0) := by decide +kernel
theorem f229_60 : mFetch 229 60 = some (.aload_n 0, 1, 0, 0, 0, 0) := by decide +kernel
theorem f229_61 : mFetch 229 61 = some (.getfield 39, 3, 12, 20, 2, 1) := by decide +kernel
theorem f229_64 : mFetch 229 64 = some (.iconst 4, 1, 0, 0, 0, 0) := by decide +kernel
theorem f229_65 : mFetch 229 65 = some (.iaload, 1, 0, 0, 0, 0) := by decide +kernel
theorem f229_66 : mFetch 229 66 = some (.if_icmp .ge 30, 3, 96, 0, 0, 0) := by decide +kernel
theorem f229_69 : mFetch 229 69 = some (.iload_n 3, 1, 0, 0, 0, 0) := by decide +kernel
theorem f229_70 : mFetch 229 70 = some (.aload_n 0, 1, 0, 0, 0, 0) := by decide +kernel
theorem f229_71 : mFetch 229 71 = some (.iload 4, 2, 0, 0, 0, 0) := by decide +kernel
theorem f229_73 : mFetch 229 73 = some (.iload_n 1, 1, 0, 0, 0, 0) := by decide +kernel
theorem f229_74 : mFetch 229 74 = some (.invokevirtual 321, 3, 217, 0, 3, 12) := by decide +kernel
theorem f229_77 : mFetch 229 77 = some (.ifCond .eq 10, 3, 87, 0, 0, 0) := by decide +kernel
theorem f229_80 : mFetch 229 80 = some (.iconst 1, 1, 0, 0, 0, 0) := by decide +kernel
theorem f229_81 : mFetch 229 81 = some (.iload 4, 2, 0, 0, 0, 0) := by decide +kernel
theorem f229_83 : mFetch 229 83 = some (.ishl, 1, 0, 0, 0, 0) := by decide +kernel
theorem f229_84 : mFetch 229 84 = some (.goto 4, 3, 88, 0, 0, 0) := by decide +kernel
theorem f229_87 : mFetch 229 87 = some (.iconst 0, 1, 0, 0, 0, 0) := by decide +kernel
theorem f229_88 : mFetch 229 88 = some (.ior, 1, 0, 0, 0, 0) := by decide +kernel
theorem f229_89 : mFetch 229 89 = some (.istore_n 3, 1, 0, 0, 0, 0) := by decide +kernel
theorem f229_90 : mFetch 229 90 = some (.iinc 4 1, 3, 0, 0, 0, 0) := by decide +kernel
theorem f229_93 : mFetch 229 93 = some (.goto (-35), 3, 58, 0, 0, 0) := by decide +kernel
theorem f229_96 : mFetch 229 96 = some (.iload_n 3, 1, 0, 0, 0, 0) := by decide +kernel
theorem f229_97 : mFetch 229 97 = some (.ireturn, 1, 0, 0, 0, 0) := by decide +kernel
theorem b229_0 {X : (Nat → Int) × Nat} {d : Nat} {s : mSt} {Q : mQ} {x1 : Int} {x2 : Int} {l3 : Option mV} {l4 : Option mV} (h_1 : Sp X d 213 [mR 407, mI x1] s (fun r s' => ∃ v : Int, r = some (mI v) ∧ Wp X (d + 1) 229 5 [some (mR 407), some (mI x1), some (mI x2), l3, l4] [mI v] s' Q)) : Wp X (d + 1) 229 0 [some (mR 407), some (mI x1), some (mI x2), l3, l4] [] s Q := Wp_step k229 f229_0 (Wp_step k229 f229_1 (Wp_step k229 f229_2 ⟨⟨kf_407, Nat.le_of_ble_eq_true rfl⟩, Nat.le_refl _, _, rfl, Sp_E h_1⟩))
theorem b229_5 {X : (Nat → Int) × Nat} {d : Nat} {s : mSt} {Q : mQ} {x1 : Int} {x2 : Int} {l3 : Option mV} {l4 : Option mV} {xt0 : Int} (h_1 : xt0 = 0 → Wp X d 229 20 [some (mR 407), some (mI x1), some (mI x2), l3, l4] [] s Q) (h_2 : ¬ xt0 = 0 → Wp X d 229 8 [some (mR 407), some (mI x1), some (mI x2), l3, l4] [] s Q) : Wp X d 229 5 [some (mR 407), some (mI x1), some (mI x2), l3, l4] [mI xt0] s Q := Wp_step k229 f229_5 ⟨h_1, h_2⟩
theorem b229_8 {X : (Nat → Int) × Nat} {d : Nat} {s : mSt} {Q : mQ} {x1 : Int} {x2 : Int} {l3 : Option mV} {l4 : Option mV} (h_1 : Sp X d 167 [mJ x2, mJ 0, mJ 2] s (fun r s' => ∃ v : Int, r = some (mI v) ∧ Wp X (d + 1) 229 17 [some (mR 407), some (mI x1), some (mI x2), l3, l4] [mI v] s' Q)) : Wp X (d + 1) 229 8 [some (mR 407), some (mI x1), some (mI x2), l3, l4] [] s Q := Wp_step k229 f229_8 (Wp_step k229 f229_9 (Wp_step k229 f229_10 (Wp_step k229 f229_11 (Wp_step k229 f229_14 ⟨⟨Nat.le_of_ble_eq_true rfl, Nat.le_refl _⟩, _, rfl, Sp_E h_1⟩))))
theorem b229_17 {X : (Nat → Int) × Nat} {d : Nat} {s : mSt} {Q : mQ} {x1 : Int} {x2 : Int} {l3 : Option mV} {l4 : Option mV} {xt0 : Int} (h_1 : ¬ xt0 = 0 → Wp X d 229 22 [some (mR 407), some (mI x1), some (mI x2), l3, l4] [] s Q) (h_2 : xt0 = 0 → Wp X d 229 20 [some (mR 407), some (mI x1), some (mI x2), l3, l4] [] s Q) : Wp X d 229 17 [some (mR 407), some (mI x1), some (mI x2), l3, l4] [mI xt0] s Q := Wp_step k229 f229_17 ⟨h_1, h_2⟩
theorem b229_20 {X : (Nat → Int) × Nat} {d : Nat} {s : mSt} {Q : mQ} {x1 : Int} {x2 : Int} {l3 : Option mV} {l4 : Option mV} (h_1 : Q (some (mI (-1))) s) : Wp X d 229 20 [some (mR 407), some (mI x1), some (mI x2), l3, l4] [] s Q := Wp_step k229 f229_20 (Wp_step k229 f229_21 ⟨⟨rfl, trivial⟩, h_1⟩)
theorem b229_22 {X : (Nat → Int) × Nat} {d : Nat} {s : mSt} {Q : mQ} {x1 : Int} {x2 : Int} {l3 : Option mV} {l4 : Option mV} (h_1 : 2 ≤ x2 → Wp X d 229 53 [some (mR 407), some (mI x1), some (mI x2), l3, l4] [] s Q) (h_2 : ¬ 2 ≤ x2 → Wp X d 229 27 [some (mR 407), some (mI x1), some (mI x2), l3, l4] [] s Q) : Wp X d 229 22 [some (mR 407), some (mI x1), some (mI x2), l3, l4] [] s Q := Wp_step k229 f229_22 (Wp_step k229 f229_23 (Wp_step k229 f229_24 ⟨h_1, h_2⟩))
theorem b229_27 {X : (Nat → Int) × Nat} {d : Nat} {s : mSt} {Q : mQ} {x1 : Int} {x2 : Int} {l3 : Option mV} {l4 : Option mV} (h_1 : ¬ x2 = 0 → Wp X d 229 43 [some (mR 407), some (mI x1), some (mI x2), l3, l4] [] s Q) (h_2 : x2 = 0 → Wp X d 229 31 [some (mR 407), some (mI x1), some (mI x2), l3, l4] [] s Q) : Wp X d 229 27 [some (mR 407), some (mI x1), some (mI x2), l3, l4] [] s Q := Wp_step k229 f229_27 (Wp_step k229 f229_28 ⟨h_1, h_2⟩)
theorem b229_31 {X : (Nat → Int) × Nat} {d : Nat} {s : mSt} {Q : mQ} {x1 : Int} {x2 : Int} {l3 : Option mV} {l4 : Option mV} (h_1 : 0 ≤ (w32 (6 + x1)) ∧ (w32 (6 + x1)) < 166) (h_2 : Wp X d 229 52 [some (mR 407), some (mI x1), some (mI x2), l3, l4] [mI (s 417 (w32 (6 + x1)).toNat)] s Q) : Wp X d 229 31 [some (mR 407), some (mI x1), some (mI x2), l3, l4] [] s Q := Wp_step k229 f229_31 (Wp_step k229 f229_32 ⟨kf_407, 417, rf_407_20, Wp_step k229 f229_35 (Wp_step k229 f229_37 (Wp_step k229 f229_38 (Wp_step k229 f229_39 ⟨166, af_417, h_1, Wp_step k229 f229_40 (h_2)⟩)))⟩)
theorem b229_43 {X : (Nat → Int) × Nat} {d : Nat} {s : mSt} {Q : mQ} {x1 : Int} {x2 : Int} {l3 : Option mV} {l4 : Option mV} (h_1 : 0 ≤ (w32 (77 + x1)) ∧ (w32 (77 + x1)) < 166) (h_2 : Wp X d 229 52 [some (mR 407), some (mI x1), some (mI x2), l3, l4] [mI (s 417 (w32 (77 + x1)).toNat)] s Q) : Wp X d 229 43 [some (mR 407), some (mI x1), some (mI x2), l3, l4] [] s Q := Wp_step k229 f229_43 (Wp_step k229 f229_44 ⟨kf_407, 417, rf_407_20, Wp_step k229 f229_47 (Wp_step k229 f229_49 (Wp_step k229 f229_50 (Wp_step k229 f229_51 ⟨166, af_417, h_1, h_2⟩)))⟩)
theorem b229_52 {X : (Nat → Int) × Nat} {d : Nat} {s : mSt} {Q : mQ} {x1 : Int} {x2 : Int} {l3 : Option mV} {l4 : Option mV} {xt0 : Int} (h_1 : Q (some (mI xt0)) s) : Wp X d 229 52 [some (mR 407), some (mI x1), some (mI x2), l3, l4] [mI xt0] s Q := Wp_step k229 f229_52 ⟨⟨rfl, trivial⟩, h_1⟩
theorem b229_53 {X : (Nat → Int) × Nat} {d : Nat} {s : mSt} {Q : mQ} {x1 : Int} {x2 : Int} {l3 : Option mV} {l4 : Option mV} (h_1 : Wp X d 229 58 [some (mR 407), some (mI x1), some (mI x2), some (mI 0), some (mI 0)] [] s Q) : Wp X d 229 53 [some (mR 407), some (mI x1), some (mI x2), l3, l4] [] s Q := Wp_step k229 f229_53 (Wp_step k229 f229_54 (Wp_step k229 f229_55 (Wp_step k229 f229_56 (h_1))))
theorem b229_58 {X : (Nat → Int) × Nat} {d : Nat} {s : mSt} {Q : mQ} {x1 : Int} {x2 : Int} {x3 : Int} {x4 : Int} (h_1 : (s 417 4) ≤ x4 → Wp X d 229 96 [some (mR 407), some (mI x1), some (mI x2), some (mI x3), some (mI x4)] [] s Q) (h_2 : ¬ (s 417 4) ≤ x4 → Wp X d 229 69 [some (mR 407), some (mI x1), some (mI x2), some (mI x3), some (mI x4)] [] s Q) : Wp X d 229 58 [some (mR 407), some (mI x1), some (mI x2), some (mI x3), some (mI x4)] [] s Q := Wp_step k229 f229_58 (Wp_step k229 f229_60 (Wp_step k229 f229_61 ⟨kf_407, 417, rf_407_20, Wp_step k229 f229_64 (Wp_step k229 f229_65 ⟨166, af_417, ⟨by decide, by decide⟩, Wp_step k229 f229_66 ⟨h_1, h_2⟩⟩)⟩))
theorem b229_69 {X : (Nat → Int) × Nat} {d : Nat} {s : mSt} {Q : mQ} {x1 : Int} {x2 : Int} {x3 : Int} {x4 : Int} (h_1 : Sp X d 217 [mR 407, mI x4, mI x1] s (fun r s' => ∃ v : Int, r = some (mI v) ∧ Wp X (d + 1) 229 77 [some (mR 407), some (mI x1), some (mI x2), some (mI x3), some (mI x4)] [mI v, mI x3] s' Q)) : Wp X (d + 1) 229 69 [some (mR 407), some (mI x1), some (mI x2), some (mI x3), some (mI x4)] [] s Q := Wp_step k229 f229_69 (Wp_step k229 f229_70 (Wp_step k229 f229_71 (Wp_step k229 f229_73 (Wp_step k229 f229_74 ⟨⟨kf_407, Nat.le_of_ble_eq_true rfl⟩, Nat.le_refl _, _, rfl, Sp_E h_1⟩))))
theorem b229_77 {X : (Nat → Int) × Nat} {d : Nat} {s : mSt} {Q : mQ} {x1 : Int} {x2 : Int} {x3 : Int} {x4 : Int} {xt0 : Int} {xt1 : Int} (h_1 : xt1 = 0 → Wp X d 229 87 [some (mR 407), some (mI x1), some (mI x2), some (mI x3), some (mI x4)] [mI xt0] s Q) (h_2 : ¬ xt1 = 0 → Wp X d 229 80 [some (mR 407), some (mI x1), some (mI x2), some (mI x3), some (mI x4)] [mI xt0] s Q) : Wp X d 229 77 [some (mR 407), some (mI x1), some (mI x2), some (mI x3), some (mI x4)] [mI xt1, mI xt0] s Q := Wp_step k229 f229_77 ⟨h_1, h_2⟩
theorem b229_80 {X : (Nat → Int) × Nat} {d : Nat} {s : mSt} {Q : mQ} {x1 : Int} {x2 : Int} {x3 : Int} {x4 : Int} {xt0 : Int} (h_1 : Wp X d 229 88 [some (mR 407), some (mI x1), some (mI x2), some (mI x3), some (mI x4)] [mI (iShl 1 x4), mI xt0] s Q) : Wp X d 229 80 [some (mR 407), some (mI x1), some (mI x2), some (mI x3), some (mI x4)] [mI xt0] s Q := Wp_step k229 f229_80 (Wp_step k229 f229_81 (Wp_step k229 f229_83 (Wp_step k229 f229_84 (h_1))))
theorem b229_87 {X : (Nat → Int) × Nat} {d : Nat} {s : mSt} {Q : mQ} {x1 : Int} {x2 : Int} {x3 : Int} {x4 : Int} {xt0 : Int} (h_1 : Wp X d 229 88 [some (mR 407), some (mI x1), some (mI x2), some (mI x3), some (mI x4)] [mI 0, mI xt0] s Q) : Wp X d 229 87 [some (mR 407), some (mI x1), some (mI x2), some (mI x3), some (mI x4)] [mI xt0] s Q := Wp_step k229 f229_87 (h_1)
theorem b229_88 {X : (Nat → Int) × Nat} {d : Nat} {s : mSt} {Q : mQ} {x1 : Int} {x2 : Int} {x3 : Int} {x4 : Int} {xt0 : Int} {xt1 : Int} (h_1 : Wp X d 229 58 [some (mR 407), some (mI x1), some (mI x2), some (mI (iOr xt0 xt1)), some (mI (w32 (x4 + 1)))] [] s Q) : Wp X d 229 88 [some (mR 407), some (mI x1), some (mI x2), some (mI x3), some (mI x4)] [mI xt1, mI xt0] s Q := Wp_step k229 f229_88 (Wp_step k229 f229_89 (Wp_step k229 f229_90 (Wp_step k229 f229_93 (h_1))))
theorem b229_96 {X : (Nat → Int) × Nat} {d : Nat} {s : mSt} {Q : mQ} {x1 : Int} {x2 : Int} {x3 : Int} {x4 : Int} (h_1 : Q (some (mI x3)) s) : Wp X d 229 96 [some (mR 407), some (mI x1), some (mI x2), some (mI x3), some (mI x4)] [] s Q := Wp_step k229 f229_96 (Wp_step k229 f229_97 ⟨⟨rfl, trivial⟩, h_1⟩)
theorem e229 {X : (Nat → Int) × Nat} {d : Nat} {s : mSt} {Q : mQ} {x1 : Int} {x2 : Int} (h : Wp X d 229 0 [some (mR 407), some (mI x1), some (mI x2), none, none] [] s Q) : Sp X d 229 [mR 407, mI x1, mI x2] s Q := Sp_of (show mCe 229 = 0 by decide +kernel) (by rw [show mML 229 = 5 by decide +kernel]; rfl) (Nat.le_trans (Nat.le_of_ble_eq_true (show Nat.ble (mArgs _).length 5 = true from rfl)) (show 5 ≤ mML 229 by decide +kernel)) h
