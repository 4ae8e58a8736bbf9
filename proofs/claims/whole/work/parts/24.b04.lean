-- 64 ClashDay$Planner.follow(IIIII)V
theorem k64 : mRk 64 = 0 := by decide +kernel
theorem f64_0 : mFetch 64 0 = some (.iload_n 1, 1, 0, 0, 0, 0) := by decide +kernel
theorem f64_1 : mFetch 64 1 = some (.ifCond .ne 18, 3, 19, 0, 0, 0) := by decide +kernel
theorem f64_4 : mFetch 64 4 = some (.aload_n 0, 1, 0, 0, 0, 0) := by decide +kernel
theorem f64_5 : mFetch 64 5 = some (.iload_n 2, 1, 0, 0, 0, 0) := by decide +kernel
theorem f64_6 : mFetch 64 6 = some (.iload 4, 2, 0, 0, 0, 0) := by decide +kernel
theorem f64_8 : mFetch 64 8 = some (.iload 5, 2, 0, 0, 0, 0) := by decide +kernel
theorem f64_10 : mFetch 64 10 = some (.iload 4, 2, 0, 0, 0, 0) := by decide +kernel
theorem f64_12 : mFetch 64 12 = some (.iconst (-1), 1, 0, 0, 0, 0) := by decide +kernel
theorem f64_13 : mFetch 64 13 = some (.ixor, 1, 0, 0, 0, 0) := by decide +kernel
theorem f64_14 : mFetch 64 14 = some (.iand, 1, 0, 0, 0, 0) := by decide +kernel
theorem f64_15 : mFetch 64 15 = some (.invokevirtual 88, 3, 66, 0, 4, 4) := by decide +kernel
theorem f64_18 : mFetch 64 18 = some (.return_, 1, 0, 0, 0, 0) := by decide +kernel
theorem f64_19 : mFetch 64 19 = some (.iconst 0, 1, 0, 0, 0, 0) := by decide +kernel
theorem f64_20 : mFetch 64 20 = some (.istore 6, 2, 0, 0, 0, 0) := by decide +kernel
theorem f64_22 : mFetch 64 22 = some (.iload 6, 2, 0, 0, 0, 0) := by decide +kernel
theorem f64_24 : mFetch 64 24 = some (.iconst 5, 1, 0, 0, 0, 0) := by decide +kernel
theorem f64_25 : mFetch 64 25 = some (.if_icmp .ge 115, 3, 140, 0, 0, 0) := by decide +kernel
theorem f64_28 : mFetch 64 28 = some (.iload_n 1, 1, 0, 0, 0, 0) := by decide +kernel
theorem f64_29 : mFetch 64 29 = some (.iload 6, 2, 0, 0, 0, 0) := by decide +kernel
theorem f64_31 : mFetch 64 31 = some (.ishr, 1, 0, 0, 0, 0) := by decide +kernel
theorem f64_32 : mFetch 64 32 = some (.iconst 1, 1, 0, 0, 0, 0) := by decide +kernel
theorem f64_33 : mFetch 64 33 = some (.iand, 1, 0, 0, 0, 0) := by decide +kernel
theorem f64_34 : mFetch 64 34 = some (.iconst 1, 1, 0, 0, 0, 0) := by decide +kernel
theorem f64_35 : mFetch 64 35 = some (.if_icmp .ne 99, 3, 134, 0, 0, 0) := by decide +kernel
theorem f64_38 : mFetch 64 38 = some (.aload_n 0, 1, 0, 0, 0, 0) := by decide +kernel
theorem f64_39 : mFetch 64 39 = some (.iload 6, 2, 0, 0, 0, 0) := by decide +kernel
theorem f64_41 : mFetch 64 41 = some (.iload_n 2, 1, 0, 0, 0, 0) := by decide +kernel
theorem f64_42 : mFetch 64 42 = some (.iload_n 3, 1, 0, 0, 0, 0) := by decide +kernel
theorem f64_43 : mFetch 64 43 = some (.invokevirtual 92, 3, 65, 0, 4, 4) := by decide +kernel
theorem f64_46 : mFetch 64 46 = some (.istore 7, 2, 0, 0, 0, 0) := by decide +kernel
theorem f64_48 : mFetch 64 48 = some (.iload 7, 2, 0, 0, 0, 0) := by decide +kernel
theorem f64_50 : mFetch 64 50 = some (.iconst (-1), 1, 0, 0, 0, 0) := by decide +kernel
theorem f64_51 : mFetch 64 51 = some (.if_icmp .eq 83, 3, 134, 0, 0, 0) := by decide +kernel
theorem f64_54 : mFetch 64 54 = some (.iload 7, 2, 0, 0, 0, 0) := by decide +kernel
theorem f64_56 : mFetch 64 56 = some (.aload_n 0, 1, 0, 0, 0, 0) := by decide +kernel
theorem f64_57 : mFetch 64 57 = some (.getfield 15, 3, 4, 1, 2, 1) := by decide +kernel
theorem f64_60 : mFetch 64 60 = some (.iload 6, 2, 0, 0, 0, 0) := by decide +kernel
theorem f64_62 : mFetch 64 62 = some (.iaload, 1, 0, 0, 0, 0) := by decide +kernel
theorem f64_63 : mFetch 64 63 = some (.iadd, 1, 0, 0, 0, 0) := by decide +kernel
theorem f64_64 : mFetch 64 64 = some (.istore 8, 2, 0, 0, 0, 0) := by decide +kernel
theorem f64_66 : mFetch 64 66 = some (.aload_n 0, 1, 0, 0, 0, 0) := by decide +kernel
theorem f64_67 : mFetch 64 67 = some (.getfield 21, 3, 4, 3, 2, 1) := by decide +kernel
theorem f64_70 : mFetch 64 70 = some (.iload 6, 2, 0, 0, 0, 0) := by decide +kernel
theorem f64_72 : mFetch 64 72 = some (.iload 7, 2, 0, 0, 0, 0) := by decide +kernel
theorem f64_74 : mFetch 64 74 = some (.iastore, 1, 0, 0, 0, 0) := by decide +kernel
theorem f64_75 : mFetch 64 75 = some (.aload_n 0, 1, 0, 0, 0, 0) := by decide +kernel
theorem f64_76 : mFetch 64 76 = some (.iload_n 1, 1, 0, 0, 0, 0) := by decide +kernel
theorem f64_77 : mFetch 64 77 = some (.iconst 1, 1, 0, 0, 0, 0) := by decide +kernel
theorem f64_78 : mFetch 64 78 = some (.iload 6, 2, 0, 0, 0, 0) := by decide +kernel
theorem f64_80 : mFetch 64 80 = some (.ishl, 1, 0, 0, 0, 0) := by decide +kernel
theorem f64_81 : mFetch 64 81 = some (.iconst (-1), 1, 0, 0, 0, 0) := by decide +kernel
theorem f64_82 : mFetch 64 82 = some (.ixor, 1, 0, 0, 0, 0) := by decide +kernel
theorem f64_83 : mFetch 64 83 = some (.iand, 1, 0, 0, 0, 0) := by decide +kernel
theorem f64_84 : mFetch 64 84 = some (.iload 8, 2, 0, 0, 0, 0) := by decide +kernel
theorem f64_86 : mFetch 64 86 = some (.iload 7, 2, 0, 0, 0, 0) := by decide +kernel
theorem f64_88 : mFetch 64 88 = some (.bipush 20, 2, 0, 0, 0, 0) := by decide +kernel
theorem f64_90 : mFetch 64 90 = some (.if_icmp .ge 15, 3, 105, 0, 0, 0) := by decide +kernel
theorem f64_93 : mFetch 64 93 = some (.iload_n 3, 1, 0, 0, 0, 0) := by decide +kernel
theorem f64_94 : mFetch 64 94 = some (.aload_n 0, 1, 0, 0, 0, 0) := by decide +kernel
theorem f64_95 : mFetch 64 95 = some (.getfield 15, 3, 4, 1, 2, 1) := by decide +kernel
theorem f64_98 : mFetch 64 98 = some (.iload 6, 2, 0, 0, 0, 0) := by decide +kernel
theorem f64_100 : mFetch 64 100 = some (.iaload, 1, 0, 0, 0, 0) := by decide +kernel
theorem f64_101 : mFetch 64 101 = some (.iadd, 1, 0, 0, 0, 0) := by decide +kernel
theorem f64_102 : mFetch 64 102 = some (.goto 4, 3, 106, 0, 0, 0) := by decide +kernel
theorem f64_105 : mFetch 64 105 = some (.iload_n 3, 1, 0, 0, 0, 0) := by decide +kernel
theorem f64_106 : mFetch 64 106 = some (.iload 4, 2, 0, 0, 0, 0) := by decide +kernel
theorem f64_108 : mFetch 64 108 = some (.iload 7, 2, 0, 0, 0, 0) := by decide +kernel
theorem f64_110 : mFetch 64 110 = some (.iload 8, 2, 0, 0, 0, 0) := by decide +kernel
theorem f64_112 : mFetch 64 112 = some (.invokestatic 96, 3, 32, 0, 2, 99) := by decide +kernel
theorem f64_115 : mFetch 64 115 = some (.ior, 1, 0, 0, 0, 0) := by decide +kernel
theorem f64_116 : mFetch 64 116 = some (.iload 5, 2, 0, 0, 0, 0) := by decide +kernel
theorem f64_118 : mFetch 64 118 = some (.aload_n 0, 1, 0, 0, 0, 0) := by decide +kernel
theorem f64_119 : mFetch 64 119 = some (.getfield 9, 3, 4, 0, 2, 1) := by decide +kernel
theorem f64_122 : mFetch 64 122 = some (.iload 6, 2, 0, 0, 0, 0) := by decide +kernel
theorem f64_124 : mFetch 64 124 = some (.iaload, 1, 0, 0, 0, 0) := by decide +kernel
theorem f64_125 : mFetch 64 125 = some (.iload 7, 2, 0, 0, 0, 0) := by decide +kernel
theorem f64_127 : mFetch 64 127 = some (.invokestatic 96, 3, 32, 0, 2, 99) := by decide +kernel
theorem f64_130 : mFetch 64 130 = some (.ior, 1, 0, 0, 0, 0) := by decide +kernel
theorem f64_131 : mFetch 64 131 = some (.invokevirtual 35, 3, 64, 0, 6, 4) := by decide +kernel
theorem f64_134 : mFetch 64 134 = some (.iinc 6 1, 3, 0, 0, 0, 0) := by decide +kernel
theorem f64_137 : mFetch 64 137 = some (.goto (-115), 3, 22, 0, 0, 0) := by decide +kernel
theorem f64_140 : mFetch 64 140 = some (.return_, 1, 0, 0, 0, 0) := by decide +kernel
theorem b64_0 {X : (Nat → Int) × Nat} {d : Nat} {s : mSt} {Q : mQ} {x1 : Int} {x2 : Int} {x3 : Int} {x4 : Int} {x5 : Int} {l6 : Option mV} {l7 : Option mV} {l8 : Option mV} (h_1 : ¬ x1 = 0 → Wp X d 64 19 [some (mR 44), some (mI x1), some (mI x2), some (mI x3), some (mI x4), some (mI x5), l6, l7, l8] [] s Q) (h_2 : x1 = 0 → Wp X d 64 4 [some (mR 44), some (mI x1), some (mI x2), some (mI x3), some (mI x4), some (mI x5), l6, l7, l8] [] s Q) : Wp X d 64 0 [some (mR 44), some (mI x1), some (mI x2), some (mI x3), some (mI x4), some (mI x5), l6, l7, l8] [] s Q := Wp_step k64 f64_0 (Wp_step k64 f64_1 ⟨h_1, h_2⟩)
theorem b64_4 {X : (Nat → Int) × Nat} {d : Nat} {s : mSt} {Q : mQ} {x1 : Int} {x2 : Int} {x3 : Int} {x4 : Int} {x5 : Int} {l6 : Option mV} {l7 : Option mV} {l8 : Option mV} (h_1 : Sp X d 66 [mR 44, mI x2, mI x4, mI (iAnd x5 (iXor x4 (-1)))] s (fun r s' => r = none ∧ Wp X (d + 1) 64 18 [some (mR 44), some (mI x1), some (mI x2), some (mI x3), some (mI x4), some (mI x5), l6, l7, l8] [] s' Q)) : Wp X (d + 1) 64 4 [some (mR 44), some (mI x1), some (mI x2), some (mI x3), some (mI x4), some (mI x5), l6, l7, l8] [] s Q := Wp_step k64 f64_4 (Wp_step k64 f64_5 (Wp_step k64 f64_6 (Wp_step k64 f64_8 (Wp_step k64 f64_10 (Wp_step k64 f64_12 (Wp_step k64 f64_13 (Wp_step k64 f64_14 (Wp_step k64 f64_15 ⟨⟨kf_44, Nat.le_of_ble_eq_true rfl⟩, Nat.le_refl _, _, rfl, Sp_V h_1⟩))))))))
theorem b64_18 {X : (Nat → Int) × Nat} {d : Nat} {s : mSt} {Q : mQ} {x1 : Int} {x2 : Int} {x3 : Int} {x4 : Int} {x5 : Int} {l6 : Option mV} {l7 : Option mV} {l8 : Option mV} (h_1 : Q none s) : Wp X d 64 18 [some (mR 44), some (mI x1), some (mI x2), some (mI x3), some (mI x4), some (mI x5), l6, l7, l8] [] s Q := Wp_step k64 f64_18 ⟨⟨rfl, Or.inl rfl⟩, h_1⟩
theorem b64_19 {X : (Nat → Int) × Nat} {d : Nat} {s : mSt} {Q : mQ} {x1 : Int} {x2 : Int} {x3 : Int} {x4 : Int} {x5 : Int} {l6 : Option mV} {l7 : Option mV} {l8 : Option mV} (h_1 : Wp X d 64 22 [some (mR 44), some (mI x1), some (mI x2), some (mI x3), some (mI x4), some (mI x5), some (mI 0), l7, l8] [] s Q) : Wp X d 64 19 [some (mR 44), some (mI x1), some (mI x2), some (mI x3), some (mI x4), some (mI x5), l6, l7, l8] [] s Q := Wp_step k64 f64_19 (Wp_step k64 f64_20 (h_1))
theorem b64_22 {X : (Nat → Int) × Nat} {d : Nat} {s : mSt} {Q : mQ} {x1 : Int} {x2 : Int} {x3 : Int} {x4 : Int} {x5 : Int} {x6 : Int} {l7 : Option mV} {l8 : Option mV} (h_1 : 5 ≤ x6 → Wp X d 64 140 [some (mR 44), some (mI x1), some (mI x2), some (mI x3), some (mI x4), some (mI x5), some (mI x6), l7, l8] [] s Q) (h_2 : ¬ 5 ≤ x6 → Wp X d 64 28 [some (mR 44), some (mI x1), some (mI x2), some (mI x3), some (mI x4), some (mI x5), some (mI x6), l7, l8] [] s Q) : Wp X d 64 22 [some (mR 44), some (mI x1), some (mI x2), some (mI x3), some (mI x4), some (mI x5), some (mI x6), l7, l8] [] s Q := Wp_step k64 f64_22 (Wp_step k64 f64_24 (Wp_step k64 f64_25 ⟨h_1, h_2⟩))
theorem b64_28 {X : (Nat → Int) × Nat} {d : Nat} {s : mSt} {Q : mQ} {x1 : Int} {x2 : Int} {x3 : Int} {x4 : Int} {x5 : Int} {x6 : Int} {l7 : Option mV} {l8 : Option mV} (h_1 : ¬ (iAnd (iShr x1 x6) 1) = 1 → Wp X d 64 134 [some (mR 44), some (mI x1), some (mI x2), some (mI x3), some (mI x4), some (mI x5), some (mI x6), l7, l8] [] s Q) (h_2 : (iAnd (iShr x1 x6) 1) = 1 → Wp X d 64 38 [some (mR 44), some (mI x1), some (mI x2), some (mI x3), some (mI x4), some (mI x5), some (mI x6), l7, l8] [] s Q) : Wp X d 64 28 [some (mR 44), some (mI x1), some (mI x2), some (mI x3), some (mI x4), some (mI x5), some (mI x6), l7, l8] [] s Q := Wp_step k64 f64_28 (Wp_step k64 f64_29 (Wp_step k64 f64_31 (Wp_step k64 f64_32 (Wp_step k64 f64_33 (Wp_step k64 f64_34 (Wp_step k64 f64_35 ⟨h_1, h_2⟩))))))
theorem b64_38 {X : (Nat → Int) × Nat} {d : Nat} {s : mSt} {Q : mQ} {x1 : Int} {x2 : Int} {x3 : Int} {x4 : Int} {x5 : Int} {x6 : Int} {l7 : Option mV} {l8 : Option mV} (h_1 : Sp X d 65 [mR 44, mI x6, mI x2, mI x3] s (fun r s' => ∃ v : Int, r = some (mI v) ∧ Wp X (d + 1) 64 46 [some (mR 44), some (mI x1), some (mI x2), some (mI x3), some (mI x4), some (mI x5), some (mI x6), l7, l8] [mI v] s' Q)) : Wp X (d + 1) 64 38 [some (mR 44), some (mI x1), some (mI x2), some (mI x3), some (mI x4), some (mI x5), some (mI x6), l7, l8] [] s Q := Wp_step k64 f64_38 (Wp_step k64 f64_39 (Wp_step k64 f64_41 (Wp_step k64 f64_42 (Wp_step k64 f64_43 ⟨⟨kf_44, Nat.le_of_ble_eq_true rfl⟩, Nat.le_refl _, _, rfl, Sp_E h_1⟩))))
theorem b64_46 {X : (Nat → Int) × Nat} {d : Nat} {s : mSt} {Q : mQ} {x1 : Int} {x2 : Int} {x3 : Int} {x4 : Int} {x5 : Int} {x6 : Int} {l7 : Option mV} {l8 : Option mV} {xt0 : Int} (h_1 : xt0 = (-1) → Wp X d 64 134 [some (mR 44), some (mI x1), some (mI x2), some (mI x3), some (mI x4), some (mI x5), some (mI x6), some (mI xt0), l8] [] s Q) (h_2 : ¬ xt0 = (-1) → Wp X d 64 54 [some (mR 44), some (mI x1), some (mI x2), some (mI x3), some (mI x4), some (mI x5), some (mI x6), some (mI xt0), l8] [] s Q) : Wp X d 64 46 [some (mR 44), some (mI x1), some (mI x2), some (mI x3), some (mI x4), some (mI x5), some (mI x6), l7, l8] [mI xt0] s Q := Wp_step k64 f64_46 (Wp_step k64 f64_48 (Wp_step k64 f64_50 (Wp_step k64 f64_51 ⟨h_1, h_2⟩)))
theorem b64_54 {X : (Nat → Int) × Nat} {d : Nat} {s : mSt} {Q : mQ} {x1 : Int} {x2 : Int} {x3 : Int} {x4 : Int} {x5 : Int} {x6 : Int} {x7 : Int} {l8 : Option mV} (h_1 : 0 ≤ x6 ∧ x6 < 5) (h_2 : 0 ≤ x6 ∧ x6 < 5) (h_3 : 20 ≤ x7 → Wp X d 64 105 [some (mR 44), some (mI x1), some (mI x2), some (mI x3), some (mI x4), some (mI x5), some (mI x6), some (mI x7), some (mI (w32 (x7 + (s 46 x6.toNat))))] [mI (w32 (x7 + (s 46 x6.toNat))), mI (iAnd x1 (iXor (iShl 1 x6) (-1))), mR 44] (uS s 48 x6.toNat x7) Q) (h_4 : ¬ 20 ≤ x7 → Wp X d 64 93 [some (mR 44), some (mI x1), some (mI x2), some (mI x3), some (mI x4), some (mI x5), some (mI x6), some (mI x7), some (mI (w32 (x7 + (s 46 x6.toNat))))] [mI (w32 (x7 + (s 46 x6.toNat))), mI (iAnd x1 (iXor (iShl 1 x6) (-1))), mR 44] (uS s 48 x6.toNat x7) Q) : Wp X d 64 54 [some (mR 44), some (mI x1), some (mI x2), some (mI x3), some (mI x4), some (mI x5), some (mI x6), some (mI x7), l8] [] s Q := Wp_step k64 f64_54 (Wp_step k64 f64_56 (Wp_step k64 f64_57 ⟨kf_44, 46, rf_44_1, Wp_step k64 f64_60 (Wp_step k64 f64_62 ⟨5, af_46, h_1, Wp_step k64 f64_63 (Wp_step k64 f64_64 (Wp_step k64 f64_66 (Wp_step k64 f64_67 ⟨kf_44, 48, rf_44_3, Wp_step k64 f64_70 (Wp_step k64 f64_72 (Wp_step k64 f64_74 ⟨5, af_48, h_2, Wp_step k64 f64_75 (Wp_step k64 f64_76 (Wp_step k64 f64_77 (Wp_step k64 f64_78 (Wp_step k64 f64_80 (Wp_step k64 f64_81 (Wp_step k64 f64_82 (Wp_step k64 f64_83 (Wp_step k64 f64_84 (Wp_step k64 f64_86 (Wp_step k64 f64_88 (Wp_step k64 f64_90 ⟨h_3, h_4⟩)))))))))))⟩))⟩)))⟩)⟩))
theorem b64_93 {X : (Nat → Int) × Nat} {d : Nat} {s : mSt} {Q : mQ} {x1 : Int} {x2 : Int} {x3 : Int} {x4 : Int} {x5 : Int} {x6 : Int} {x7 : Int} {x8 : Int} {xt1 : Int} {xt2 : Int} (h_1 : 0 ≤ x6 ∧ x6 < 5) (h_2 : Wp X d 64 106 [some (mR 44), some (mI x1), some (mI x2), some (mI x3), some (mI x4), some (mI x5), some (mI x6), some (mI x7), some (mI x8)] [mI (w32 (x3 + (s 46 x6.toNat))), mI xt2, mI xt1, mR 44] s Q) : Wp X d 64 93 [some (mR 44), some (mI x1), some (mI x2), some (mI x3), some (mI x4), some (mI x5), some (mI x6), some (mI x7), some (mI x8)] [mI xt2, mI xt1, mR 44] s Q := Wp_step k64 f64_93 (Wp_step k64 f64_94 (Wp_step k64 f64_95 ⟨kf_44, 46, rf_44_1, Wp_step k64 f64_98 (Wp_step k64 f64_100 ⟨5, af_46, h_1, Wp_step k64 f64_101 (Wp_step k64 f64_102 (h_2))⟩)⟩))
theorem b64_105 {X : (Nat → Int) × Nat} {d : Nat} {s : mSt} {Q : mQ} {x1 : Int} {x2 : Int} {x3 : Int} {x4 : Int} {x5 : Int} {x6 : Int} {x7 : Int} {x8 : Int} {xt1 : Int} {xt2 : Int} (h_1 : Wp X d 64 106 [some (mR 44), some (mI x1), some (mI x2), some (mI x3), some (mI x4), some (mI x5), some (mI x6), some (mI x7), some (mI x8)] [mI x3, mI xt2, mI xt1, mR 44] s Q) : Wp X d 64 105 [some (mR 44), some (mI x1), some (mI x2), some (mI x3), some (mI x4), some (mI x5), some (mI x6), some (mI x7), some (mI x8)] [mI xt2, mI xt1, mR 44] s Q := Wp_step k64 f64_105 (h_1)
theorem b64_106 {X : (Nat → Int) × Nat} {d : Nat} {s : mSt} {Q : mQ} {x1 : Int} {x2 : Int} {x3 : Int} {x4 : Int} {x5 : Int} {x6 : Int} {x7 : Int} {x8 : Int} {xt1 : Int} {xt2 : Int} {xt3 : Int} (h_1 : Sp X d 32 [mI x7, mI x8] s (fun r s' => ∃ v : Int, r = some (mI v) ∧ Wp X (d + 1) 64 115 [some (mR 44), some (mI x1), some (mI x2), some (mI x3), some (mI x4), some (mI x5), some (mI x6), some (mI x7), some (mI x8)] [mI v, mI x4, mI xt3, mI xt2, mI xt1, mR 44] s' Q)) : Wp X (d + 1) 64 106 [some (mR 44), some (mI x1), some (mI x2), some (mI x3), some (mI x4), some (mI x5), some (mI x6), some (mI x7), some (mI x8)] [mI xt3, mI xt2, mI xt1, mR 44] s Q := Wp_step k64 f64_106 (Wp_step k64 f64_108 (Wp_step k64 f64_110 (Wp_step k64 f64_112 ⟨⟨Nat.le_of_ble_eq_true rfl, Nat.le_refl _⟩, _, rfl, Sp_E h_1⟩)))
theorem b64_115 {X : (Nat → Int) × Nat} {d : Nat} {s : mSt} {Q : mQ} {x1 : Int} {x2 : Int} {x3 : Int} {x4 : Int} {x5 : Int} {x6 : Int} {x7 : Int} {x8 : Int} {xt1 : Int} {xt2 : Int} {xt3 : Int} {xt4 : Int} {xt5 : Int} (h_1 : 0 ≤ x6 ∧ x6 < 5) (h_2 : Sp X d 32 [mI (s 45 x6.toNat), mI x7] s (fun r s' => ∃ v : Int, r = some (mI v) ∧ Wp X (d + 1) 64 130 [some (mR 44), some (mI x1), some (mI x2), some (mI x3), some (mI x4), some (mI x5), some (mI x6), some (mI x7), some (mI x8)] [mI v, mI x5, mI (iOr xt4 xt5), mI xt3, mI xt2, mI xt1, mR 44] s' Q)) : Wp X (d + 1) 64 115 [some (mR 44), some (mI x1), some (mI x2), some (mI x3), some (mI x4), some (mI x5), some (mI x6), some (mI x7), some (mI x8)] [mI xt5, mI xt4, mI xt3, mI xt2, mI xt1, mR 44] s Q := Wp_step k64 f64_115 (Wp_step k64 f64_116 (Wp_step k64 f64_118 (Wp_step k64 f64_119 ⟨kf_44, 45, rf_44_0, Wp_step k64 f64_122 (Wp_step k64 f64_124 ⟨5, af_45, h_1, Wp_step k64 f64_125 (Wp_step k64 f64_127 ⟨⟨Nat.le_of_ble_eq_true rfl, Nat.le_refl _⟩, _, rfl, Sp_E h_2⟩)⟩)⟩)))
theorem b64_130 {X : (Nat → Int) × Nat} {d : Nat} {s : mSt} {Q : mQ} {x1 : Int} {x2 : Int} {x3 : Int} {x4 : Int} {x5 : Int} {x6 : Int} {x7 : Int} {x8 : Int} {xt1 : Int} {xt2 : Int} {xt3 : Int} {xt4 : Int} {xt5 : Int} {xt6 : Int} (h_1 : Sp X d 64 [mR 44, mI xt1, mI xt2, mI xt3, mI xt4, mI (iOr xt5 xt6)] s (fun r s' => r = none ∧ Wp X (d + 1) 64 134 [some (mR 44), some (mI x1), some (mI x2), some (mI x3), some (mI x4), some (mI x5), some (mI x6), some (mI x7), some (mI x8)] [] s' Q)) : Wp X (d + 1) 64 130 [some (mR 44), some (mI x1), some (mI x2), some (mI x3), some (mI x4), some (mI x5), some (mI x6), some (mI x7), some (mI x8)] [mI xt6, mI xt5, mI xt4, mI xt3, mI xt2, mI xt1, mR 44] s Q := Wp_step k64 f64_130 (Wp_step k64 f64_131 ⟨⟨kf_44, Nat.le_of_ble_eq_true rfl⟩, Nat.le_refl _, _, rfl, Sp_V h_1⟩)
theorem b64_134 {X : (Nat → Int) × Nat} {d : Nat} {s : mSt} {Q : mQ} {x1 : Int} {x2 : Int} {x3 : Int} {x4 : Int} {x5 : Int} {x6 : Int} {l7 : Option mV} {l8 : Option mV} (h_1 : Wp X d 64 22 [some (mR 44), some (mI x1), some (mI x2), some (mI x3), some (mI x4), some (mI x5), some (mI (w32 (x6 + 1))), l7, l8] [] s Q) : Wp X d 64 134 [some (mR 44), some (mI x1), some (mI x2), some (mI x3), some (mI x4), some (mI x5), some (mI x6), l7, l8] [] s Q := Wp_step k64 f64_134 (Wp_step k64 f64_137 (h_1))
theorem b64_140 {X : (Nat → Int) × Nat} {d : Nat} {s : mSt} {Q : mQ} {x1 : Int} {x2 : Int} {x3 : Int} {x4 : Int} {x5 : Int} {x6 : Int} {l7 : Option mV} {l8 : Option mV} (h_1 : Q none s) : Wp X d 64 140 [some (mR 44), some (mI x1), some (mI x2), some (mI x3), some (mI x4), some (mI x5), some (mI x6), l7, l8] [] s Q := Wp_step k64 f64_140 ⟨⟨rfl, Or.inl rfl⟩, h_1⟩
theorem e64 {X : (Nat → Int) × Nat} {d : Nat} {s : mSt} {Q : mQ} {x1 : Int} {x2 : Int} {x3 : Int} {x4 : Int} {x5 : Int} (h : Wp X d 64 0 [some (mR 44), some (mI x1), some (mI x2), some (mI x3), some (mI x4), some (mI x5), none, none, none] [] s Q) : Sp X d 64 [mR 44, mI x1, mI x2, mI x3, mI x4, mI x5] s Q := Sp_of (show mCe 64 = 0 by decide +kernel) (by rw [show mML 64 = 9 by decide +kernel]; rfl) (Nat.le_trans (Nat.le_of_ble_eq_true (show Nat.ble (mArgs _).length 9 = true from rfl)) (show 9 ≤ mML 64 by decide +kernel)) h
-- 65 ClashDay$Planner.leastSlot(III)I
theorem k65 : mRk 65 = 1 := by decide +kernel
theorem f65_0 : mFetch 65 0 = some (.aload_n 0, 1, 0, 0, 0, 0) := by decide +kernel
theorem f65_1 : mFetch 65 1 = some (.getfield 18, 3, 4, 2, 2, 1) := by decide +kernel
theorem f65_4 : mFetch 65 4 = some (.iload_n 1, 1, 0, 0, 0, 0) := by decide +kernel
theorem f65_5 : mFetch 65 5 = some (.iaload, 1, 0, 0, 0, 0) := by decide +kernel
theorem f65_6 : mFetch 65 6 = some (.istore 4, 2, 0, 0, 0, 0) := by decide +kernel
theorem f65_8 : mFetch 65 8 = some (.iload_n 2, 1, 0, 0, 0, 0) := by decide +kernel
theorem f65_9 : mFetch 65 9 = some (.iconst (-1), 1, 0, 0, 0, 0) := by decide +kernel
theorem f65_10 : mFetch 65 10 = some (.if_icmp .eq 39, 3, 49, 0, 0, 0) := by decide +kernel
theorem f65_13 : mFetch 65 13 = some (.iconst (-1), 1, 0, 0, 0, 0) := by decide +kernel
theorem f65_14 : mFetch 65 14 = some (.iload_n 2, 1, 0, 0, 0, 0) := by decide +kernel
theorem f65_15 : mFetch 65 15 = some (.aload_n 0, 1, 0, 0, 0, 0) := by decide +kernel
theorem f65_16 : mFetch 65 16 = some (.getfield 73, 3, 4, 5, 0, 1) := by decide +kernel
theorem f65_19 : mFetch 65 19 = some (.iadd, 1, 0, 0, 0, 0) := by decide +kernel
theorem f65_20 : mFetch 65 20 = some (.bipush 30, 2, 0, 0, 0, 0) := by decide +kernel
theorem f65_22 : mFetch 65 22 = some (.invokestatic 99, 3, (-6), 0, 0, 0) := by decide +kernel
theorem f65_25 : mFetch 65 25 = some (.ishl, 1, 0, 0, 0, 0) := by decide +kernel
theorem f65_26 : mFetch 65 26 = some (.istore 5, 2, 0, 0, 0, 0) := by decide +kernel
theorem f65_28 : mFetch 65 28 = some (.iload 4, 2, 0, 0, 0, 0) := by decide +kernel
theorem f65_30 : mFetch 65 30 = some (.iload_n 2, 1, 0, 0, 0, 0) := by decide +kernel
theorem f65_31 : mFetch 65 31 = some (.bipush 20, 2, 0, 0, 0, 0) := by decide +kernel
theorem f65_33 : mFetch 65 33 = some (.if_icmp .gt 11, 3, 44, 0, 0, 0) := by decide +kernel
theorem f65_36 : mFetch 65 36 = some (.iload 5, 2, 0, 0, 0, 0) := by decide +kernel
theorem f65_38 : mFetch 65 38 = some (.ldc 84, 2, (-1048576), 0, 0, 0) := by decide +kernel
theorem f65_40 : mFetch 65 40 = some (.ior, 1, 0, 0, 0, 0) := by decide +kernel
theorem f65_41 : mFetch 65 41 = some (.goto 5, 3, 46, 0, 0, 0) := by decide +kernel
theorem f65_44 : mFetch 65 44 = some (.iload 5, 2, 0, 0, 0, 0) := by decide +kernel
theorem f65_46 : mFetch 65 46 = some (.iand, 1, 0, 0, 0, 0) := by decide +kernel
theorem f65_47 : mFetch 65 47 = some (.istore 4, 2, 0, 0, 0, 0) := by decide +kernel
theorem f65_49 : mFetch 65 49 = some (.iload_n 3, 1, 0, 0, 0, 0) := by decide +kernel
theorem f65_50 : mFetch 65 50 = some (.aload_n 0, 1, 0, 0, 0, 0) := by decide +kernel
theorem f65_51 : mFetch 65 51 = some (.getfield 15, 3, 4, 1, 2, 1) := by decide +kernel
theorem f65_54 : mFetch 65 54 = some (.iload_n 1, 1, 0, 0, 0, 0) := by decide +kernel
theorem f65_55 : mFetch 65 55 = some (.iaload, 1, 0, 0, 0, 0) := by decide +kernel
theorem f65_56 : mFetch 65 56 = some (.iadd, 1, 0, 0, 0, 0) := by decide +kernel
theorem f65_57 : mFetch 65 57 = some (.aload_n 0, 1, 0, 0, 0, 0) := by decide +kernel
theorem f65_58 : mFetch 65 58 = some (.getfield 69, 3, 4, 4, 0, 1) := by decide +kernel
theorem f65_61 : mFetch 65 61 = some (.if_icmp .le 10, 3, 71, 0, 0, 0) := by decide +kernel
theorem f65_64 : mFetch 65 64 = some (.iload 4, 2, 0, 0, 0, 0) := by decide +kernel
theorem f65_66 : mFetch 65 66 = some (.ldc 84, 2, (-1048576), 0, 0, 0) := by decide +kernel
theorem f65_68 : mFetch 65 68 = some (.iand, 1, 0, 0, 0, 0) := by decide +kernel
theorem f65_69 : mFetch 65 69 = some (.istore 4, 2, 0, 0, 0, 0) := by decide +kernel
theorem f65_71 : mFetch 65 71 = some (.iload 4, 2, 0, 0, 0, 0) := by decide +kernel
theorem f65_73 : mFetch 65 73 = some (.ifCond .ne 7, 3, 80, 0, 0, 0) := by decide +kernel
theorem f65_76 : mFetch 65 76 = some (.iconst (-1), 1, 0, 0, 0, 0) := by decide +kernel
theorem f65_77 : mFetch 65 77 = some (.goto 8, 3, 85, 0, 0, 0) := by decide +kernel
theorem f65_80 : mFetch 65 80 = some (.iload 4, 2, 0, 0, 0, 0) := by decide +kernel
theorem f65_82 : mFetch 65 82 = some (.invokestatic 104, 3, 310, 0, 1, 99) := by decide +kernel
theorem f65_85 : mFetch 65 85 = some (.ireturn, 1, 0, 0, 0, 0) := by decide +kernel
theorem b65_0 {X : (Nat → Int) × Nat} {d : Nat} {s : mSt} {Q : mQ} {x1 : Int} {x2 : Int} {x3 : Int} {l4 : Option mV} {l5 : Option mV} (h_1 : 0 ≤ x1 ∧ x1 < 5) (h_2 : x2 = (-1) → Wp X d 65 49 [some (mR 44), some (mI x1), some (mI x2), some (mI x3), some (mI (s 47 x1.toNat)), l5] [] s Q) (h_3 : ¬ x2 = (-1) → Wp X d 65 13 [some (mR 44), some (mI x1), some (mI x2), some (mI x3), some (mI (s 47 x1.toNat)), l5] [] s Q) : Wp X d 65 0 [some (mR 44), some (mI x1), some (mI x2), some (mI x3), l4, l5] [] s Q := Wp_step k65 f65_0 (Wp_step k65 f65_1 ⟨kf_44, 47, rf_44_2, Wp_step k65 f65_4 (Wp_step k65 f65_5 ⟨5, af_47, h_1, Wp_step k65 f65_6 (Wp_step k65 f65_8 (Wp_step k65 f65_9 (Wp_step k65 f65_10 ⟨h_2, h_3⟩)))⟩)⟩)
theorem b65_13 {X : (Nat → Int) × Nat} {d : Nat} {s : mSt} {Q : mQ} {x1 : Int} {x2 : Int} {x3 : Int} {x4 : Int} {l5 : Option mV} (h_1 : 20 < x2 → Wp X (d + 1) 65 44 [some (mR 44), some (mI x1), some (mI x2), some (mI x3), some (mI x4), some (mI (iShl (-1) (iMin (w32 (x2 + (s 44 5))) 30)))] [mI x4] s Q) (h_2 : ¬ 20 < x2 → Wp X (d + 1) 65 36 [some (mR 44), some (mI x1), some (mI x2), some (mI x3), some (mI x4), some (mI (iShl (-1) (iMin (w32 (x2 + (s 44 5))) 30)))] [mI x4] s Q) : Wp X (d + 1) 65 13 [some (mR 44), some (mI x1), some (mI x2), some (mI x3), some (mI x4), l5] [] s Q := Wp_step k65 f65_13 (Wp_step k65 f65_14 (Wp_step k65 f65_15 (Wp_step k65 f65_16 ⟨kf_44, Wp_step k65 f65_19 (Wp_step k65 f65_20 (Wp_step k65 f65_22 ⟨⟨Nat.succ_pos _, Nat.le_of_ble_eq_true rfl⟩, Wp_step k65 f65_25 (Wp_step k65 f65_26 (Wp_step k65 f65_28 (Wp_step k65 f65_30 (Wp_step k65 f65_31 (Wp_step k65 f65_33 ⟨h_1, h_2⟩)))))⟩))⟩)))
theorem b65_36 {X : (Nat → Int) × Nat} {d : Nat} {s : mSt} {Q : mQ} {x1 : Int} {x2 : Int} {x3 : Int} {x4 : Int} {x5 : Int} {xt0 : Int} (h_1 : Wp X d 65 46 [some (mR 44), some (mI x1), some (mI x2), some (mI x3), some (mI x4), some (mI x5)] [mI (iOr x5 (-1048576)), mI xt0] s Q) : Wp X d 65 36 [some (mR 44), some (mI x1), some (mI x2), some (mI x3), some (mI x4), some (mI x5)] [mI xt0] s Q := Wp_step k65 f65_36 (Wp_step k65 f65_38 (Wp_step k65 f65_40 (Wp_step k65 f65_41 (h_1))))
theorem b65_44 {X : (Nat → Int) × Nat} {d : Nat} {s : mSt} {Q : mQ} {x1 : Int} {x2 : Int} {x3 : Int} {x4 : Int} {x5 : Int} {xt0 : Int} (h_1 : Wp X d 65 46 [some (mR 44), some (mI x1), some (mI x2), some (mI x3), some (mI x4), some (mI x5)] [mI x5, mI xt0] s Q) : Wp X d 65 44 [some (mR 44), some (mI x1), some (mI x2), some (mI x3), some (mI x4), some (mI x5)] [mI xt0] s Q := Wp_step k65 f65_44 (h_1)
theorem b65_46 {X : (Nat → Int) × Nat} {d : Nat} {s : mSt} {Q : mQ} {x1 : Int} {x2 : Int} {x3 : Int} {x4 : Int} {x5 : Int} {xt0 : Int} {xt1 : Int} (h_1 : Wp X d 65 49 [some (mR 44), some (mI x1), some (mI x2), some (mI x3), some (mI (iAnd xt0 xt1)), some (mI x5)] [] s Q) : Wp X d 65 46 [some (mR 44), some (mI x1), some (mI x2), some (mI x3), some (mI x4), some (mI x5)] [mI xt1, mI xt0] s Q := Wp_step k65 f65_46 (Wp_step k65 f65_47 (h_1))
theorem b65_49 {X : (Nat → Int) × Nat} {d : Nat} {s : mSt} {Q : mQ} {x1 : Int} {x2 : Int} {x3 : Int} {x4 : Int} {l5 : Option mV} (h_1 : 0 ≤ x1 ∧ x1 < 5) (h_2 : (w32 (x3 + (s 46 x1.toNat))) ≤ (s 44 4) → Wp X d 65 71 [some (mR 44), some (mI x1), some (mI x2), some (mI x3), some (mI x4), l5] [] s Q) (h_3 : ¬ (w32 (x3 + (s 46 x1.toNat))) ≤ (s 44 4) → Wp X d 65 64 [some (mR 44), some (mI x1), some (mI x2), some (mI x3), some (mI x4), l5] [] s Q) : Wp X d 65 49 [some (mR 44), some (mI x1), some (mI x2), some (mI x3), some (mI x4), l5] [] s Q := Wp_step k65 f65_49 (Wp_step k65 f65_50 (Wp_step k65 f65_51 ⟨kf_44, 46, rf_44_1, Wp_step k65 f65_54 (Wp_step k65 f65_55 ⟨5, af_46, h_1, Wp_step k65 f65_56 (Wp_step k65 f65_57 (Wp_step k65 f65_58 ⟨kf_44, Wp_step k65 f65_61 ⟨h_2, h_3⟩⟩))⟩)⟩))
theorem b65_64 {X : (Nat → Int) × Nat} {d : Nat} {s : mSt} {Q : mQ} {x1 : Int} {x2 : Int} {x3 : Int} {x4 : Int} {l5 : Option mV} (h_1 : Wp X d 65 71 [some (mR 44), some (mI x1), some (mI x2), some (mI x3), some (mI (iAnd x4 (-1048576))), l5] [] s Q) : Wp X d 65 64 [some (mR 44), some (mI x1), some (mI x2), some (mI x3), some (mI x4), l5] [] s Q := Wp_step k65 f65_64 (Wp_step k65 f65_66 (Wp_step k65 f65_68 (Wp_step k65 f65_69 (h_1))))
theorem b65_71 {X : (Nat → Int) × Nat} {d : Nat} {s : mSt} {Q : mQ} {x1 : Int} {x2 : Int} {x3 : Int} {x4 : Int} {l5 : Option mV} (h_1 : ¬ x4 = 0 → Wp X d 65 80 [some (mR 44), some (mI x1), some (mI x2), some (mI x3), some (mI x4), l5] [] s Q) (h_2 : x4 = 0 → Wp X d 65 76 [some (mR 44), some (mI x1), some (mI x2), some (mI x3), some (mI x4), l5] [] s Q) : Wp X d 65 71 [some (mR 44), some (mI x1), some (mI x2), some (mI x3), some (mI x4), l5] [] s Q := Wp_step k65 f65_71 (Wp_step k65 f65_73 ⟨h_1, h_2⟩)
theorem b65_76 {X : (Nat → Int) × Nat} {d : Nat} {s : mSt} {Q : mQ} {x1 : Int} {x2 : Int} {x3 : Int} {x4 : Int} {l5 : Option mV} (h_1 : Wp X d 65 85 [some (mR 44), some (mI x1), some (mI x2), some (mI x3), some (mI x4), l5] [mI (-1)] s Q) : Wp X d 65 76 [some (mR 44), some (mI x1), some (mI x2), some (mI x3), some (mI x4), l5] [] s Q := Wp_step k65 f65_76 (Wp_step k65 f65_77 (h_1))
theorem b65_80 {X : (Nat → Int) × Nat} {d : Nat} {s : mSt} {Q : mQ} {x1 : Int} {x2 : Int} {x3 : Int} {x4 : Int} {l5 : Option mV} (h_1 : Sp X d 310 [mI x4] s (fun r s' => ∃ v : Int, r = some (mI v) ∧ Wp X (d + 1) 65 85 [some (mR 44), some (mI x1), some (mI x2), some (mI x3), some (mI x4), l5] [mI v] s' Q)) : Wp X (d + 1) 65 80 [some (mR 44), some (mI x1), some (mI x2), some (mI x3), some (mI x4), l5] [] s Q := Wp_step k65 f65_80 (Wp_step k65 f65_82 ⟨⟨Nat.le_of_ble_eq_true rfl, Nat.le_refl _⟩, _, rfl, Sp_E h_1⟩)
theorem b65_85 {X : (Nat → Int) × Nat} {d : Nat} {s : mSt} {Q : mQ} {x1 : Int} {x2 : Int} {x3 : Int} {x4 : Int} {l5 : Option mV} {xt0 : Int} (h_1 : Q (some (mI xt0)) s) : Wp X d 65 85 [some (mR 44), some (mI x1), some (mI x2), some (mI x3), some (mI x4), l5] [mI xt0] s Q := Wp_step k65 f65_85 ⟨⟨rfl, trivial⟩, h_1⟩
theorem e65 {X : (Nat → Int) × Nat} {d : Nat} {s : mSt} {Q : mQ} {x1 : Int} {x2 : Int} {x3 : Int} (h : Wp X d 65 0 [some (mR 44), some (mI x1), some (mI x2), some (mI x3), none, none] [] s Q) : Sp X d 65 [mR 44, mI x1, mI x2, mI x3] s Q := Sp_of (show mCe 65 = 0 by decide +kernel) (by rw [show mML 65 = 6 by decide +kernel]; rfl) (Nat.le_trans (Nat.le_of_ble_eq_true (show Nat.ble (mArgs _).length 6 = true from rfl)) (show 6 ≤ mML 65 by decide +kernel)) h
-- 66 ClashDay$Planner.weigh(III)V
theorem k66 : mRk 66 = 0 := by decide +kernel
theorem f66_0 : mFetch 66 0 = some (.iconst 0, 1, 0, 0, 0, 0) := by decide +kernel
theorem f66_1 : mFetch 66 1 = some (.istore 4, 2, 0, 0, 0, 0) := by decide +kernel
theorem f66_3 : mFetch 66 3 = some (.iconst 0, 1, 0, 0, 0, 0) := by decide +kernel
theorem f66_4 : mFetch 66 4 = some (.istore 5, 2, 0, 0, 0, 0) := by decide +kernel
theorem f66_6 : mFetch 66 6 = some (.iload 5, 2, 0, 0, 0, 0) := by decide +kernel
theorem f66_8 : mFetch 66 8 = some (.iconst 5, 1, 0, 0, 0, 0) := by decide +kernel
theorem f66_9 : mFetch 66 9 = some (.if_icmp .ge 24, 3, 33, 0, 0, 0) := by decide +kernel
theorem f66_12 : mFetch 66 12 = some (.aload_n 0, 1, 0, 0, 0, 0) := by decide +kernel
theorem f66_13 : mFetch 66 13 = some (.getfield 21, 3, 4, 3, 2, 1) := by decide +kernel
theorem f66_16 : mFetch 66 16 = some (.iload 5, 2, 0, 0, 0, 0) := by decide +kernel
theorem f66_18 : mFetch 66 18 = some (.iaload, 1, 0, 0, 0, 0) := by decide +kernel
theorem f66_19 : mFetch 66 19 = some (.bipush 20, 2, 0, 0, 0, 0) := by decide +kernel
theorem f66_21 : mFetch 66 21 = some (.if_icmp .lt 6, 3, 27, 0, 0, 0) := by decide +kernel
theorem f66_24 : mFetch 66 24 = some (.iinc 4 1, 3, 0, 0, 0, 0) := by decide +kernel
theorem f66_27 : mFetch 66 27 = some (.iinc 5 1, 3, 0, 0, 0, 0) := by decide +kernel
theorem f66_30 : mFetch 66 30 = some (.goto (-24), 3, 6, 0, 0, 0) := by decide +kernel
theorem f66_33 : mFetch 66 33 = some (.aload_n 0, 1, 0, 0, 0, 0) := by decide +kernel
theorem f66_34 : mFetch 66 34 = some (.dup, 1, 0, 0, 0, 0) := by decide +kernel
theorem f66_35 : mFetch 66 35 = some (.getfield 31, 3, 4, 6, 0, 1) := by decide +kernel
theorem f66_38 : mFetch 66 38 = some (.iconst 1, 1, 0, 0, 0, 0) := by decide +kernel
theorem f66_39 : mFetch 66 39 = some (.iadd, 1, 0, 0, 0, 0) := by decide +kernel
theorem f66_40 : mFetch 66 40 = some (.putfield 31, 3, 4, 6, 0, 1) := by decide +kernel
theorem f66_43 : mFetch 66 43 = some (.iload 4, 2, 0, 0, 0, 0) := by decide +kernel
theorem f66_45 : mFetch 66 45 = some (.bipush 100, 2, 0, 0, 0, 0) := by decide +kernel
theorem f66_47 : mFetch 66 47 = some (.imul, 1, 0, 0, 0, 0) := by decide +kernel
theorem f66_48 : mFetch 66 48 = some (.iload_n 3, 1, 0, 0, 0, 0) := by decide +kernel
theorem f66_49 : mFetch 66 49 = some (.invokestatic 56, 3, 309, 0, 1, 99) := by decide +kernel
theorem f66_52 : mFetch 66 52 = some (.iadd, 1, 0, 0, 0, 0) := by decide +kernel
theorem f66_53 : mFetch 66 53 = some (.bipush 100, 2, 0, 0, 0, 0) := by decide +kernel
theorem f66_55 : mFetch 66 55 = some (.imul, 1, 0, 0, 0, 0) := by decide +kernel
theorem f66_56 : mFetch 66 56 = some (.iload_n 1, 1, 0, 0, 0, 0) := by decide +kernel
theorem f66_57 : mFetch 66 57 = some (.iadd, 1, 0, 0, 0, 0) := by decide +kernel
theorem f66_58 : mFetch 66 58 = some (.istore 5, 2, 0, 0, 0, 0) := by decide +kernel
theorem f66_60 : mFetch 66 60 = some (.aload_n 0, 1, 0, 0, 0, 0) := by decide +kernel
theorem f66_61 : mFetch 66 61 = some (.getfield 31, 3, 4, 6, 0, 1) := by decide +kernel
theorem f66_64 : mFetch 66 64 = some (.iconst 1, 1, 0, 0, 0, 0) := by decide +kernel
theorem f66_65 : mFetch 66 65 = some (.if_icmp .eq 12, 3, 77, 0, 0, 0) := by decide +kernel
theorem f66_68 : mFetch 66 68 = some (.iload 5, 2, 0, 0, 0, 0) := by decide +kernel
theorem f66_70 : mFetch 66 70 = some (.aload_n 0, 1, 0, 0, 0, 0) := by decide +kernel
theorem f66_71 : mFetch 66 71 = some (.getfield 107, 3, 4, 12, 0, 1) := by decide +kernel
theorem f66_74 : mFetch 66 74 = some (.if_icmp .ge 44, 3, 118, 0, 0, 0) := by decide +kernel
theorem f66_77 : mFetch 66 77 = some (.aload_n 0, 1, 0, 0, 0, 0) := by decide +kernel
theorem f66_78 : mFetch 66 78 = some (.iload 5, 2, 0, 0, 0, 0) := by decide +kernel
theorem f66_80 : mFetch 66 80 = some (.putfield 107, 3, 4, 12, 0, 1) := by decide +kernel
theorem f66_83 : mFetch 66 83 = some (.aload_n 0, 1, 0, 0, 0, 0) := by decide +kernel
theorem f66_84 : mFetch 66 84 = some (.iload 4, 2, 0, 0, 0, 0) := by decide +kernel
theorem f66_86 : mFetch 66 86 = some (.putfield 110, 3, 4, 7, 0, 1) := by decide +kernel
theorem f66_89 : mFetch 66 89 = some (.aload_n 0, 1, 0, 0, 0, 0) := by decide +kernel
theorem f66_90 : mFetch 66 90 = some (.iload_n 3, 1, 0, 0, 0, 0) := by decide +kernel
theorem f66_91 : mFetch 66 91 = some (.putfield 113, 3, 4, 8, 0, 1) := by decide +kernel
theorem f66_94 : mFetch 66 94 = some (.aload_n 0, 1, 0, 0, 0, 0) := by decide +kernel
theorem f66_95 : mFetch 66 95 = some (.iload_n 2, 1, 0, 0, 0, 0) := by decide +kernel
theorem f66_96 : mFetch 66 96 = some (.putfield 116, 3, 4, 9, 0, 1) := by decide +kernel
theorem f66_99 : mFetch 66 99 = some (.aload_n 0, 1, 0, 0, 0, 0) := by decide +kernel
theorem f66_100 : mFetch 66 100 = some (.iload_n 1, 1, 0, 0, 0, 0) := by decide +kernel
theorem f66_101 : mFetch 66 101 = some (.putfield 119, 3, 4, 10, 0, 1) := by decide +kernel
theorem f66_104 : mFetch 66 104 = some (.aload_n 0, 1, 0, 0, 0, 0) := by decide +kernel
theorem f66_105 : mFetch 66 105 = some (.getfield 21, 3, 4, 3, 2, 1) := by decide +kernel
theorem f66_108 : mFetch 66 108 = some (.iconst 0, 1, 0, 0, 0, 0) := by decide +kernel
theorem f66_109 : mFetch 66 109 = some (.aload_n 0, 1, 0, 0, 0, 0) := by decide +kernel
theorem f66_110 : mFetch 66 110 = some (.getfield 24, 3, 4, 11, 2, 1) := by decide +kernel
theorem f66_113 : mFetch 66 113 = some (.iconst 0, 1, 0, 0, 0, 0) := by decide +kernel
theorem f66_114 : mFetch 66 114 = some (.iconst 5, 1, 0, 0, 0, 0) := by decide +kernel
theorem f66_115 : mFetch 66 115 = some (.invokestatic 122, 3, (-2), 0, 0, 0) := by decide +kernel
theorem f66_118 : mFetch 66 118 = some (.return_, 1, 0, 0, 0, 0) := by decide +kernel
theorem b66_0 {X : (Nat → Int) × Nat} {d : Nat} {s : mSt} {Q : mQ} {x1 : Int} {x2 : Int} {x3 : Int} {l4 : Option mV} {l5 : Option mV} (h_1 : Wp X d 66 6 [some (mR 44), some (mI x1), some (mI x2), some (mI x3), some (mI 0), some (mI 0)] [] s Q) : Wp X d 66 0 [some (mR 44), some (mI x1), some (mI x2), some (mI x3), l4, l5] [] s Q := Wp_step k66 f66_0 (Wp_step k66 f66_1 (Wp_step k66 f66_3 (Wp_step k66 f66_4 (h_1))))
theorem b66_6 {X : (Nat → Int) × Nat} {d : Nat} {s : mSt} {Q : mQ} {x1 : Int} {x2 : Int} {x3 : Int} {x4 : Int} {x5 : Int} (h_1 : 5 ≤ x5 → Wp X d 66 33 [some (mR 44), some (mI x1), some (mI x2), some (mI x3), some (mI x4), some (mI x5)] [] s Q) (h_2 : ¬ 5 ≤ x5 → Wp X d 66 12 [some (mR 44), some (mI x1), some (mI x2), some (mI x3), some (mI x4), some (mI x5)] [] s Q) : Wp X d 66 6 [some (mR 44), some (mI x1), some (mI x2), some (mI x3), some (mI x4), some (mI x5)] [] s Q := Wp_step k66 f66_6 (Wp_step k66 f66_8 (Wp_step k66 f66_9 ⟨h_1, h_2⟩))
theorem b66_12 {X : (Nat → Int) × Nat} {d : Nat} {s : mSt} {Q : mQ} {x1 : Int} {x2 : Int} {x3 : Int} {x4 : Int} {x5 : Int} (h_1 : 0 ≤ x5 ∧ x5 < 5) (h_2 : (s 48 x5.toNat) < 20 → Wp X d 66 27 [some (mR 44), some (mI x1), some (mI x2), some (mI x3), some (mI x4), some (mI x5)] [] s Q) (h_3 : ¬ (s 48 x5.toNat) < 20 → Wp X d 66 24 [some (mR 44), some (mI x1), some (mI x2), some (mI x3), some (mI x4), some (mI x5)] [] s Q) : Wp X d 66 12 [some (mR 44), some (mI x1), some (mI x2), some (mI x3), some (mI x4), some (mI x5)] [] s Q := Wp_step k66 f66_12 (Wp_step k66 f66_13 ⟨kf_44, 48, rf_44_3, Wp_step k66 f66_16 (Wp_step k66 f66_18 ⟨5, af_48, h_1, Wp_step k66 f66_19 (Wp_step k66 f66_21 ⟨h_2, h_3⟩)⟩)⟩)
theorem b66_24 {X : (Nat → Int) × Nat} {d : Nat} {s : mSt} {Q : mQ} {x1 : Int} {x2 : Int} {x3 : Int} {x4 : Int} {x5 : Int} (h_1 : Wp X d 66 27 [some (mR 44), some (mI x1), some (mI x2), some (mI x3), some (mI (w32 (x4 + 1))), some (mI x5)] [] s Q) : Wp X d 66 24 [some (mR 44), some (mI x1), some (mI x2), some (mI x3), some (mI x4), some (mI x5)] [] s Q := Wp_step k66 f66_24 (h_1)
theorem b66_27 {X : (Nat → Int) × Nat} {d : Nat} {s : mSt} {Q : mQ} {x1 : Int} {x2 : Int} {x3 : Int} {x4 : Int} {x5 : Int} (h_1 : Wp X d 66 6 [some (mR 44), some (mI x1), some (mI x2), some (mI x3), some (mI x4), some (mI (w32 (x5 + 1)))] [] s Q) : Wp X d 66 27 [some (mR 44), some (mI x1), some (mI x2), some (mI x3), some (mI x4), some (mI x5)] [] s Q := Wp_step k66 f66_27 (Wp_step k66 f66_30 (h_1))
theorem b66_33 {X : (Nat → Int) × Nat} {d : Nat} {s : mSt} {Q : mQ} {x1 : Int} {x2 : Int} {x3 : Int} {x4 : Int} {x5 : Int} (h_1 : Sp X d 309 [mI x3] (uS s 44 6 (w32 ((s 44 6) + 1))) (fun r s' => ∃ v : Int, r = some (mI v) ∧ Wp X (d + 1) 66 52 [some (mR 44), some (mI x1), some (mI x2), some (mI x3), some (mI x4), some (mI x5)] [mI v, mI (w32 (x4 * 100))] s' Q)) : Wp X (d + 1) 66 33 [some (mR 44), some (mI x1), some (mI x2), some (mI x3), some (mI x4), some (mI x5)] [] s Q := Wp_step k66 f66_33 (Wp_step k66 f66_34 (Wp_step k66 f66_35 ⟨kf_44, Wp_step k66 f66_38 (Wp_step k66 f66_39 (Wp_step k66 f66_40 ⟨kf_44, Wp_step k66 f66_43 (Wp_step k66 f66_45 (Wp_step k66 f66_47 (Wp_step k66 f66_48 (Wp_step k66 f66_49 ⟨⟨Nat.le_of_ble_eq_true rfl, Nat.le_refl _⟩, _, rfl, Sp_E h_1⟩))))⟩))⟩))
theorem b66_52 {X : (Nat → Int) × Nat} {d : Nat} {s : mSt} {Q : mQ} {x1 : Int} {x2 : Int} {x3 : Int} {x4 : Int} {x5 : Int} {xt0 : Int} {xt1 : Int} (h_1 : (s 44 6) = 1 → Wp X d 66 77 [some (mR 44), some (mI x1), some (mI x2), some (mI x3), some (mI x4), some (mI (w32 ((w32 ((w32 (xt0 + xt1)) * 100)) + x1)))] [] s Q) (h_2 : ¬ (s 44 6) = 1 → Wp X d 66 68 [some (mR 44), some (mI x1), some (mI x2), some (mI x3), some (mI x4), some (mI (w32 ((w32 ((w32 (xt0 + xt1)) * 100)) + x1)))] [] s Q) : Wp X d 66 52 [some (mR 44), some (mI x1), some (mI x2), some (mI x3), some (mI x4), some (mI x5)] [mI xt1, mI xt0] s Q := Wp_step k66 f66_52 (Wp_step k66 f66_53 (Wp_step k66 f66_55 (Wp_step k66 f66_56 (Wp_step k66 f66_57 (Wp_step k66 f66_58 (Wp_step k66 f66_60 (Wp_step k66 f66_61 ⟨kf_44, Wp_step k66 f66_64 (Wp_step k66 f66_65 ⟨h_1, h_2⟩)⟩)))))))
theorem b66_68 {X : (Nat → Int) × Nat} {d : Nat} {s : mSt} {Q : mQ} {x1 : Int} {x2 : Int} {x3 : Int} {x4 : Int} {x5 : Int} (h_1 : (s 44 12) ≤ x5 → Wp X d 66 118 [some (mR 44), some (mI x1), some (mI x2), some (mI x3), some (mI x4), some (mI x5)] [] s Q) (h_2 : ¬ (s 44 12) ≤ x5 → Wp X d 66 77 [some (mR 44), some (mI x1), some (mI x2), some (mI x3), some (mI x4), some (mI x5)] [] s Q) : Wp X d 66 68 [some (mR 44), some (mI x1), some (mI x2), some (mI x3), some (mI x4), some (mI x5)] [] s Q := Wp_step k66 f66_68 (Wp_step k66 f66_70 (Wp_step k66 f66_71 ⟨kf_44, Wp_step k66 f66_74 ⟨h_1, h_2⟩⟩))
theorem b66_77 {X : (Nat → Int) × Nat} {d : Nat} {s : mSt} {Q : mQ} {x1 : Int} {x2 : Int} {x3 : Int} {x4 : Int} {x5 : Int} (h_1 : Wp X (d + 1) 66 118 [some (mR 44), some (mI x1), some (mI x2), some (mI x3), some (mI x4), some (mI x5)] [] (cS (uS (uS (uS (uS (uS s 44 12 x5) 44 7 x4) 44 8 x3) 44 9 x2) 44 10 x1) 48 0 49 0 5) Q) : Wp X (d + 1) 66 77 [some (mR 44), some (mI x1), some (mI x2), some (mI x3), some (mI x4), some (mI x5)] [] s Q := Wp_step k66 f66_77 (Wp_step k66 f66_78 (Wp_step k66 f66_80 ⟨kf_44, Wp_step k66 f66_83 (Wp_step k66 f66_84 (Wp_step k66 f66_86 ⟨kf_44, Wp_step k66 f66_89 (Wp_step k66 f66_90 (Wp_step k66 f66_91 ⟨kf_44, Wp_step k66 f66_94 (Wp_step k66 f66_95 (Wp_step k66 f66_96 ⟨kf_44, Wp_step k66 f66_99 (Wp_step k66 f66_100 (Wp_step k66 f66_101 ⟨kf_44, Wp_step k66 f66_104 (Wp_step k66 f66_105 ⟨kf_44, 48, rf_44_3, Wp_step k66 f66_108 (Wp_step k66 f66_109 (Wp_step k66 f66_110 ⟨kf_44, 49, rf_44_11, Wp_step k66 f66_113 (Wp_step k66 f66_114 (Wp_step k66 f66_115 ⟨⟨Nat.succ_pos _, Nat.le_of_ble_eq_true rfl⟩, ⟨5, af_48, ⟨by decide, by decide, by decide⟩⟩, ⟨5, af_49, ⟨by decide, by decide⟩⟩, h_1⟩))⟩))⟩)⟩))⟩))⟩))⟩))⟩))
theorem b66_118 {X : (Nat → Int) × Nat} {d : Nat} {s : mSt} {Q : mQ} {x1 : Int} {x2 : Int} {x3 : Int} {x4 : Int} {x5 : Int} (h_1 : Q none s) : Wp X d 66 118 [some (mR 44), some (mI x1), some (mI x2), some (mI x3), some (mI x4), some (mI x5)] [] s Q := Wp_step k66 f66_118 ⟨⟨rfl, Or.inl rfl⟩, h_1⟩
theorem e66 {X : (Nat → Int) × Nat} {d : Nat} {s : mSt} {Q : mQ} {x1 : Int} {x2 : Int} {x3 : Int} (h : Wp X d 66 0 [some (mR 44), some (mI x1), some (mI x2), some (mI x3), none, none] [] s Q) : Sp X d 66 [mR 44, mI x1, mI x2, mI x3] s Q := Sp_of (show mCe 66 = 0 by decide +kernel) (by rw [show mML 66 = 6 by decide +kernel]; rfl) (Nat.le_trans (Nat.le_of_ble_eq_true (show Nat.ble (mArgs _).length 6 = true from rfl)) (show 6 ≤ mML 66 by decide +kernel)) h
-- 68 ClashDay$Rule.comparison(I)I
theorem k68 : mRk 68 = 1 := by decide +kernel
theorem f68_0 : mFetch 68 0 = some (.iload_n 0, 1, 0, 0, 0, 0) := by decide +kernel
theorem f68_1 : mFetch 68 1 = some (.lookupswitch 66 #[(60, 51), (61, 57), (62, 63), (258, 54), (259, 60)], 51, 0, 0, 0, 0) := by decide +kernel
theorem f68_52 : mFetch 68 52 = some (.ldc 23, 2, 200005, 0, 0, 0) := by decide +kernel
theorem f68_54 : mFetch 68 54 = some (.ireturn, 1, 0, 0, 0, 0) := by decide +kernel
theorem f68_55 : mFetch 68 55 = some (.ldc 24, 2, 200006, 0, 0, 0) := by decide +kernel
theorem f68_57 : mFetch 68 57 = some (.ireturn, 1, 0, 0, 0, 0) := by decide +kernel
theorem f68_58 : mFetch 68 58 = some (.ldc 25, 2, 200007, 0, 0, 0) := by decide +kernel
theorem f68_60 : mFetch 68 60 = some (.ireturn, 1, 0, 0, 0, 0) := by decide +kernel
theorem f68_61 : mFetch 68 61 = some (.ldc 26, 2, 200008, 0, 0, 0) := by decide +kernel
theorem f68_63 : mFetch 68 63 = some (.ireturn, 1, 0, 0, 0, 0) := by decide +kernel
theorem f68_64 : mFetch 68 64 = some (.ldc 27, 2, 200009, 0, 0, 0) := by decide +kernel
theorem f68_66 : mFetch 68 66 = some (.ireturn, 1, 0, 0, 0, 0) := by decide +kernel
theorem f68_67 : mFetch 68 67 = some (.iconst (-1), 1, 0, 0, 0, 0) := by decide +kernel
theorem f68_68 : mFetch 68 68 = some (.ireturn, 1, 0, 0, 0, 0) := by decide +kernel
theorem b68_0 {X : (Nat → Int) × Nat} {d : Nat} {s : mSt} {Q : mQ} {x0 : Int} (h_1 : x0 = 60 → Wp X d 68 52 [some (mI x0)] [] s Q) (h_2 : x0 = 61 → Wp X d 68 58 [some (mI x0)] [] s Q) (h_3 : x0 = 62 → Wp X d 68 64 [some (mI x0)] [] s Q) (h_4 : x0 = 258 → Wp X d 68 55 [some (mI x0)] [] s Q) (h_5 : x0 = 259 → Wp X d 68 61 [some (mI x0)] [] s Q) (h_6 : ¬ x0 = 60 → ¬ x0 = 61 → ¬ x0 = 62 → ¬ x0 = 258 → ¬ x0 = 259 → Wp X d 68 67 [some (mI x0)] [] s Q) : Wp X d 68 0 [some (mI x0)] [] s Q := Wp_step k68 f68_0 (Wp_step k68 f68_1 (by
    show Wp X d 68 (tL 1 66 #[(60, 51), (61, 57), (62, 63), (258, 54), (259, 60)] x0) [some (mI x0)] [] s Q
    by_cases q0 : x0 = 60
    · have e : tL 1 66 #[(60, 51), (61, 57), (62, 63), (258, 54), (259, 60)] x0 = 52 := by rw [q0]; decide +kernel
      rw [e]; exact h_1 q0
    by_cases q1 : x0 = 61
    · have e : tL 1 66 #[(60, 51), (61, 57), (62, 63), (258, 54), (259, 60)] x0 = 58 := by rw [q1]; decide +kernel
      rw [e]; exact h_2 q1
    by_cases q2 : x0 = 62
    · have e : tL 1 66 #[(60, 51), (61, 57), (62, 63), (258, 54), (259, 60)] x0 = 64 := by rw [q2]; decide +kernel
      rw [e]; exact h_3 q2
    by_cases q3 : x0 = 258
    · have e : tL 1 66 #[(60, 51), (61, 57), (62, 63), (258, 54), (259, 60)] x0 = 55 := by rw [q3]; decide +kernel
      rw [e]; exact h_4 q3
    by_cases q4 : x0 = 259
    · have e : tL 1 66 #[(60, 51), (61, 57), (62, 63), (258, 54), (259, 60)] x0 = 61 := by rw [q4]; decide +kernel
      rw [e]; exact h_5 q4
    have e : tL 1 66 #[(60, 51), (61, 57), (62, 63), (258, 54), (259, 60)] x0 = 67 := by simp [tL, Op.lookupswitch.offset, q0, Ne.symm q0, q1, Ne.symm q1, q2, Ne.symm q2, q3, Ne.symm q3, q4, Ne.symm q4]
    rw [e]; exact h_6 q0 q1 q2 q3 q4))
theorem b68_52 {X : (Nat → Int) × Nat} {d : Nat} {s : mSt} {Q : mQ} {x0 : Int} (h_1 : Q (some (mI 200005)) s) : Wp X d 68 52 [some (mI x0)] [] s Q := Wp_step k68 f68_52 (Wp_step k68 f68_54 ⟨⟨rfl, trivial⟩, h_1⟩)
theorem b68_55 {X : (Nat → Int) × Nat} {d : Nat} {s : mSt} {Q : mQ} {x0 : Int} (h_1 : Q (some (mI 200006)) s) : Wp X d 68 55 [some (mI x0)] [] s Q := Wp_step k68 f68_55 (Wp_step k68 f68_57 ⟨⟨rfl, trivial⟩, h_1⟩)
theorem b68_58 {X : (Nat → Int) × Nat} {d : Nat} {s : mSt} {Q : mQ} {x0 : Int} (h_1 : Q (some (mI 200007)) s) : Wp X d 68 58 [some (mI x0)] [] s Q := Wp_step k68 f68_58 (Wp_step k68 f68_60 ⟨⟨rfl, trivial⟩, h_1⟩)
theorem b68_61 {X : (Nat → Int) × Nat} {d : Nat} {s : mSt} {Q : mQ} {x0 : Int} (h_1 : Q (some (mI 200008)) s) : Wp X d 68 61 [some (mI x0)] [] s Q := Wp_step k68 f68_61 (Wp_step k68 f68_63 ⟨⟨rfl, trivial⟩, h_1⟩)
theorem b68_64 {X : (Nat → Int) × Nat} {d : Nat} {s : mSt} {Q : mQ} {x0 : Int} (h_1 : Q (some (mI 200009)) s) : Wp X d 68 64 [some (mI x0)] [] s Q := Wp_step k68 f68_64 (Wp_step k68 f68_66 ⟨⟨rfl, trivial⟩, h_1⟩)
theorem b68_67 {X : (Nat → Int) × Nat} {d : Nat} {s : mSt} {Q : mQ} {x0 : Int} (h_1 : Q (some (mI (-1))) s) : Wp X d 68 67 [some (mI x0)] [] s Q := Wp_step k68 f68_67 (Wp_step k68 f68_68 ⟨⟨rfl, trivial⟩, h_1⟩)
theorem e68 {X : (Nat → Int) × Nat} {d : Nat} {s : mSt} {Q : mQ} {x0 : Int} (h : Wp X d 68 0 [some (mI x0)] [] s Q) : Sp X d 68 [mI x0] s Q := Sp_of (show mCe 68 = 0 by decide +kernel) (by rw [show mML 68 = 1 by decide +kernel]; rfl) (Nat.le_trans (Nat.le_of_ble_eq_true (show Nat.ble (mArgs _).length 1 = true from rfl)) (show 1 ≤ mML 68 by decide +kernel)) h
-- 69 ClashDay$Rule.timesLike(I)I
theorem k69 : mRk 69 = 1 := by decide +kernel
theorem f69_0 : mFetch 69 0 = some (.iload_n 0, 1, 0, 0, 0, 0) := by decide +kernel
theorem f69_1 : mFetch 69 1 = some (.bipush 42, 2, 0, 0, 0, 0) := by decide +kernel
theorem f69_3 : mFetch 69 3 = some (.if_icmp .ne 8, 3, 11, 0, 0, 0) := by decide +kernel
theorem f69_6 : mFetch 69 6 = some (.ldc 28, 2, 200002, 0, 0, 0) := by decide +kernel
theorem f69_8 : mFetch 69 8 = some (.goto 26, 3, 34, 0, 0, 0) := by decide +kernel
theorem f69_11 : mFetch 69 11 = some (.iload_n 0, 1, 0, 0, 0, 0) := by decide +kernel
theorem f69_12 : mFetch 69 12 = some (.bipush 47, 2, 0, 0, 0, 0) := by decide +kernel
theorem f69_14 : mFetch 69 14 = some (.if_icmp .ne 8, 3, 22, 0, 0, 0) := by decide +kernel
theorem f69_17 : mFetch 69 17 = some (.ldc 29, 2, 200003, 0, 0, 0) := by decide +kernel
theorem f69_19 : mFetch 69 19 = some (.goto 15, 3, 34, 0, 0, 0) := by decide +kernel
theorem f69_22 : mFetch 69 22 = some (.iload_n 0, 1, 0, 0, 0, 0) := by decide +kernel
theorem f69_23 : mFetch 69 23 = some (.bipush 37, 2, 0, 0, 0, 0) := by decide +kernel
theorem f69_25 : mFetch 69 25 = some (.if_icmp .ne 8, 3, 33, 0, 0, 0) := by decide +kernel
theorem f69_28 : mFetch 69 28 = some (.ldc 30, 2, 200004, 0, 0, 0) := by decide +kernel
theorem f69_30 : mFetch 69 30 = some (.goto 4, 3, 34, 0, 0, 0) := by decide +kernel
theorem f69_33 : mFetch 69 33 = some (.iconst (-1), 1, 0, 0, 0, 0) := by decide +kernel
theorem f69_34 : mFetch 69 34 = some (.ireturn, 1, 0, 0, 0, 0) := by decide +kernel
theorem b69_0 {X : (Nat → Int) × Nat} {d : Nat} {s : mSt} {Q : mQ} {x0 : Int} (h_1 : ¬ x0 = 42 → Wp X d 69 11 [some (mI x0)] [] s Q) (h_2 : x0 = 42 → Wp X d 69 6 [some (mI x0)] [] s Q) : Wp X d 69 0 [some (mI x0)] [] s Q := Wp_step k69 f69_0 (Wp_step k69 f69_1 (Wp_step k69 f69_3 ⟨h_1, h_2⟩))
theorem b69_6 {X : (Nat → Int) × Nat} {d : Nat} {s : mSt} {Q : mQ} {x0 : Int} (h_1 : Wp X d 69 34 [some (mI x0)] [mI 200002] s Q) : Wp X d 69 6 [some (mI x0)] [] s Q := Wp_step k69 f69_6 (Wp_step k69 f69_8 (h_1))
theorem b69_11 {X : (Nat → Int) × Nat} {d : Nat} {s : mSt} {Q : mQ} {x0 : Int} (h_1 : ¬ x0 = 47 → Wp X d 69 22 [some (mI x0)] [] s Q) (h_2 : x0 = 47 → Wp X d 69 17 [some (mI x0)] [] s Q) : Wp X d 69 11 [some (mI x0)] [] s Q := Wp_step k69 f69_11 (Wp_step k69 f69_12 (Wp_step k69 f69_14 ⟨h_1, h_2⟩))
theorem b69_17 {X : (Nat → Int) × Nat} {d : Nat} {s : mSt} {Q : mQ} {x0 : Int} (h_1 : Wp X d 69 34 [some (mI x0)] [mI 200003] s Q) : Wp X d 69 17 [some (mI x0)] [] s Q := Wp_step k69 f69_17 (Wp_step k69 f69_19 (h_1))
theorem b69_22 {X : (Nat → Int) × Nat} {d : Nat} {s : mSt} {Q : mQ} {x0 : Int} (h_1 : ¬ x0 = 37 → Wp X d 69 33 [some (mI x0)] [] s Q) (h_2 : x0 = 37 → Wp X d 69 28 [some (mI x0)] [] s Q) : Wp X d 69 22 [some (mI x0)] [] s Q := Wp_step k69 f69_22 (Wp_step k69 f69_23 (Wp_step k69 f69_25 ⟨h_1, h_2⟩))
theorem b69_28 {X : (Nat → Int) × Nat} {d : Nat} {s : mSt} {Q : mQ} {x0 : Int} (h_1 : Wp X d 69 34 [some (mI x0)] [mI 200004] s Q) : Wp X d 69 28 [some (mI x0)] [] s Q := Wp_step k69 f69_28 (Wp_step k69 f69_30 (h_1))
theorem b69_33 {X : (Nat → Int) × Nat} {d : Nat} {s : mSt} {Q : mQ} {x0 : Int} (h_1 : Wp X d 69 34 [some (mI x0)] [mI (-1)] s Q) : Wp X d 69 33 [some (mI x0)] [] s Q := Wp_step k69 f69_33 (h_1)
theorem b69_34 {X : (Nat → Int) × Nat} {d : Nat} {s : mSt} {Q : mQ} {x0 : Int} {xt0 : Int} (h_1 : Q (some (mI xt0)) s) : Wp X d 69 34 [some (mI x0)] [mI xt0] s Q := Wp_step k69 f69_34 ⟨⟨rfl, trivial⟩, h_1⟩
theorem e69 {X : (Nat → Int) × Nat} {d : Nat} {s : mSt} {Q : mQ} {x0 : Int} (h : Wp X d 69 0 [some (mI x0)] [] s Q) : Sp X d 69 [mI x0] s Q := Sp_of (show mCe 69 = 0 by decide +kernel) (by rw [show mML 69 = 1 by decide +kernel]; rfl) (Nat.le_trans (Nat.le_of_ble_eq_true (show Nat.ble (mArgs _).length 1 = true from rfl)) (show 1 ≤ mML 69 by decide +kernel)) h
-- 70 ClashDay$Rule.plusLike(I)I
theorem k70 : mRk 70 = 1 := by decide +kernel
theorem f70_0 : mFetch 70 0 = some (.iload_n 0, 1, 0, 0, 0, 0) := by decide +kernel
theorem f70_1 : mFetch 70 1 = some (.bipush 43, 2, 0, 0, 0, 0) := by decide +kernel
theorem f70_3 : mFetch 70 3 = some (.if_icmp .ne 8, 3, 11, 0, 0, 0) := by decide +kernel
theorem f70_6 : mFetch 70 6 = some (.ldc 31, 2, 200000, 0, 0, 0) := by decide +kernel
theorem f70_8 : mFetch 70 8 = some (.goto 15, 3, 23, 0, 0, 0) := by decide +kernel
theorem f70_11 : mFetch 70 11 = some (.iload_n 0, 1, 0, 0, 0, 0) := by decide +kernel
theorem f70_12 : mFetch 70 12 = some (.bipush 45, 2, 0, 0, 0, 0) := by decide +kernel
theorem f70_14 : mFetch 70 14 = some (.if_icmp .ne 8, 3, 22, 0, 0, 0) := by decide +kernel
theorem f70_17 : mFetch 70 17 = some (.ldc 32, 2, 200001, 0, 0, 0) := by decide +kernel
theorem f70_19 : mFetch 70 19 = some (.goto 4, 3, 23, 0, 0, 0) := by decide +kernel
theorem f70_22 : mFetch 70 22 = some (.iconst (-1), 1, 0, 0, 0, 0) := by decide +kernel
theorem f70_23 : mFetch 70 23 = some (.ireturn, 1, 0, 0, 0, 0) := by decide +kernel
theorem b70_0 {X : (Nat → Int) × Nat} {d : Nat} {s : mSt} {Q : mQ} {x0 : Int} (h_1 : ¬ x0 = 43 → Wp X d 70 11 [some (mI x0)] [] s Q) (h_2 : x0 = 43 → Wp X d 70 6 [some (mI x0)] [] s Q) : Wp X d 70 0 [some (mI x0)] [] s Q := Wp_step k70 f70_0 (Wp_step k70 f70_1 (Wp_step k70 f70_3 ⟨h_1, h_2⟩))
theorem b70_6 {X : (Nat → Int) × Nat} {d : Nat} {s : mSt} {Q : mQ} {x0 : Int} (h_1 : Wp X d 70 23 [some (mI x0)] [mI 200000] s Q) : Wp X d 70 6 [some (mI x0)] [] s Q := Wp_step k70 f70_6 (Wp_step k70 f70_8 (h_1))
theorem b70_11 {X : (Nat → Int) × Nat} {d : Nat} {s : mSt} {Q : mQ} {x0 : Int} (h_1 : ¬ x0 = 45 → Wp X d 70 22 [some (mI x0)] [] s Q) (h_2 : x0 = 45 → Wp X d 70 17 [some (mI x0)] [] s Q) : Wp X d 70 11 [some (mI x0)] [] s Q := Wp_step k70 f70_11 (Wp_step k70 f70_12 (Wp_step k70 f70_14 ⟨h_1, h_2⟩))
theorem b70_17 {X : (Nat → Int) × Nat} {d : Nat} {s : mSt} {Q : mQ} {x0 : Int} (h_1 : Wp X d 70 23 [some (mI x0)] [mI 200001] s Q) : Wp X d 70 17 [some (mI x0)] [] s Q := Wp_step k70 f70_17 (Wp_step k70 f70_19 (h_1))
theorem b70_22 {X : (Nat → Int) × Nat} {d : Nat} {s : mSt} {Q : mQ} {x0 : Int} (h_1 : Wp X d 70 23 [some (mI x0)] [mI (-1)] s Q) : Wp X d 70 22 [some (mI x0)] [] s Q := Wp_step k70 f70_22 (h_1)
theorem b70_23 {X : (Nat → Int) × Nat} {d : Nat} {s : mSt} {Q : mQ} {x0 : Int} {xt0 : Int} (h_1 : Q (some (mI xt0)) s) : Wp X d 70 23 [some (mI x0)] [mI xt0] s Q := Wp_step k70 f70_23 ⟨⟨rfl, trivial⟩, h_1⟩
theorem e70 {X : (Nat → Int) × Nat} {d : Nat} {s : mSt} {Q : mQ} {x0 : Int} (h : Wp X d 70 0 [some (mI x0)] [] s Q) : Sp X d 70 [mI x0] s Q := Sp_of (show mCe 70 = 0 by decide +kernel) (by rw [show mML 70 = 1 by decide +kernel]; rfl) (Nat.le_trans (Nat.le_of_ble_eq_true (show Nat.ble (mArgs _).length 1 = true from rfl)) (show 1 ≤ mML 70 by decide +kernel)) h
-- 71 ClashDay$Rule.clear()V
theorem k71 : mRk 71 = 0 := by decide +kernel
theorem f71_0 : mFetch 71 0 = some (.aload_n 0, 1, 0, 0, 0, 0) := by decide +kernel
theorem f71_1 : mFetch 71 1 = some (.iconst 0, 1, 0, 0, 0, 0) := by decide +kernel
theorem f71_2 : mFetch 71 2 = some (.putfield 33, 3, 5, 1, 0, 1) := by decide +kernel
theorem f71_5 : mFetch 71 5 = some (.aload_n 0, 1, 0, 0, 0, 0) := by decide +kernel
theorem f71_6 : mFetch 71 6 = some (.iconst 0, 1, 0, 0, 0, 0) := by decide +kernel
theorem f71_7 : mFetch 71 7 = some (.putfield 37, 3, 5, 4, 0, 1) := by decide +kernel
theorem f71_10 : mFetch 71 10 = some (.return_, 1, 0, 0, 0, 0) := by decide +kernel
theorem b71_0 {X : (Nat → Int) × Nat} {d : Nat} {s : mSt} {Q : mQ} {a0 : Nat} (h0 : isRl a0) (h_1 : Q none (uS (uS s a0 1 0) a0 4 0)) : Wp X d 71 0 [some (mR a0)] [] s Q := Wp_step k71 f71_0 (Wp_step k71 f71_1 (Wp_step k71 f71_2 ⟨(rl_k h0), Wp_step k71 f71_5 (Wp_step k71 f71_6 (Wp_step k71 f71_7 ⟨(rl_k h0), Wp_step k71 f71_10 ⟨⟨rfl, Or.inl rfl⟩, h_1⟩⟩))⟩))
theorem e71 {X : (Nat → Int) × Nat} {d : Nat} {s : mSt} {Q : mQ} {a0 : Nat} (h : Wp X d 71 0 [some (mR a0)] [] s Q) : Sp X d 71 [mR a0] s Q := Sp_of (show mCe 71 = 0 by decide +kernel) (by rw [show mML 71 = 1 by decide +kernel]; rfl) (Nat.le_trans (Nat.le_of_ble_eq_true (show Nat.ble (mArgs _).length 1 = true from rfl)) (show 1 ≤ mML 71 by decide +kernel)) h
-- 72 ClashDay$Rule.emit(I)V
theorem k72 : mRk 72 = 0 := by decide +kernel
theorem f72_0 : mFetch 72 0 = some (.aload_n 0, 1, 0, 0, 0, 0) := by decide +kernel
theorem f72_1 : mFetch 72 1 = some (.getfield 33, 3, 5, 1, 0, 1) := by decide +kernel
theorem f72_4 : mFetch 72 4 = some (.aload_n 0, 1, 0, 0, 0, 0) := by decide +kernel
theorem f72_5 : mFetch 72 5 = some (.getfield 11, 3, 5, 0, 2, 1) := by decide +kernel
theorem f72_8 : mFetch 72 8 = some (.arraylength, 1, 0, 0, 0, 0) := by decide +kernel
theorem f72_9 : mFetch 72 9 = some (.if_icmp .ge 23, 3, 32, 0, 0, 0) := by decide +kernel
theorem f72_12 : mFetch 72 12 = some (.aload_n 0, 1, 0, 0, 0, 0) := by decide +kernel
theorem f72_13 : mFetch 72 13 = some (.getfield 11, 3, 5, 0, 2, 1) := by decide +kernel
theorem f72_16 : mFetch 72 16 = some (.aload_n 0, 1, 0, 0, 0, 0) := by decide +kernel
theorem f72_17 : mFetch 72 17 = some (.getfield 33, 3, 5, 1, 0, 1) := by decide +kernel
theorem f72_20 : mFetch 72 20 = some (.iload_n 1, 1, 0, 0, 0, 0) := by decide +kernel
theorem f72_21 : mFetch 72 21 = some (.iastore, 1, 0, 0, 0, 0) := by decide +kernel
theorem f72_22 : mFetch 72 22 = some (.aload_n 0, 1, 0, 0, 0, 0) := by decide +kernel
theorem f72_23 : mFetch 72 23 = some (.dup, 1, 0, 0, 0, 0) := by decide +kernel
theorem f72_24 : mFetch 72 24 = some (.getfield 33, 3, 5, 1, 0, 1) := by decide +kernel
theorem f72_27 : mFetch 72 27 = some (.iconst 1, 1, 0, 0, 0, 0) := by decide +kernel
theorem f72_28 : mFetch 72 28 = some (.iadd, 1, 0, 0, 0, 0) := by decide +kernel
theorem f72_29 : mFetch 72 29 = some (.putfield 33, 3, 5, 1, 0, 1) := by decide +kernel
theorem f72_32 : mFetch 72 32 = some (.return_, 1, 0, 0, 0, 0) := by decide +kernel
theorem b72_0 {X : (Nat → Int) × Nat} {d : Nat} {s : mSt} {Q : mQ} {a0 : Nat} {x1 : Int} (h0 : isRl a0) (h_1 : 400 ≤ (s a0 1) → Wp X d 72 32 [some (mR a0), some (mI x1)] [] s Q) (h_2 : ¬ 400 ≤ (s a0 1) → Wp X d 72 12 [some (mR a0), some (mI x1)] [] s Q) : Wp X d 72 0 [some (mR a0), some (mI x1)] [] s Q := Wp_step k72 f72_0 (Wp_step k72 f72_1 ⟨(rl_k h0), Wp_step k72 f72_4 (Wp_step k72 f72_5 ⟨(rl_k h0), (a0 + 1), (rl_r0 h0), Wp_step k72 f72_8 ⟨22, 400, (rl_a0 h0), ⟨by decide, by decide, by decide⟩, Wp_step k72 f72_9 ⟨h_1, h_2⟩⟩⟩)⟩)
theorem b72_12 {X : (Nat → Int) × Nat} {d : Nat} {s : mSt} {Q : mQ} {a0 : Nat} {x1 : Int} (h0 : isRl a0) (h_1 : 0 ≤ (s a0 1) ∧ (s a0 1) < 400) (h_2 : Wp X d 72 32 [some (mR a0), some (mI x1)] [] (uS (uS s (a0 + 1) ((s a0 1).toNat) x1) a0 1 (w32 (((uS s (a0 + 1) ((s a0 1).toNat) x1) a0 1) + 1))) Q) : Wp X d 72 12 [some (mR a0), some (mI x1)] [] s Q := Wp_step k72 f72_12 (Wp_step k72 f72_13 ⟨(rl_k h0), (a0 + 1), (rl_r0 h0), Wp_step k72 f72_16 (Wp_step k72 f72_17 ⟨(rl_k h0), Wp_step k72 f72_20 (Wp_step k72 f72_21 ⟨400, (rl_a0 h0), h_1, Wp_step k72 f72_22 (Wp_step k72 f72_23 (Wp_step k72 f72_24 ⟨(rl_k h0), Wp_step k72 f72_27 (Wp_step k72 f72_28 (Wp_step k72 f72_29 ⟨(rl_k h0), h_2⟩))⟩))⟩)⟩)⟩)
theorem b72_32 {X : (Nat → Int) × Nat} {d : Nat} {s : mSt} {Q : mQ} {a0 : Nat} {x1 : Int} (h0 : isRl a0) (h_1 : Q none s) : Wp X d 72 32 [some (mR a0), some (mI x1)] [] s Q := Wp_step k72 f72_32 ⟨⟨rfl, Or.inl rfl⟩, h_1⟩
theorem e72 {X : (Nat → Int) × Nat} {d : Nat} {s : mSt} {Q : mQ} {a0 : Nat} {x1 : Int} (h : Wp X d 72 0 [some (mR a0), some (mI x1)] [] s Q) : Sp X d 72 [mR a0, mI x1] s Q := Sp_of (show mCe 72 = 0 by decide +kernel) (by rw [show mML 72 = 2 by decide +kernel]; rfl) (Nat.le_trans (Nat.le_of_ble_eq_true (show Nat.ble (mArgs _).length 2 = true from rfl)) (show 2 ≤ mML 72 by decide +kernel)) h
-- 73 ClashDay$Rule.closeClause(I)V
theorem k73 : mRk 73 = 0 := by decide +kernel
theorem f73_0 : mFetch 73 0 = some (.aload_n 0, 1, 0, 0, 0, 0) := by decide +kernel
theorem f73_1 : mFetch 73 1 = some (.getfield 37, 3, 5, 4, 0, 1) := by decide +kernel
theorem f73_4 : mFetch 73 4 = some (.bipush 12, 2, 0, 0, 0, 0) := by decide +kernel
theorem f73_6 : mFetch 73 6 = some (.if_icmp .ge 36, 3, 42, 0, 0, 0) := by decide +kernel
theorem f73_9 : mFetch 73 9 = some (.aload_n 0, 1, 0, 0, 0, 0) := by decide +kernel
theorem f73_10 : mFetch 73 10 = some (.getfield 17, 3, 5, 2, 2, 1) := by decide +kernel
theorem f73_13 : mFetch 73 13 = some (.aload_n 0, 1, 0, 0, 0, 0) := by decide +kernel
theorem f73_14 : mFetch 73 14 = some (.getfield 37, 3, 5, 4, 0, 1) := by decide +kernel
theorem f73_17 : mFetch 73 17 = some (.iload_n 1, 1, 0, 0, 0, 0) := by decide +kernel
theorem f73_18 : mFetch 73 18 = some (.iastore, 1, 0, 0, 0, 0) := by decide +kernel
theorem f73_19 : mFetch 73 19 = some (.aload_n 0, 1, 0, 0, 0, 0) := by decide +kernel
theorem f73_20 : mFetch 73 20 = some (.getfield 20, 3, 5, 3, 2, 1) := by decide +kernel
theorem f73_23 : mFetch 73 23 = some (.aload_n 0, 1, 0, 0, 0, 0) := by decide +kernel
theorem f73_24 : mFetch 73 24 = some (.getfield 37, 3, 5, 4, 0, 1) := by decide +kernel
theorem f73_27 : mFetch 73 27 = some (.aload_n 0, 1, 0, 0, 0, 0) := by decide +kernel
theorem f73_28 : mFetch 73 28 = some (.getfield 33, 3, 5, 1, 0, 1) := by decide +kernel
theorem f73_31 : mFetch 73 31 = some (.iastore, 1, 0, 0, 0, 0) := by decide +kernel
theorem f73_32 : mFetch 73 32 = some (.aload_n 0, 1, 0, 0, 0, 0) := by decide +kernel
theorem f73_33 : mFetch 73 33 = some (.dup, 1, 0, 0, 0, 0) := by decide +kernel
theorem f73_34 : mFetch 73 34 = some (.getfield 37, 3, 5, 4, 0, 1) := by decide +kernel
theorem f73_37 : mFetch 73 37 = some (.iconst 1, 1, 0, 0, 0, 0) := by decide +kernel
theorem f73_38 : mFetch 73 38 = some (.iadd, 1, 0, 0, 0, 0) := by decide +kernel
theorem f73_39 : mFetch 73 39 = some (.putfield 37, 3, 5, 4, 0, 1) := by decide +kernel
theorem f73_42 : mFetch 73 42 = some (.return_, 1, 0, 0, 0, 0) := by decide +kernel
theorem b73_0 {X : (Nat → Int) × Nat} {d : Nat} {s : mSt} {Q : mQ} {a0 : Nat} {x1 : Int} (h0 : isRl a0) (h_1 : 12 ≤ (s a0 4) → Wp X d 73 42 [some (mR a0), some (mI x1)] [] s Q) (h_2 : ¬ 12 ≤ (s a0 4) → Wp X d 73 9 [some (mR a0), some (mI x1)] [] s Q) : Wp X d 73 0 [some (mR a0), some (mI x1)] [] s Q := Wp_step k73 f73_0 (Wp_step k73 f73_1 ⟨(rl_k h0), Wp_step k73 f73_4 (Wp_step k73 f73_6 ⟨h_1, h_2⟩)⟩)
theorem b73_9 {X : (Nat → Int) × Nat} {d : Nat} {s : mSt} {Q : mQ} {a0 : Nat} {x1 : Int} (h0 : isRl a0) (h_1 : 0 ≤ (s a0 4) ∧ (s a0 4) < 12) (h_2 : 0 ≤ ((uS s (a0 + 2) ((s a0 4).toNat) x1) a0 4) ∧ ((uS s (a0 + 2) ((s a0 4).toNat) x1) a0 4) < 12) (h_3 : Wp X d 73 42 [some (mR a0), some (mI x1)] [] (uS (uS (uS s (a0 + 2) ((s a0 4).toNat) x1) (a0 + 3) (((uS s (a0 + 2) ((s a0 4).toNat) x1) a0 4).toNat) ((uS s (a0 + 2) ((s a0 4).toNat) x1) a0 1)) a0 4 (w32 (((uS (uS s (a0 + 2) ((s a0 4).toNat) x1) (a0 + 3) (((uS s (a0 + 2) ((s a0 4).toNat) x1) a0 4).toNat) ((uS s (a0 + 2) ((s a0 4).toNat) x1) a0 1)) a0 4) + 1))) Q) : Wp X d 73 9 [some (mR a0), some (mI x1)] [] s Q := Wp_step k73 f73_9 (Wp_step k73 f73_10 ⟨(rl_k h0), (a0 + 2), (rl_r2 h0), Wp_step k73 f73_13 (Wp_step k73 f73_14 ⟨(rl_k h0), Wp_step k73 f73_17 (Wp_step k73 f73_18 ⟨12, (rl_a2 h0), h_1, Wp_step k73 f73_19 (Wp_step k73 f73_20 ⟨(rl_k h0), (a0 + 3), (rl_r3 h0), Wp_step k73 f73_23 (Wp_step k73 f73_24 ⟨(rl_k h0), Wp_step k73 f73_27 (Wp_step k73 f73_28 ⟨(rl_k h0), Wp_step k73 f73_31 ⟨12, (rl_a3 h0), h_2, Wp_step k73 f73_32 (Wp_step k73 f73_33 (Wp_step k73 f73_34 ⟨(rl_k h0), Wp_step k73 f73_37 (Wp_step k73 f73_38 (Wp_step k73 f73_39 ⟨(rl_k h0), h_3⟩))⟩))⟩⟩)⟩)⟩)⟩)⟩)⟩)
theorem b73_42 {X : (Nat → Int) × Nat} {d : Nat} {s : mSt} {Q : mQ} {a0 : Nat} {x1 : Int} (h0 : isRl a0) (h_1 : Q none s) : Wp X d 73 42 [some (mR a0), some (mI x1)] [] s Q := Wp_step k73 f73_42 ⟨⟨rfl, Or.inl rfl⟩, h_1⟩
theorem e73 {X : (Nat → Int) × Nat} {d : Nat} {s : mSt} {Q : mQ} {a0 : Nat} {x1 : Int} (h : Wp X d 73 0 [some (mR a0), some (mI x1)] [] s Q) : Sp X d 73 [mR a0, mI x1] s Q := Sp_of (show mCe 73 = 0 by decide +kernel) (by rw [show mML 73 = 2 by decide +kernel]; rfl) (Nat.le_trans (Nat.le_of_ble_eq_true (show Nat.ble (mArgs _).length 2 = true from rfl)) (show 2 ≤ mML 73 by decide +kernel)) h
-- 74 ClashDay$Rule.worth([J[J)J
theorem k74 : mRk 74 = 4 := by decide +kernel
theorem f74_0 : mFetch 74 0 = some (.iconst 0, 1, 0, 0, 0, 0) := by decide +kernel
theorem f74_1 : mFetch 74 1 = some (.istore_n 3, 1, 0, 0, 0, 0) := by decide +kernel
theorem f74_2 : mFetch 74 2 = some (.iconst 0, 1, 0, 0, 0, 0) := by decide +kernel
theorem f74_3 : mFetch 74 3 = some (.istore 4, 2, 0, 0, 0, 0) := by decide +kernel
theorem f74_5 : mFetch 74 5 = some (.iload 4, 2, 0, 0, 0, 0) := by decide +kernel
theorem f74_7 : mFetch 74 7 = some (.aload_n 0, 1, 0, 0, 0, 0) := by decide +kernel
theorem f74_8 : mFetch 74 8 = some (.getfield 37, 3, 5, 4, 0, 1) := by decide +kernel
theorem f74_11 : mFetch 74 11 = some (.if_icmp .ge 86, 3, 97, 0, 0, 0) := by decide +kernel
theorem f74_14 : mFetch 74 14 = some (.aload_n 0, 1, 0, 0, 0, 0) := by decide +kernel
theorem f74_15 : mFetch 74 15 = some (.getfield 17, 3, 5, 2, 2, 1) := by decide +kernel
theorem f74_18 : mFetch 74 18 = some (.iload 4, 2, 0, 0, 0, 0) := by decide +kernel
theorem f74_20 : mFetch 74 20 = some (.iaload, 1, 0, 0, 0, 0) := by decide +kernel
theorem f74_21 : mFetch 74 21 = some (.aload_n 0, 1, 0, 0, 0, 0) := by decide +kernel
theorem f74_22 : mFetch 74 22 = some (.getfield 20, 3, 5, 3, 2, 1) := by decide +kernel
theorem f74_25 : mFetch 74 25 = some (.iload 4, 2, 0, 0, 0, 0) := by decide +kernel
theorem f74_27 : mFetch 74 27 = some (.iaload, 1, 0, 0, 0, 0) := by decide +kernel
theorem f74_28 : mFetch 74 28 = some (.if_icmp .ge 7, 3, 35, 0, 0, 0) := by decide +kernel
theorem f74_31 : mFetch 74 31 = some (.iconst 1, 1, 0, 0, 0, 0) := by decide +kernel
theorem f74_32 : mFetch 74 32 = some (.goto 4, 3, 36, 0, 0, 0) := by decide +kernel
theorem f74_35 : mFetch 74 35 = some (.iconst 0, 1, 0, 0, 0, 0) := by decide +kernel
theorem f74_36 : mFetch 74 36 = some (.istore 5, 2, 0, 0, 0, 0) := by decide +kernel
theorem f74_38 : mFetch 74 38 = some (.iload 5, 2, 0, 0, 0, 0) := by decide +kernel
theorem f74_40 : mFetch 74 40 = some (.ifCond .eq 28, 3, 68, 0, 0, 0) := by decide +kernel
theorem f74_43 : mFetch 74 43 = some (.aload_n 0, 1, 0, 0, 0, 0) := by decide +kernel
theorem f74_44 : mFetch 74 44 = some (.aload_n 0, 1, 0, 0, 0, 0) := by decide +kernel
theorem f74_45 : mFetch 74 45 = some (.getfield 17, 3, 5, 2, 2, 1) := by decide +kernel
theorem f74_48 : mFetch 74 48 = some (.iload 4, 2, 0, 0, 0, 0) := by decide +kernel
theorem f74_50 : mFetch 74 50 = some (.iaload, 1, 0, 0, 0, 0) := by decide +kernel
theorem f74_51 : mFetch 74 51 = some (.aload_n 0, 1, 0, 0, 0, 0) := by decide +kernel
theorem f74_52 : mFetch 74 52 = some (.getfield 20, 3, 5, 3, 2, 1) := by decide +kernel
theorem f74_55 : mFetch 74 55 = some (.iload 4, 2, 0, 0, 0, 0) := by decide +kernel
theorem f74_57 : mFetch 74 57 = some (.iaload, 1, 0, 0, 0, 0) := by decide +kernel
theorem f74_58 : mFetch 74 58 = some (.aload_n 1, 1, 0, 0, 0, 0) := by decide +kernel
theorem f74_59 : mFetch 74 59 = some (.aload_n 2, 1, 0, 0, 0, 0) := by decide +kernel
theorem f74_60 : mFetch 74 60 = some (.invokevirtual 40, 3, 75, 0, 5, 5) := by decide +kernel
theorem f74_63 : mFetch 74 63 = some (.lconst 0, 1, 0, 0, 0, 0) := by decide +kernel
theorem f74_64 : mFetch 74 64 = some (.lcmp, 1, 0, 0, 0, 0) := by decide +kernel
theorem f74_65 : mFetch 74 65 = some (.ifCond .eq 18, 3, 83, 0, 0, 0) := by decide +kernel
theorem f74_68 : mFetch 74 68 = some (.aload_n 0, 1, 0, 0, 0, 0) := by decide +kernel
theorem f74_69 : mFetch 74 69 = some (.iload_n 3, 1, 0, 0, 0, 0) := by decide +kernel
theorem f74_70 : mFetch 74 70 = some (.aload_n 0, 1, 0, 0, 0, 0) := by decide +kernel
theorem f74_71 : mFetch 74 71 = some (.getfield 17, 3, 5, 2, 2, 1) := by decide +kernel
theorem f74_74 : mFetch 74 74 = some (.iload 4, 2, 0, 0, 0, 0) := by decide +kernel
theorem f74_76 : mFetch 74 76 = some (.iaload, 1, 0, 0, 0, 0) := by decide +kernel
theorem f74_77 : mFetch 74 77 = some (.aload_n 1, 1, 0, 0, 0, 0) := by decide +kernel
theorem f74_78 : mFetch 74 78 = some (.aload_n 2, 1, 0, 0, 0, 0) := by decide +kernel
theorem f74_79 : mFetch 74 79 = some (.invokevirtual 40, 3, 75, 0, 5, 5) := by decide +kernel
theorem f74_82 : mFetch 74 82 = some (.lreturn, 1, 0, 0, 0, 0) := by decide +kernel
theorem f74_83 : mFetch 74 83 = some (.aload_n 0, 1, 0, 0, 0, 0) := by decide +kernel
theorem f74_84 : mFetch 74 84 = some (.getfield 20, 3, 5, 3, 2, 1) := by decide +kernel
theorem f74_87 : mFetch 74 87 = some (.iload 4, 2, 0, 0, 0, 0) := by decide +kernel
theorem f74_89 : mFetch 74 89 = some (.iaload, 1, 0, 0, 0, 0) := by decide +kernel
theorem f74_90 : mFetch 74 90 = some (.istore_n 3, 1, 0, 0, 0, 0) := by decide +kernel
theorem f74_91 : mFetch 74 91 = some (.iinc 4 1, 3, 0, 0, 0, 0) := by decide +kernel
theorem f74_94 : mFetch 74 94 = some (.goto (-89), 3, 5, 0, 0, 0) := by decide +kernel
theorem f74_97 : mFetch 74 97 = some (.lconst 0, 1, 0, 0, 0, 0) := by decide +kernel
theorem f74_98 : mFetch 74 98 = some (.lreturn, 1, 0, 0, 0, 0) := by decide +kernel
theorem b74_0 {X : (Nat → Int) × Nat} {d : Nat} {s : mSt} {Q : mQ} {a0 : Nat} {l3 : Option mV} {l4 : Option mV} {l5 : Option mV} (h0 : isRl a0) (h_1 : Wp X d 74 5 [some (mR a0), some (mR 51), some (mR 52), some (mI 0), some (mI 0), l5] [] s Q) : Wp X d 74 0 [some (mR a0), some (mR 51), some (mR 52), l3, l4, l5] [] s Q := Wp_step k74 f74_0 (Wp_step k74 f74_1 (Wp_step k74 f74_2 (Wp_step k74 f74_3 (h_1))))
theorem b74_5 {X : (Nat → Int) × Nat} {d : Nat} {s : mSt} {Q : mQ} {a0 : Nat} {x3 : Int} {x4 : Int} {l5 : Option mV} (h0 : isRl a0) (h_1 : (s a0 4) ≤ x4 → Wp X d 74 97 [some (mR a0), some (mR 51), some (mR 52), some (mI x3), some (mI x4), l5] [] s Q) (h_2 : ¬ (s a0 4) ≤ x4 → Wp X d 74 14 [some (mR a0), some (mR 51), some (mR 52), some (mI x3), some (mI x4), l5] [] s Q) : Wp X d 74 5 [some (mR a0), some (mR 51), some (mR 52), some (mI x3), some (mI x4), l5] [] s Q := Wp_step k74 f74_5 (Wp_step k74 f74_7 (Wp_step k74 f74_8 ⟨(rl_k h0), Wp_step k74 f74_11 ⟨h_1, h_2⟩⟩))
theorem b74_14 {X : (Nat → Int) × Nat} {d : Nat} {s : mSt} {Q : mQ} {a0 : Nat} {x3 : Int} {x4 : Int} {l5 : Option mV} (h0 : isRl a0) (h_1 : 0 ≤ x4 ∧ x4 < 12) (h_2 : 0 ≤ x4 ∧ x4 < 12) (h_3 : (s (a0 + 3) x4.toNat) ≤ (s (a0 + 2) x4.toNat) → Wp X d 74 35 [some (mR a0), some (mR 51), some (mR 52), some (mI x3), some (mI x4), l5] [] s Q) (h_4 : ¬ (s (a0 + 3) x4.toNat) ≤ (s (a0 + 2) x4.toNat) → Wp X d 74 31 [some (mR a0), some (mR 51), some (mR 52), some (mI x3), some (mI x4), l5] [] s Q) : Wp X d 74 14 [some (mR a0), some (mR 51), some (mR 52), some (mI x3), some (mI x4), l5] [] s Q := Wp_step k74 f74_14 (Wp_step k74 f74_15 ⟨(rl_k h0), (a0 + 2), (rl_r2 h0), Wp_step k74 f74_18 (Wp_step k74 f74_20 ⟨12, (rl_a2 h0), h_1, Wp_step k74 f74_21 (Wp_step k74 f74_22 ⟨(rl_k h0), (a0 + 3), (rl_r3 h0), Wp_step k74 f74_25 (Wp_step k74 f74_27 ⟨12, (rl_a3 h0), h_2, Wp_step k74 f74_28 ⟨h_3, h_4⟩⟩)⟩)⟩)⟩)
theorem b74_31 {X : (Nat → Int) × Nat} {d : Nat} {s : mSt} {Q : mQ} {a0 : Nat} {x3 : Int} {x4 : Int} {l5 : Option mV} (h0 : isRl a0) (h_1 : Wp X d 74 36 [some (mR a0), some (mR 51), some (mR 52), some (mI x3), some (mI x4), l5] [mI 1] s Q) : Wp X d 74 31 [some (mR a0), some (mR 51), some (mR 52), some (mI x3), some (mI x4), l5] [] s Q := Wp_step k74 f74_31 (Wp_step k74 f74_32 (h_1))
theorem b74_35 {X : (Nat → Int) × Nat} {d : Nat} {s : mSt} {Q : mQ} {a0 : Nat} {x3 : Int} {x4 : Int} {l5 : Option mV} (h0 : isRl a0) (h_1 : Wp X d 74 36 [some (mR a0), some (mR 51), some (mR 52), some (mI x3), some (mI x4), l5] [mI 0] s Q) : Wp X d 74 35 [some (mR a0), some (mR 51), some (mR 52), some (mI x3), some (mI x4), l5] [] s Q := Wp_step k74 f74_35 (h_1)
theorem b74_36 {X : (Nat → Int) × Nat} {d : Nat} {s : mSt} {Q : mQ} {a0 : Nat} {x3 : Int} {x4 : Int} {l5 : Option mV} {xt0 : Int} (h0 : isRl a0) (h_1 : xt0 = 0 → Wp X d 74 68 [some (mR a0), some (mR 51), some (mR 52), some (mI x3), some (mI x4), some (mI xt0)] [] s Q) (h_2 : ¬ xt0 = 0 → Wp X d 74 43 [some (mR a0), some (mR 51), some (mR 52), some (mI x3), some (mI x4), some (mI xt0)] [] s Q) : Wp X d 74 36 [some (mR a0), some (mR 51), some (mR 52), some (mI x3), some (mI x4), l5] [mI xt0] s Q := Wp_step k74 f74_36 (Wp_step k74 f74_38 (Wp_step k74 f74_40 ⟨h_1, h_2⟩))
theorem b74_43 {X : (Nat → Int) × Nat} {d : Nat} {s : mSt} {Q : mQ} {a0 : Nat} {x3 : Int} {x4 : Int} {x5 : Int} (h0 : isRl a0) (h_1 : 0 ≤ x4 ∧ x4 < 12) (h_2 : 0 ≤ x4 ∧ x4 < 12) (h_3 : Sp X d 75 [mR a0, mI (s (a0 + 2) x4.toNat), mI (s (a0 + 3) x4.toNat), mR 51, mR 52] s (fun r s' => ∃ v : Int, r = some (mJ v) ∧ Wp X (d + 1) 74 63 [some (mR a0), some (mR 51), some (mR 52), some (mI x3), some (mI x4), some (mI x5)] [mJ v] s' Q)) : Wp X (d + 1) 74 43 [some (mR a0), some (mR 51), some (mR 52), some (mI x3), some (mI x4), some (mI x5)] [] s Q := Wp_step k74 f74_43 (Wp_step k74 f74_44 (Wp_step k74 f74_45 ⟨(rl_k h0), (a0 + 2), (rl_r2 h0), Wp_step k74 f74_48 (Wp_step k74 f74_50 ⟨12, (rl_a2 h0), h_1, Wp_step k74 f74_51 (Wp_step k74 f74_52 ⟨(rl_k h0), (a0 + 3), (rl_r3 h0), Wp_step k74 f74_55 (Wp_step k74 f74_57 ⟨12, (rl_a3 h0), h_2, Wp_step k74 f74_58 (Wp_step k74 f74_59 (Wp_step k74 f74_60 ⟨⟨(rl_k h0), Nat.le_of_ble_eq_true rfl⟩, Nat.le_refl _, _, rfl, Sp_E h_3⟩))⟩)⟩)⟩)⟩))
theorem b74_63 {X : (Nat → Int) × Nat} {d : Nat} {s : mSt} {Q : mQ} {a0 : Nat} {x3 : Int} {x4 : Int} {x5 : Int} {xt0 : Int} (h0 : isRl a0) (h_1 : (lCmp xt0 0) = 0 → Wp X d 74 83 [some (mR a0), some (mR 51), some (mR 52), some (mI x3), some (mI x4), some (mI x5)] [] s Q) (h_2 : ¬ (lCmp xt0 0) = 0 → Wp X d 74 68 [some (mR a0), some (mR 51), some (mR 52), some (mI x3), some (mI x4), some (mI x5)] [] s Q) : Wp X d 74 63 [some (mR a0), some (mR 51), some (mR 52), some (mI x3), some (mI x4), some (mI x5)] [mJ xt0] s Q := Wp_step k74 f74_63 (Wp_step k74 f74_64 (Wp_step k74 f74_65 ⟨h_1, h_2⟩))
theorem b74_68 {X : (Nat → Int) × Nat} {d : Nat} {s : mSt} {Q : mQ} {a0 : Nat} {x3 : Int} {x4 : Int} {x5 : Int} (h0 : isRl a0) (h_1 : 0 ≤ x4 ∧ x4 < 12) (h_2 : Sp X d 75 [mR a0, mI x3, mI (s (a0 + 2) x4.toNat), mR 51, mR 52] s (fun r s' => ∃ v : Int, r = some (mJ v) ∧ Wp X (d + 1) 74 82 [some (mR a0), some (mR 51), some (mR 52), some (mI x3), some (mI x4), some (mI x5)] [mJ v] s' Q)) : Wp X (d + 1) 74 68 [some (mR a0), some (mR 51), some (mR 52), some (mI x3), some (mI x4), some (mI x5)] [] s Q := Wp_step k74 f74_68 (Wp_step k74 f74_69 (Wp_step k74 f74_70 (Wp_step k74 f74_71 ⟨(rl_k h0), (a0 + 2), (rl_r2 h0), Wp_step k74 f74_74 (Wp_step k74 f74_76 ⟨12, (rl_a2 h0), h_1, Wp_step k74 f74_77 (Wp_step k74 f74_78 (Wp_step k74 f74_79 ⟨⟨(rl_k h0), Nat.le_of_ble_eq_true rfl⟩, Nat.le_refl _, _, rfl, Sp_E h_2⟩))⟩)⟩)))
theorem b74_82 {X : (Nat → Int) × Nat} {d : Nat} {s : mSt} {Q : mQ} {a0 : Nat} {x3 : Int} {x4 : Int} {x5 : Int} {xt0 : Int} (h0 : isRl a0) (h_1 : Q (some (mJ xt0)) s) : Wp X d 74 82 [some (mR a0), some (mR 51), some (mR 52), some (mI x3), some (mI x4), some (mI x5)] [mJ xt0] s Q := Wp_step k74 f74_82 ⟨⟨rfl, rfl⟩, h_1⟩
theorem b74_83 {X : (Nat → Int) × Nat} {d : Nat} {s : mSt} {Q : mQ} {a0 : Nat} {x3 : Int} {x4 : Int} {x5 : Int} (h0 : isRl a0) (h_1 : 0 ≤ x4 ∧ x4 < 12) (h_2 : Wp X d 74 5 [some (mR a0), some (mR 51), some (mR 52), some (mI (s (a0 + 3) x4.toNat)), some (mI (w32 (x4 + 1))), some (mI x5)] [] s Q) : Wp X d 74 83 [some (mR a0), some (mR 51), some (mR 52), some (mI x3), some (mI x4), some (mI x5)] [] s Q := Wp_step k74 f74_83 (Wp_step k74 f74_84 ⟨(rl_k h0), (a0 + 3), (rl_r3 h0), Wp_step k74 f74_87 (Wp_step k74 f74_89 ⟨12, (rl_a3 h0), h_1, Wp_step k74 f74_90 (Wp_step k74 f74_91 (Wp_step k74 f74_94 (h_2)))⟩)⟩)
theorem b74_97 {X : (Nat → Int) × Nat} {d : Nat} {s : mSt} {Q : mQ} {a0 : Nat} {x3 : Int} {x4 : Int} {l5 : Option mV} (h0 : isRl a0) (h_1 : Q (some (mJ 0)) s) : Wp X d 74 97 [some (mR a0), some (mR 51), some (mR 52), some (mI x3), some (mI x4), l5] [] s Q := Wp_step k74 f74_97 (Wp_step k74 f74_98 ⟨⟨rfl, rfl⟩, h_1⟩)
theorem e74 {X : (Nat → Int) × Nat} {d : Nat} {s : mSt} {Q : mQ} {a0 : Nat} (h : Wp X d 74 0 [some (mR a0), some (mR 51), some (mR 52), none, none, none] [] s Q) : Sp X d 74 [mR a0, mR 51, mR 52] s Q := Sp_of (show mCe 74 = 0 by decide +kernel) (by rw [show mML 74 = 6 by decide +kernel]; rfl) (Nat.le_trans (Nat.le_of_ble_eq_true (show Nat.ble (mArgs _).length 6 = true from rfl)) (show 6 ≤ mML 74 by decide +kernel)) h
-- 75 ClashDay$Rule.valueOf(II[J[J)J
theorem k75 : mRk 75 = 4 := by decide +kernel
theorem f75_0 : mFetch 75 0 = some (.iconst (-1), 1, 0, 0, 0, 0) := by decide +kernel
theorem f75_1 : mFetch 75 1 = some (.istore 5, 2, 0, 0, 0, 0) := by decide +kernel
theorem f75_3 : mFetch 75 3 = some (.iload_n 1, 1, 0, 0, 0, 0) := by decide +kernel
theorem f75_4 : mFetch 75 4 = some (.istore 6, 2, 0, 0, 0, 0) := by decide +kernel
theorem f75_6 : mFetch 75 6 = some (.iload 6, 2, 0, 0, 0, 0) := by decide +kernel
theorem f75_8 : mFetch 75 8 = some (.iload_n 2, 1, 0, 0, 0, 0) := by decide +kernel
theorem f75_9 : mFetch 75 9 = some (.if_icmp .ge 125, 3, 134, 0, 0, 0) := by decide +kernel
theorem f75_12 : mFetch 75 12 = some (.aload_n 0, 1, 0, 0, 0, 0) := by decide +kernel
theorem f75_13 : mFetch 75 13 = some (.getfield 11, 3, 5, 0, 2, 1) := by decide +kernel
theorem f75_16 : mFetch 75 16 = some (.iload 6, 2, 0, 0, 0, 0) := by decide +kernel
theorem f75_18 : mFetch 75 18 = some (.iaload, 1, 0, 0, 0, 0) := by decide +kernel
theorem f75_19 : mFetch 75 19 = some (.istore 7, 2, 0, 0, 0, 0) := by decide +kernel
theorem f75_21 : mFetch 75 21 = some (.iload 7, 2, 0, 0, 0, 0) := by decide +kernel
theorem f75_23 : mFetch 75 23 = some (.ldc 31, 2, 200000, 0, 0, 0) := by decide +kernel
theorem f75_25 : mFetch 75 25 = some (.if_icmp .ge 45, 3, 70, 0, 0, 0) := by decide +kernel
theorem f75_28 : mFetch 75 28 = some (.iload 5, 2, 0, 0, 0, 0) := by decide +kernel
theorem f75_30 : mFetch 75 30 = some (.iconst 1, 1, 0, 0, 0, 0) := by decide +kernel
theorem f75_31 : mFetch 75 31 = some (.iadd, 1, 0, 0, 0, 0) := by decide +kernel
theorem f75_32 : mFetch 75 32 = some (.aload 4, 2, 0, 0, 0, 0) := by decide +kernel
theorem f75_34 : mFetch 75 34 = some (.arraylength, 1, 0, 0, 0, 0) := by decide +kernel
theorem f75_35 : mFetch 75 35 = some (.iconst 1, 1, 0, 0, 0, 0) := by decide +kernel
theorem f75_36 : mFetch 75 36 = some (.isub, 1, 0, 0, 0, 0) := by decide +kernel
theorem f75_37 : mFetch 75 37 = some (.invokestatic 44, 3, (-6), 0, 0, 0) := by decide +kernel
theorem f75_40 : mFetch 75 40 = some (.istore 5, 2, 0, 0, 0, 0) := by decide +kernel
theorem f75_42 : mFetch 75 42 = some (.aload 4, 2, 0, 0, 0, 0) := by decide +kernel
theorem f75_44 : mFetch 75 44 = some (.iload 5, 2, 0, 0, 0, 0) := by decide +kernel
theorem f75_46 : mFetch 75 46 = some (.iload 7, 2, 0, 0, 0, 0) := by decide +kernel
theorem f75_48 : mFetch 75 48 = some (.ldc 50, 2, 100000, 0, 0, 0) := by decide +kernel
theorem f75_50 : mFetch 75 50 = some (.if_icmp .ge 9, 3, 59, 0, 0, 0) := by decide +kernel
theorem f75_53 : mFetch 75 53 = some (.iload 7, 2, 0, 0, 0, 0) := by decide +kernel
theorem f75_55 : mFetch 75 55 = some (.i2l, 1, 0, 0, 0, 0) := by decide +kernel
theorem f75_56 : mFetch 75 56 = some (.goto 10, 3, 66, 0, 0, 0) := by decide +kernel
theorem f75_59 : mFetch 75 59 = some (.aload_n 3, 1, 0, 0, 0, 0) := by decide +kernel
theorem f75_60 : mFetch 75 60 = some (.iload 7, 2, 0, 0, 0, 0) := by decide +kernel
theorem f75_62 : mFetch 75 62 = some (.ldc 50, 2, 100000, 0, 0, 0) := by decide +kernel
theorem f75_64 : mFetch 75 64 = some (.isub, 1, 0, 0, 0, 0) := by decide +kernel
theorem f75_65 : mFetch 75 65 = some (.laload, 1, 0, 0, 0, 0) := by decide +kernel
theorem f75_66 : mFetch 75 66 = some (.lastore, 1, 0, 0, 0, 0) := by decide +kernel
theorem f75_67 : mFetch 75 67 = some (.goto 61, 3, 128, 0, 0, 0) := by decide +kernel
theorem f75_70 : mFetch 75 70 = some (.iload 7, 2, 0, 0, 0, 0) := by decide +kernel
theorem f75_72 : mFetch 75 72 = some (.ldc 51, 2, 200012, 0, 0, 0) := by decide +kernel
theorem f75_74 : mFetch 75 74 = some (.if_icmp .ne 23, 3, 97, 0, 0, 0) := by decide +kernel
theorem f75_77 : mFetch 75 77 = some (.iload 5, 2, 0, 0, 0, 0) := by decide +kernel
theorem f75_79 : mFetch 75 79 = some (.ifCond .lt 18, 3, 97, 0, 0, 0) := by decide +kernel
theorem f75_82 : mFetch 75 82 = some (.aload 4, 2, 0, 0, 0, 0) := by decide +kernel
theorem f75_84 : mFetch 75 84 = some (.iload 5, 2, 0, 0, 0, 0) := by decide +kernel
theorem f75_86 : mFetch 75 86 = some (.lconst 1, 1, 0, 0, 0, 0) := by decide +kernel
theorem f75_87 : mFetch 75 87 = some (.aload 4, 2, 0, 0, 0, 0) := by decide +kernel
theorem f75_89 : mFetch 75 89 = some (.iload 5, 2, 0, 0, 0, 0) := by decide +kernel
theorem f75_91 : mFetch 75 91 = some (.laload, 1, 0, 0, 0, 0) := by decide +kernel
theorem f75_92 : mFetch 75 92 = some (.lsub, 1, 0, 0, 0, 0) := by decide +kernel
theorem f75_93 : mFetch 75 93 = some (.lastore, 1, 0, 0, 0, 0) := by decide +kernel
theorem f75_94 : mFetch 75 94 = some (.goto 34, 3, 128, 0, 0, 0) := by decide +kernel
theorem f75_97 : mFetch 75 97 = some (.iload 5, 2, 0, 0, 0, 0) := by decide +kernel
theorem f75_99 : mFetch 75 99 = some (.iconst 1, 1, 0, 0, 0, 0) := by decide +kernel
theorem f75_100 : mFetch 75 100 = some (.if_icmp .lt 28, 3, 128, 0, 0, 0) := by decide +kernel
theorem f75_103 : mFetch 75 103 = some (.iinc 5 (-1), 3, 0, 0, 0, 0) := by decide +kernel
theorem f75_106 : mFetch 75 106 = some (.aload 4, 2, 0, 0, 0, 0) := by decide +kernel
theorem f75_108 : mFetch 75 108 = some (.iload 5, 2, 0, 0, 0, 0) := by decide +kernel
theorem f75_110 : mFetch 75 110 = some (.iload 7, 2, 0, 0, 0, 0) := by decide +kernel
theorem f75_112 : mFetch 75 112 = some (.aload 4, 2, 0, 0, 0, 0) := by decide +kernel
theorem f75_114 : mFetch 75 114 = some (.iload 5, 2, 0, 0, 0, 0) := by decide +kernel
theorem f75_116 : mFetch 75 116 = some (.laload, 1, 0, 0, 0, 0) := by decide +kernel
theorem f75_117 : mFetch 75 117 = some (.aload 4, 2, 0, 0, 0, 0) := by decide +kernel
theorem f75_119 : mFetch 75 119 = some (.iload 5, 2, 0, 0, 0, 0) := by decide +kernel
theorem f75_121 : mFetch 75 121 = some (.iconst 1, 1, 0, 0, 0, 0) := by decide +kernel
theorem f75_122 : mFetch 75 122 = some (.iadd, 1, 0, 0, 0, 0) := by decide +kernel
theorem f75_123 : mFetch 75 123 = some (.laload, 1, 0, 0, 0, 0) := by decide +kernel
theorem f75_124 : mFetch 75 124 = some (.invokestatic 52, 3, 76, 0, 3, 99) := by decide +kernel
theorem f75_127 : mFetch 75 127 = some (.lastore, 1, 0, 0, 0, 0) := by decide +kernel
theorem f75_128 : mFetch 75 128 = some (.iinc 6 1, 3, 0, 0, 0, 0) := by decide +kernel
theorem f75_131 : mFetch 75 131 = some (.goto (-125), 3, 6, 0, 0, 0) := by decide +kernel
theorem f75_134 : mFetch 75 134 = some (.iload 5, 2, 0, 0, 0, 0) := by decide +kernel
theorem f75_136 : mFetch 75 136 = some (.ifCond .ge 7, 3, 143, 0, 0, 0) := by decide +kernel
theorem f75_139 : mFetch 75 139 = some (.lconst 0, 1, 0, 0, 0, 0) := by decide +kernel
theorem f75_140 : mFetch 75 140 = some (.goto 7, 3, 147, 0, 0, 0) := by decide +kernel
theorem f75_143 : mFetch 75 143 = some (.aload 4, 2, 0, 0, 0, 0) := by decide +kernel
theorem f75_145 : mFetch 75 145 = some (.iconst 0, 1, 0, 0, 0, 0) := by decide +kernel
theorem f75_146 : mFetch 75 146 = some (.laload, 1, 0, 0, 0, 0) := by decide +kernel
theorem f75_147 : mFetch 75 147 = some (.lreturn, 1, 0, 0, 0, 0) := by decide +kernel
theorem b75_0 {X : (Nat → Int) × Nat} {d : Nat} {s : mSt} {Q : mQ} {a0 : Nat} {x1 : Int} {x2 : Int} {l5 : Option mV} {l6 : Option mV} {l7 : Option mV} (h0 : isRl a0) (h_1 : Wp X d 75 6 [some (mR a0), some (mI x1), some (mI x2), some (mR 51), some (mR 52), some (mI (-1)), some (mI x1), l7] [] s Q) : Wp X d 75 0 [some (mR a0), some (mI x1), some (mI x2), some (mR 51), some (mR 52), l5, l6, l7] [] s Q := Wp_step k75 f75_0 (Wp_step k75 f75_1 (Wp_step k75 f75_3 (Wp_step k75 f75_4 (h_1))))
theorem b75_6 {X : (Nat → Int) × Nat} {d : Nat} {s : mSt} {Q : mQ} {a0 : Nat} {x1 : Int} {x2 : Int} {x5 : Int} {x6 : Int} {l7 : Option mV} (h0 : isRl a0) (h_1 : x2 ≤ x6 → Wp X d 75 134 [some (mR a0), some (mI x1), some (mI x2), some (mR 51), some (mR 52), some (mI x5), some (mI x6), l7] [] s Q) (h_2 : ¬ x2 ≤ x6 → Wp X d 75 12 [some (mR a0), some (mI x1), some (mI x2), some (mR 51), some (mR 52), some (mI x5), some (mI x6), l7] [] s Q) : Wp X d 75 6 [some (mR a0), some (mI x1), some (mI x2), some (mR 51), some (mR 52), some (mI x5), some (mI x6), l7] [] s Q := Wp_step k75 f75_6 (Wp_step k75 f75_8 (Wp_step k75 f75_9 ⟨h_1, h_2⟩))
theorem b75_12 {X : (Nat → Int) × Nat} {d : Nat} {s : mSt} {Q : mQ} {a0 : Nat} {x1 : Int} {x2 : Int} {x5 : Int} {x6 : Int} {l7 : Option mV} (h0 : isRl a0) (h_1 : 0 ≤ x6 ∧ x6 < 400) (h_2 : 200000 ≤ (s (a0 + 1) x6.toNat) → Wp X d 75 70 [some (mR a0), some (mI x1), some (mI x2), some (mR 51), some (mR 52), some (mI x5), some (mI x6), some (mI (s (a0 + 1) x6.toNat))] [] s Q) (h_3 : ¬ 200000 ≤ (s (a0 + 1) x6.toNat) → Wp X d 75 28 [some (mR a0), some (mI x1), some (mI x2), some (mR 51), some (mR 52), some (mI x5), some (mI x6), some (mI (s (a0 + 1) x6.toNat))] [] s Q) : Wp X d 75 12 [some (mR a0), some (mI x1), some (mI x2), some (mR 51), some (mR 52), some (mI x5), some (mI x6), l7] [] s Q := Wp_step k75 f75_12 (Wp_step k75 f75_13 ⟨(rl_k h0), (a0 + 1), (rl_r0 h0), Wp_step k75 f75_16 (Wp_step k75 f75_18 ⟨400, (rl_a0 h0), h_1, Wp_step k75 f75_19 (Wp_step k75 f75_21 (Wp_step k75 f75_23 (Wp_step k75 f75_25 ⟨h_2, h_3⟩)))⟩)⟩)
theorem b75_28 {X : (Nat → Int) × Nat} {d : Nat} {s : mSt} {Q : mQ} {a0 : Nat} {x1 : Int} {x2 : Int} {x5 : Int} {x6 : Int} {x7 : Int} (h0 : isRl a0) (h_1 : 100000 ≤ x7 → Wp X (d + 1) 75 59 [some (mR a0), some (mI x1), some (mI x2), some (mR 51), some (mR 52), some (mI (iMin (w32 (x5 + 1)) (w32 (60 - 1)))), some (mI x6), some (mI x7)] [mI (iMin (w32 (x5 + 1)) (w32 (60 - 1))), mR 52] s Q) (h_2 : ¬ 100000 ≤ x7 → Wp X (d + 1) 75 53 [some (mR a0), some (mI x1), some (mI x2), some (mR 51), some (mR 52), some (mI (iMin (w32 (x5 + 1)) (w32 (60 - 1)))), some (mI x6), some (mI x7)] [mI (iMin (w32 (x5 + 1)) (w32 (60 - 1))), mR 52] s Q) : Wp X (d + 1) 75 28 [some (mR a0), some (mI x1), some (mI x2), some (mR 51), some (mR 52), some (mI x5), some (mI x6), some (mI x7)] [] s Q := Wp_step k75 f75_28 (Wp_step k75 f75_30 (Wp_step k75 f75_31 (Wp_step k75 f75_32 (Wp_step k75 f75_34 ⟨23, 60, af_52, ⟨by decide, by decide, by decide⟩, Wp_step k75 f75_35 (Wp_step k75 f75_36 (Wp_step k75 f75_37 ⟨⟨Nat.succ_pos _, Nat.le_of_ble_eq_true rfl⟩, Wp_step k75 f75_40 (Wp_step k75 f75_42 (Wp_step k75 f75_44 (Wp_step k75 f75_46 (Wp_step k75 f75_48 (Wp_step k75 f75_50 ⟨h_1, h_2⟩)))))⟩))⟩))))
theorem b75_53 {X : (Nat → Int) × Nat} {d : Nat} {s : mSt} {Q : mQ} {a0 : Nat} {x1 : Int} {x2 : Int} {x5 : Int} {x6 : Int} {x7 : Int} {xt1 : Int} (h0 : isRl a0) (h_1 : Wp X d 75 66 [some (mR a0), some (mI x1), some (mI x2), some (mR 51), some (mR 52), some (mI x5), some (mI x6), some (mI x7)] [mJ x7, mI xt1, mR 52] s Q) : Wp X d 75 53 [some (mR a0), some (mI x1), some (mI x2), some (mR 51), some (mR 52), some (mI x5), some (mI x6), some (mI x7)] [mI xt1, mR 52] s Q := Wp_step k75 f75_53 (Wp_step k75 f75_55 (Wp_step k75 f75_56 (h_1)))
theorem b75_59 {X : (Nat → Int) × Nat} {d : Nat} {s : mSt} {Q : mQ} {a0 : Nat} {x1 : Int} {x2 : Int} {x5 : Int} {x6 : Int} {x7 : Int} {xt1 : Int} (h0 : isRl a0) (h_1 : 0 ≤ (w32 (x7 - 100000)) ∧ (w32 (x7 - 100000)) < 11) (h_2 : Wp X d 75 66 [some (mR a0), some (mI x1), some (mI x2), some (mR 51), some (mR 52), some (mI x5), some (mI x6), some (mI x7)] [mJ (s 51 (w32 (x7 - 100000)).toNat), mI xt1, mR 52] s Q) : Wp X d 75 59 [some (mR a0), some (mI x1), some (mI x2), some (mR 51), some (mR 52), some (mI x5), some (mI x6), some (mI x7)] [mI xt1, mR 52] s Q := Wp_step k75 f75_59 (Wp_step k75 f75_60 (Wp_step k75 f75_62 (Wp_step k75 f75_64 (Wp_step k75 f75_65 ⟨11, af_51, h_1, h_2⟩))))
theorem b75_66 {X : (Nat → Int) × Nat} {d : Nat} {s : mSt} {Q : mQ} {a0 : Nat} {x1 : Int} {x2 : Int} {x5 : Int} {x6 : Int} {x7 : Int} {xt1 : Int} {xt2 : Int} (h0 : isRl a0) (h_1 : 0 ≤ xt1 ∧ xt1 < 60) (h_2 : Wp X d 75 128 [some (mR a0), some (mI x1), some (mI x2), some (mR 51), some (mR 52), some (mI x5), some (mI x6), some (mI x7)] [] (uS s 52 xt1.toNat xt2) Q) : Wp X d 75 66 [some (mR a0), some (mI x1), some (mI x2), some (mR 51), some (mR 52), some (mI x5), some (mI x6), some (mI x7)] [mJ xt2, mI xt1, mR 52] s Q := Wp_step k75 f75_66 ⟨60, af_52, h_1, Wp_step k75 f75_67 (h_2)⟩
theorem b75_70 {X : (Nat → Int) × Nat} {d : Nat} {s : mSt} {Q : mQ} {a0 : Nat} {x1 : Int} {x2 : Int} {x5 : Int} {x6 : Int} {x7 : Int} (h0 : isRl a0) (h_1 : ¬ x7 = 200012 → Wp X d 75 97 [some (mR a0), some (mI x1), some (mI x2), some (mR 51), some (mR 52), some (mI x5), some (mI x6), some (mI x7)] [] s Q) (h_2 : x7 = 200012 → Wp X d 75 77 [some (mR a0), some (mI x1), some (mI x2), some (mR 51), some (mR 52), some (mI x5), some (mI x6), some (mI x7)] [] s Q) : Wp X d 75 70 [some (mR a0), some (mI x1), some (mI x2), some (mR 51), some (mR 52), some (mI x5), some (mI x6), some (mI x7)] [] s Q := Wp_step k75 f75_70 (Wp_step k75 f75_72 (Wp_step k75 f75_74 ⟨h_1, h_2⟩))
theorem b75_77 {X : (Nat → Int) × Nat} {d : Nat} {s : mSt} {Q : mQ} {a0 : Nat} {x1 : Int} {x2 : Int} {x5 : Int} {x6 : Int} {x7 : Int} (h0 : isRl a0) (h_1 : x5 < 0 → Wp X d 75 97 [some (mR a0), some (mI x1), some (mI x2), some (mR 51), some (mR 52), some (mI x5), some (mI x6), some (mI x7)] [] s Q) (h_2 : ¬ x5 < 0 → Wp X d 75 82 [some (mR a0), some (mI x1), some (mI x2), some (mR 51), some (mR 52), some (mI x5), some (mI x6), some (mI x7)] [] s Q) : Wp X d 75 77 [some (mR a0), some (mI x1), some (mI x2), some (mR 51), some (mR 52), some (mI x5), some (mI x6), some (mI x7)] [] s Q := Wp_step k75 f75_77 (Wp_step k75 f75_79 ⟨h_1, h_2⟩)
theorem b75_82 {X : (Nat → Int) × Nat} {d : Nat} {s : mSt} {Q : mQ} {a0 : Nat} {x1 : Int} {x2 : Int} {x5 : Int} {x6 : Int} {x7 : Int} (h0 : isRl a0) (h_1 : 0 ≤ x5 ∧ x5 < 60) (h_2 : 0 ≤ x5 ∧ x5 < 60) (h_3 : Wp X d 75 128 [some (mR a0), some (mI x1), some (mI x2), some (mR 51), some (mR 52), some (mI x5), some (mI x6), some (mI x7)] [] (uS s 52 x5.toNat (w64 (1 - (s 52 x5.toNat)))) Q) : Wp X d 75 82 [some (mR a0), some (mI x1), some (mI x2), some (mR 51), some (mR 52), some (mI x5), some (mI x6), some (mI x7)] [] s Q := Wp_step k75 f75_82 (Wp_step k75 f75_84 (Wp_step k75 f75_86 (Wp_step k75 f75_87 (Wp_step k75 f75_89 (Wp_step k75 f75_91 ⟨60, af_52, h_1, Wp_step k75 f75_92 (Wp_step k75 f75_93 ⟨60, af_52, h_2, Wp_step k75 f75_94 (h_3)⟩)⟩)))))
theorem b75_97 {X : (Nat → Int) × Nat} {d : Nat} {s : mSt} {Q : mQ} {a0 : Nat} {x1 : Int} {x2 : Int} {x5 : Int} {x6 : Int} {x7 : Int} (h0 : isRl a0) (h_1 : x5 < 1 → Wp X d 75 128 [some (mR a0), some (mI x1), some (mI x2), some (mR 51), some (mR 52), some (mI x5), some (mI x6), some (mI x7)] [] s Q) (h_2 : ¬ x5 < 1 → Wp X d 75 103 [some (mR a0), some (mI x1), some (mI x2), some (mR 51), some (mR 52), some (mI x5), some (mI x6), some (mI x7)] [] s Q) : Wp X d 75 97 [some (mR a0), some (mI x1), some (mI x2), some (mR 51), some (mR 52), some (mI x5), some (mI x6), some (mI x7)] [] s Q := Wp_step k75 f75_97 (Wp_step k75 f75_99 (Wp_step k75 f75_100 ⟨h_1, h_2⟩))
theorem b75_103 {X : (Nat → Int) × Nat} {d : Nat} {s : mSt} {Q : mQ} {a0 : Nat} {x1 : Int} {x2 : Int} {x5 : Int} {x6 : Int} {x7 : Int} (h0 : isRl a0) (h_1 : 0 ≤ (w32 (x5 + (-1))) ∧ (w32 (x5 + (-1))) < 60) (h_2 : 0 ≤ (w32 ((w32 (x5 + (-1))) + 1)) ∧ (w32 ((w32 (x5 + (-1))) + 1)) < 60) (h_3 : Sp X d 76 [mI x7, mJ (s 52 (w32 (x5 + (-1))).toNat), mJ (s 52 (w32 ((w32 (x5 + (-1))) + 1)).toNat)] s (fun r s' => ∃ v : Int, r = some (mJ v) ∧ Wp X (d + 1) 75 127 [some (mR a0), some (mI x1), some (mI x2), some (mR 51), some (mR 52), some (mI (w32 (x5 + (-1)))), some (mI x6), some (mI x7)] [mJ v, mI (w32 (x5 + (-1))), mR 52] s' Q)) : Wp X (d + 1) 75 103 [some (mR a0), some (mI x1), some (mI x2), some (mR 51), some (mR 52), some (mI x5), some (mI x6), some (mI x7)] [] s Q := Wp_step k75 f75_103 (Wp_step k75 f75_106 (Wp_step k75 f75_108 (Wp_step k75 f75_110 (Wp_step k75 f75_112 (Wp_step k75 f75_114 (Wp_step k75 f75_116 ⟨60, af_52, h_1, Wp_step k75 f75_117 (Wp_step k75 f75_119 (Wp_step k75 f75_121 (Wp_step k75 f75_122 (Wp_step k75 f75_123 ⟨60, af_52, h_2, Wp_step k75 f75_124 ⟨⟨Nat.le_of_ble_eq_true rfl, Nat.le_refl _⟩, _, rfl, Sp_E h_3⟩⟩))))⟩))))))
theorem b75_127 {X : (Nat → Int) × Nat} {d : Nat} {s : mSt} {Q : mQ} {a0 : Nat} {x1 : Int} {x2 : Int} {x5 : Int} {x6 : Int} {x7 : Int} {xt1 : Int} {xt2 : Int} (h0 : isRl a0) (h_1 : 0 ≤ xt1 ∧ xt1 < 60) (h_2 : Wp X d 75 128 [some (mR a0), some (mI x1), some (mI x2), some (mR 51), some (mR 52), some (mI x5), some (mI x6), some (mI x7)] [] (uS s 52 xt1.toNat xt2) Q) : Wp X d 75 127 [some (mR a0), some (mI x1), some (mI x2), some (mR 51), some (mR 52), some (mI x5), some (mI x6), some (mI x7)] [mJ xt2, mI xt1, mR 52] s Q := Wp_step k75 f75_127 ⟨60, af_52, h_1, h_2⟩
theorem b75_128 {X : (Nat → Int) × Nat} {d : Nat} {s : mSt} {Q : mQ} {a0 : Nat} {x1 : Int} {x2 : Int} {x5 : Int} {x6 : Int} {x7 : Int} (h0 : isRl a0) (h_1 : Wp X d 75 6 [some (mR a0), some (mI x1), some (mI x2), some (mR 51), some (mR 52), some (mI x5), some (mI (w32 (x6 + 1))), some (mI x7)] [] s Q) : Wp X d 75 128 [some (mR a0), some (mI x1), some (mI x2), some (mR 51), some (mR 52), some (mI x5), some (mI x6), some (mI x7)] [] s Q := Wp_step k75 f75_128 (Wp_step k75 f75_131 (h_1))
theorem b75_134 {X : (Nat → Int) × Nat} {d : Nat} {s : mSt} {Q : mQ} {a0 : Nat} {x1 : Int} {x2 : Int} {x5 : Int} {x6 : Int} {l7 : Option mV} (h0 : isRl a0) (h_1 : 0 ≤ x5 → Wp X d 75 143 [some (mR a0), some (mI x1), some (mI x2), some (mR 51), some (mR 52), some (mI x5), some (mI x6), l7] [] s Q) (h_2 : ¬ 0 ≤ x5 → Wp X d 75 139 [some (mR a0), some (mI x1), some (mI x2), some (mR 51), some (mR 52), some (mI x5), some (mI x6), l7] [] s Q) : Wp X d 75 134 [some (mR a0), some (mI x1), some (mI x2), some (mR 51), some (mR 52), some (mI x5), some (mI x6), l7] [] s Q := Wp_step k75 f75_134 (Wp_step k75 f75_136 ⟨h_1, h_2⟩)
theorem b75_139 {X : (Nat → Int) × Nat} {d : Nat} {s : mSt} {Q : mQ} {a0 : Nat} {x1 : Int} {x2 : Int} {x5 : Int} {x6 : Int} {l7 : Option mV} (h0 : isRl a0) (h_1 : Wp X d 75 147 [some (mR a0), some (mI x1), some (mI x2), some (mR 51), some (mR 52), some (mI x5), some (mI x6), l7] [mJ 0] s Q) : Wp X d 75 139 [some (mR a0), some (mI x1), some (mI x2), some (mR 51), some (mR 52), some (mI x5), some (mI x6), l7] [] s Q := Wp_step k75 f75_139 (Wp_step k75 f75_140 (h_1))
theorem b75_143 {X : (Nat → Int) × Nat} {d : Nat} {s : mSt} {Q : mQ} {a0 : Nat} {x1 : Int} {x2 : Int} {x5 : Int} {x6 : Int} {l7 : Option mV} (h0 : isRl a0) (h_1 : Wp X d 75 147 [some (mR a0), some (mI x1), some (mI x2), some (mR 51), some (mR 52), some (mI x5), some (mI x6), l7] [mJ (s 52 0)] s Q) : Wp X d 75 143 [some (mR a0), some (mI x1), some (mI x2), some (mR 51), some (mR 52), some (mI x5), some (mI x6), l7] [] s Q := Wp_step k75 f75_143 (Wp_step k75 f75_145 (Wp_step k75 f75_146 ⟨60, af_52, ⟨by decide, by decide⟩, h_1⟩))
theorem b75_147 {X : (Nat → Int) × Nat} {d : Nat} {s : mSt} {Q : mQ} {a0 : Nat} {x1 : Int} {x2 : Int} {x5 : Int} {x6 : Int} {l7 : Option mV} {xt0 : Int} (h0 : isRl a0) (h_1 : Q (some (mJ xt0)) s) : Wp X d 75 147 [some (mR a0), some (mI x1), some (mI x2), some (mR 51), some (mR 52), some (mI x5), some (mI x6), l7] [mJ xt0] s Q := Wp_step k75 f75_147 ⟨⟨rfl, rfl⟩, h_1⟩
theorem e75 {X : (Nat → Int) × Nat} {d : Nat} {s : mSt} {Q : mQ} {a0 : Nat} {x1 : Int} {x2 : Int} (h : Wp X d 75 0 [some (mR a0), some (mI x1), some (mI x2), some (mR 51), some (mR 52), none, none, none] [] s Q) : Sp X d 75 [mR a0, mI x1, mI x2, mR 51, mR 52] s Q := Sp_of (show mCe 75 = 0 by decide +kernel) (by rw [show mML 75 = 8 by decide +kernel]; rfl) (Nat.le_trans (Nat.le_of_ble_eq_true (show Nat.ble (mArgs _).length 8 = true from rfl)) (show 8 ≤ mML 75 by decide +kernel)) h
-- 76 ClashDay$Rule.joined(IJJ)J
theorem k76 : mRk 76 = 4 := by decide +kernel
theorem f76_0 : mFetch 76 0 = some (.iload_n 0, 1, 0, 0, 0, 0) := by decide +kernel
theorem f76_1 : mFetch 76 1 = some (.tableswitch 163 200000 200010 #[59, 63, 67, 71, 85, 99, 111, 123, 135, 147, 159], 59, 0, 0, 0, 0) := by decide +kernel
theorem f76_60 : mFetch 76 60 = some (.lload_n 1, 1, 0, 0, 0, 0) := by decide +kernel
theorem f76_61 : mFetch 76 61 = some (.lload_n 3, 1, 0, 0, 0, 0) := by decide +kernel
theorem f76_62 : mFetch 76 62 = some (.ladd, 1, 0, 0, 0, 0) := by decide +kernel
theorem f76_63 : mFetch 76 63 = some (.lreturn, 1, 0, 0, 0, 0) := by decide +kernel
theorem f76_64 : mFetch 76 64 = some (.lload_n 1, 1, 0, 0, 0, 0) := by decide +kernel
theorem f76_65 : mFetch 76 65 = some (.lload_n 3, 1, 0, 0, 0, 0) := by decide +kernel
theorem f76_66 : mFetch 76 66 = some (.lsub, 1, 0, 0, 0, 0) := by decide +kernel
theorem f76_67 : mFetch 76 67 = some (.lreturn, 1, 0, 0, 0, 0) := by decide +kernel
theorem f76_68 : mFetch 76 68 = some (.lload_n 1, 1, 0, 0, 0, 0) := by decide +kernel
theorem f76_69 : mFetch 76 69 = some (.lload_n 3, 1, 0, 0, 0, 0) := by decide +kernel
theorem f76_70 : mFetch 76 70 = some (.lmul, 1, 0, 0, 0, 0) := by decide +kernel
theorem f76_71 : mFetch 76 71 = some (.lreturn, 1, 0, 0, 0, 0) := by decide +kernel
theorem f76_72 : mFetch 76 72 = some (.lload_n 3, 1, 0, 0, 0, 0) := by decide +kernel
theorem f76_73 : mFetch 76 73 = some (.lconst 0, 1, 0, 0, 0, 0) := by decide +kernel
theorem f76_74 : mFetch 76 74 = some (.lcmp, 1, 0, 0, 0, 0) := by decide +kernel
theorem f76_75 : mFetch 76 75 = some (.ifCond .ne 7, 3, 82, 0, 0, 0) := by decide +kernel
theorem f76_78 : mFetch 76 78 = some (.lconst 0, 1, 0, 0, 0, 0) := by decide +kernel
theorem f76_79 : mFetch 76 79 = some (.goto 6, 3, 85, 0, 0, 0) := by decide +kernel
theorem f76_82 : mFetch 76 82 = some (.lload_n 1, 1, 0, 0, 0, 0) := by decide +kernel
theorem f76_83 : mFetch 76 83 = some (.lload_n 3, 1, 0, 0, 0, 0) := by decide +kernel
theorem f76_84 : mFetch 76 84 = some (.ldiv, 1, 0, 0, 0, 0) := by decide +kernel
theorem f76_85 : mFetch 76 85 = some (.lreturn, 1, 0, 0, 0, 0) := by decide +kernel
theorem f76_86 : mFetch 76 86 = some (.lload_n 3, 1, 0, 0, 0, 0) := by decide +kernel
theorem f76_87 : mFetch 76 87 = some (.lconst 0, 1, 0, 0, 0, 0) := by decide +kernel
theorem f76_88 : mFetch 76 88 = some (.lcmp, 1, 0, 0, 0, 0) := by decide +kernel
theorem f76_89 : mFetch 76 89 = some (.ifCond .ne 7, 3, 96, 0, 0, 0) := by decide +kernel
theorem f76_92 : mFetch 76 92 = some (.lconst 0, 1, 0, 0, 0, 0) := by decide +kernel
theorem f76_93 : mFetch 76 93 = some (.goto 6, 3, 99, 0, 0, 0) := by decide +kernel
theorem f76_96 : mFetch 76 96 = some (.lload_n 1, 1, 0, 0, 0, 0) := by decide +kernel
theorem f76_97 : mFetch 76 97 = some (.lload_n 3, 1, 0, 0, 0, 0) := by decide +kernel
theorem f76_98 : mFetch 76 98 = some (.lrem, 1, 0, 0, 0, 0) := by decide +kernel
theorem f76_99 : mFetch 76 99 = some (.lreturn, 1, 0, 0, 0, 0) := by decide +kernel
theorem f76_100 : mFetch 76 100 = some (.lload_n 1, 1, 0, 0, 0, 0) := by decide +kernel
theorem f76_101 : mFetch 76 101 = some (.lload_n 3, 1, 0, 0, 0, 0) := by decide +kernel
theorem f76_102 : mFetch 76 102 = some (.lcmp, 1, 0, 0, 0, 0) := by decide +kernel
theorem f76_103 : mFetch 76 103 = some (.ifCond .ge 7, 3, 110, 0, 0, 0) := by decide +kernel
theorem f76_106 : mFetch 76 106 = some (.lconst 1, 1, 0, 0, 0, 0) := by decide +kernel
theorem f76_107 : mFetch 76 107 = some (.goto 4, 3, 111, 0, 0, 0) := by decide +kernel
theorem f76_110 : mFetch 76 110 = some (.lconst 0, 1, 0, 0, 0, 0) := by decide +kernel
theorem f76_111 : mFetch 76 111 = some (.lreturn, 1, 0, 0, 0, 0) := by decide +kernel
theorem f76_112 : mFetch 76 112 = some (.lload_n 1, 1, 0, 0, 0, 0) := by decide +kernel
theorem f76_113 : mFetch 76 113 = some (.lload_n 3, 1, 0, 0, 0, 0) := by decide +kernel
theorem f76_114 : mFetch 76 114 = some (.lcmp, 1, 0, 0, 0, 0) := by decide +kernel
theorem f76_115 : mFetch 76 115 = some (.ifCond .gt 7, 3, 122, 0, 0, 0) := by decide +kernel
theorem f76_118 : mFetch 76 118 = some (.lconst 1, 1, 0, 0, 0, 0) := by decide +kernel
theorem f76_119 : mFetch 76 119 = some (.goto 4, 3, 123, 0, 0, 0) := by decide +kernel
theorem f76_122 : mFetch 76 122 = some (.lconst 0, 1, 0, 0, 0, 0) := by decide +kernel
theorem f76_123 : mFetch 76 123 = some (.lreturn, 1, 0, 0, 0, 0) := by decide +kernel
theorem f76_124 : mFetch 76 124 = some (.lload_n 1, 1, 0, 0, 0, 0) := by decide +kernel
theorem f76_125 : mFetch 76 125 = some (.lload_n 3, 1, 0, 0, 0, 0) := by decide +kernel
theorem f76_126 : mFetch 76 126 = some (.lcmp, 1, 0, 0, 0, 0) := by decide +kernel
theorem f76_127 : mFetch 76 127 = some (.ifCond .ne 7, 3, 134, 0, 0, 0) := by decide +kernel
theorem f76_130 : mFetch 76 130 = some (.lconst 1, 1, 0, 0, 0, 0) := by decide +kernel
theorem f76_131 : mFetch 76 131 = some (.goto 4, 3, 135, 0, 0, 0) := by decide +kernel
theorem f76_134 : mFetch 76 134 = some (.lconst 0, 1, 0, 0, 0, 0) := by decide +kernel
theorem f76_135 : mFetch 76 135 = some (.lreturn, 1, 0, 0, 0, 0) := by decide +kernel
theorem f76_136 : mFetch 76 136 = some (.lload_n 1, 1, 0, 0, 0, 0) := by decide +kernel
theorem f76_137 : mFetch 76 137 = some (.lload_n 3, 1, 0, 0, 0, 0) := by decide +kernel
theorem f76_138 : mFetch 76 138 = some (.lcmp, 1, 0, 0, 0, 0) := by decide +kernel
theorem f76_139 : mFetch 76 139 = some (.ifCond .lt 7, 3, 146, 0, 0, 0) := by decide +kernel
theorem f76_142 : mFetch 76 142 = some (.lconst 1, 1, 0, 0, 0, 0) := by decide +kernel
theorem f76_143 : mFetch 76 143 = some (.goto 4, 3, 147, 0, 0, 0) := by decide +kernel
theorem f76_146 : mFetch 76 146 = some (.lconst 0, 1, 0, 0, 0, 0) := by decide +kernel
theorem f76_147 : mFetch 76 147 = some (.lreturn, 1, 0, 0, 0, 0) := by decide +kernel
theorem f76_148 : mFetch 76 148 = some (.lload_n 1, 1, 0, 0, 0, 0) := by decide +kernel
theorem f76_149 : mFetch 76 149 = some (.lload_n 3, 1, 0, 0, 0, 0) := by decide +kernel
theorem f76_150 : mFetch 76 150 = some (.lcmp, 1, 0, 0, 0, 0) := by decide +kernel
theorem f76_151 : mFetch 76 151 = some (.ifCond .le 7, 3, 158, 0, 0, 0) := by decide +kernel
theorem f76_154 : mFetch 76 154 = some (.lconst 1, 1, 0, 0, 0, 0) := by decide +kernel
theorem f76_155 : mFetch 76 155 = some (.goto 4, 3, 159, 0, 0, 0) := by decide +kernel
theorem f76_158 : mFetch 76 158 = some (.lconst 0, 1, 0, 0, 0, 0) := by decide +kernel
theorem f76_159 : mFetch 76 159 = some (.lreturn, 1, 0, 0, 0, 0) := by decide +kernel
theorem f76_160 : mFetch 76 160 = some (.lload_n 1, 1, 0, 0, 0, 0) := by decide +kernel
theorem f76_161 : mFetch 76 161 = some (.lload_n 3, 1, 0, 0, 0, 0) := by decide +kernel
theorem f76_162 : mFetch 76 162 = some (.land, 1, 0, 0, 0, 0) := by decide +kernel
theorem f76_163 : mFetch 76 163 = some (.lreturn, 1, 0, 0, 0, 0) := by decide +kernel
theorem f76_164 : mFetch 76 164 = some (.lload_n 1, 1, 0, 0, 0, 0) := by decide +kernel
theorem f76_165 : mFetch 76 165 = some (.lload_n 3, 1, 0, 0, 0, 0) := by decide +kernel
theorem f76_166 : mFetch 76 166 = some (.lor, 1, 0, 0, 0, 0) := by decide +kernel
theorem f76_167 : mFetch 76 167 = some (.lreturn, 1, 0, 0, 0, 0) := by decide +kernel
theorem b76_0 {X : (Nat → Int) × Nat} {d : Nat} {s : mSt} {Q : mQ} {x0 : Int} {x1 : Int} {l2 : Option mV} {x3 : Int} {l4 : Option mV} (h_1 : x0 = 200000 → Wp X d 76 60 [some (mI x0), some (mJ x1), l2, some (mJ x3), l4] [] s Q) (h_2 : x0 = 200001 → Wp X d 76 64 [some (mI x0), some (mJ x1), l2, some (mJ x3), l4] [] s Q) (h_3 : x0 = 200002 → Wp X d 76 68 [some (mI x0), some (mJ x1), l2, some (mJ x3), l4] [] s Q) (h_4 : x0 = 200003 → Wp X d 76 72 [some (mI x0), some (mJ x1), l2, some (mJ x3), l4] [] s Q) (h_5 : x0 = 200004 → Wp X d 76 86 [some (mI x0), some (mJ x1), l2, some (mJ x3), l4] [] s Q) (h_6 : x0 = 200005 → Wp X d 76 100 [some (mI x0), some (mJ x1), l2, some (mJ x3), l4] [] s Q) (h_7 : x0 = 200006 → Wp X d 76 112 [some (mI x0), some (mJ x1), l2, some (mJ x3), l4] [] s Q) (h_8 : x0 = 200007 → Wp X d 76 124 [some (mI x0), some (mJ x1), l2, some (mJ x3), l4] [] s Q) (h_9 : x0 = 200008 → Wp X d 76 136 [some (mI x0), some (mJ x1), l2, some (mJ x3), l4] [] s Q) (h_10 : x0 = 200009 → Wp X d 76 148 [some (mI x0), some (mJ x1), l2, some (mJ x3), l4] [] s Q) (h_11 : x0 = 200010 → Wp X d 76 160 [some (mI x0), some (mJ x1), l2, some (mJ x3), l4] [] s Q) (h_12 : ¬ x0 = 200000 → ¬ x0 = 200001 → ¬ x0 = 200002 → ¬ x0 = 200003 → ¬ x0 = 200004 → ¬ x0 = 200005 → ¬ x0 = 200006 → ¬ x0 = 200007 → ¬ x0 = 200008 → ¬ x0 = 200009 → ¬ x0 = 200010 → Wp X d 76 164 [some (mI x0), some (mJ x1), l2, some (mJ x3), l4] [] s Q) : Wp X d 76 0 [some (mI x0), some (mJ x1), l2, some (mJ x3), l4] [] s Q := Wp_step k76 f76_0 (Wp_step k76 f76_1 (by
    show Wp X d 76 (tT 1 163 200000 200010 #[59, 63, 67, 71, 85, 99, 111, 123, 135, 147, 159] x0) [some (mI x0), some (mJ x1), l2, some (mJ x3), l4] [] s Q
    by_cases q0 : x0 = 200000
    · have e : tT 1 163 200000 200010 #[59, 63, 67, 71, 85, 99, 111, 123, 135, 147, 159] x0 = 60 := by rw [q0]; decide +kernel
      rw [e]; exact h_1 q0
    by_cases q1 : x0 = 200001
    · have e : tT 1 163 200000 200010 #[59, 63, 67, 71, 85, 99, 111, 123, 135, 147, 159] x0 = 64 := by rw [q1]; decide +kernel
      rw [e]; exact h_2 q1
    by_cases q2 : x0 = 200002
    · have e : tT 1 163 200000 200010 #[59, 63, 67, 71, 85, 99, 111, 123, 135, 147, 159] x0 = 68 := by rw [q2]; decide +kernel
      rw [e]; exact h_3 q2
    by_cases q3 : x0 = 200003
    · have e : tT 1 163 200000 200010 #[59, 63, 67, 71, 85, 99, 111, 123, 135, 147, 159] x0 = 72 := by rw [q3]; decide +kernel
      rw [e]; exact h_4 q3
    by_cases q4 : x0 = 200004
    · have e : tT 1 163 200000 200010 #[59, 63, 67, 71, 85, 99, 111, 123, 135, 147, 159] x0 = 86 := by rw [q4]; decide +kernel
      rw [e]; exact h_5 q4
    by_cases q5 : x0 = 200005
    · have e : tT 1 163 200000 200010 #[59, 63, 67, 71, 85, 99, 111, 123, 135, 147, 159] x0 = 100 := by rw [q5]; decide +kernel
      rw [e]; exact h_6 q5
    by_cases q6 : x0 = 200006
    · have e : tT 1 163 200000 200010 #[59, 63, 67, 71, 85, 99, 111, 123, 135, 147, 159] x0 = 112 := by rw [q6]; decide +kernel
      rw [e]; exact h_7 q6
    by_cases q7 : x0 = 200007
    · have e : tT 1 163 200000 200010 #[59, 63, 67, 71, 85, 99, 111, 123, 135, 147, 159] x0 = 124 := by rw [q7]; decide +kernel
      rw [e]; exact h_8 q7
    by_cases q8 : x0 = 200008
    · have e : tT 1 163 200000 200010 #[59, 63, 67, 71, 85, 99, 111, 123, 135, 147, 159] x0 = 136 := by rw [q8]; decide +kernel
      rw [e]; exact h_9 q8
    by_cases q9 : x0 = 200009
    · have e : tT 1 163 200000 200010 #[59, 63, 67, 71, 85, 99, 111, 123, 135, 147, 159] x0 = 148 := by rw [q9]; decide +kernel
      rw [e]; exact h_10 q9
    by_cases q10 : x0 = 200010
    · have e : tT 1 163 200000 200010 #[59, 63, 67, 71, 85, 99, 111, 123, 135, 147, 159] x0 = 160 := by rw [q10]; decide +kernel
      rw [e]; exact h_11 q10
    have e : tT 1 163 200000 200010 #[59, 63, 67, 71, 85, 99, 111, 123, 135, 147, 159] x0 = 164 := by unfold tT; rw [if_pos (by omega)]; decide +kernel
    rw [e]; exact h_12 q0 q1 q2 q3 q4 q5 q6 q7 q8 q9 q10))
theorem b76_60 {X : (Nat → Int) × Nat} {d : Nat} {s : mSt} {Q : mQ} {x0 : Int} {x1 : Int} {l2 : Option mV} {x3 : Int} {l4 : Option mV} (h_1 : Q (some (mJ (w64 (x1 + x3)))) s) : Wp X d 76 60 [some (mI x0), some (mJ x1), l2, some (mJ x3), l4] [] s Q := Wp_step k76 f76_60 (Wp_step k76 f76_61 (Wp_step k76 f76_62 (Wp_step k76 f76_63 ⟨⟨rfl, rfl⟩, h_1⟩)))
theorem b76_64 {X : (Nat → Int) × Nat} {d : Nat} {s : mSt} {Q : mQ} {x0 : Int} {x1 : Int} {l2 : Option mV} {x3 : Int} {l4 : Option mV} (h_1 : Q (some (mJ (w64 (x1 - x3)))) s) : Wp X d 76 64 [some (mI x0), some (mJ x1), l2, some (mJ x3), l4] [] s Q := Wp_step k76 f76_64 (Wp_step k76 f76_65 (Wp_step k76 f76_66 (Wp_step k76 f76_67 ⟨⟨rfl, rfl⟩, h_1⟩)))
theorem b76_68 {X : (Nat → Int) × Nat} {d : Nat} {s : mSt} {Q : mQ} {x0 : Int} {x1 : Int} {l2 : Option mV} {x3 : Int} {l4 : Option mV} (h_1 : Q (some (mJ (w64 (x1 * x3)))) s) : Wp X d 76 68 [some (mI x0), some (mJ x1), l2, some (mJ x3), l4] [] s Q := Wp_step k76 f76_68 (Wp_step k76 f76_69 (Wp_step k76 f76_70 (Wp_step k76 f76_71 ⟨⟨rfl, rfl⟩, h_1⟩)))
theorem b76_72 {X : (Nat → Int) × Nat} {d : Nat} {s : mSt} {Q : mQ} {x0 : Int} {x1 : Int} {l2 : Option mV} {x3 : Int} {l4 : Option mV} (h_1 : ¬ (lCmp x3 0) = 0 → Wp X d 76 82 [some (mI x0), some (mJ x1), l2, some (mJ x3), l4] [] s Q) (h_2 : (lCmp x3 0) = 0 → Wp X d 76 78 [some (mI x0), some (mJ x1), l2, some (mJ x3), l4] [] s Q) : Wp X d 76 72 [some (mI x0), some (mJ x1), l2, some (mJ x3), l4] [] s Q := Wp_step k76 f76_72 (Wp_step k76 f76_73 (Wp_step k76 f76_74 (Wp_step k76 f76_75 ⟨h_1, h_2⟩)))
theorem b76_78 {X : (Nat → Int) × Nat} {d : Nat} {s : mSt} {Q : mQ} {x0 : Int} {x1 : Int} {l2 : Option mV} {x3 : Int} {l4 : Option mV} (h_1 : Wp X d 76 85 [some (mI x0), some (mJ x1), l2, some (mJ x3), l4] [mJ 0] s Q) : Wp X d 76 78 [some (mI x0), some (mJ x1), l2, some (mJ x3), l4] [] s Q := Wp_step k76 f76_78 (Wp_step k76 f76_79 (h_1))
theorem b76_82 {X : (Nat → Int) × Nat} {d : Nat} {s : mSt} {Q : mQ} {x0 : Int} {x1 : Int} {l2 : Option mV} {x3 : Int} {l4 : Option mV} (h_1 : x3 ≠ 0) (h_2 : Wp X d 76 85 [some (mI x0), some (mJ x1), l2, some (mJ x3), l4] [mJ (w64 (Int.tdiv x1 x3))] s Q) : Wp X d 76 82 [some (mI x0), some (mJ x1), l2, some (mJ x3), l4] [] s Q := Wp_step k76 f76_82 (Wp_step k76 f76_83 (Wp_step k76 f76_84 ⟨h_1, h_2⟩))
theorem b76_85 {X : (Nat → Int) × Nat} {d : Nat} {s : mSt} {Q : mQ} {x0 : Int} {x1 : Int} {l2 : Option mV} {x3 : Int} {l4 : Option mV} {xt0 : Int} (h_1 : Q (some (mJ xt0)) s) : Wp X d 76 85 [some (mI x0), some (mJ x1), l2, some (mJ x3), l4] [mJ xt0] s Q := Wp_step k76 f76_85 ⟨⟨rfl, rfl⟩, h_1⟩
theorem b76_86 {X : (Nat → Int) × Nat} {d : Nat} {s : mSt} {Q : mQ} {x0 : Int} {x1 : Int} {l2 : Option mV} {x3 : Int} {l4 : Option mV} (h_1 : ¬ (lCmp x3 0) = 0 → Wp X d 76 96 [some (mI x0), some (mJ x1), l2, some (mJ x3), l4] [] s Q) (h_2 : (lCmp x3 0) = 0 → Wp X d 76 92 [some (mI x0), some (mJ x1), l2, some (mJ x3), l4] [] s Q) : Wp X d 76 86 [some (mI x0), some (mJ x1), l2, some (mJ x3), l4] [] s Q := Wp_step k76 f76_86 (Wp_step k76 f76_87 (Wp_step k76 f76_88 (Wp_step k76 f76_89 ⟨h_1, h_2⟩)))
theorem b76_92 {X : (Nat → Int) × Nat} {d : Nat} {s : mSt} {Q : mQ} {x0 : Int} {x1 : Int} {l2 : Option mV} {x3 : Int} {l4 : Option mV} (h_1 : Wp X d 76 99 [some (mI x0), some (mJ x1), l2, some (mJ x3), l4] [mJ 0] s Q) : Wp X d 76 92 [some (mI x0), some (mJ x1), l2, some (mJ x3), l4] [] s Q := Wp_step k76 f76_92 (Wp_step k76 f76_93 (h_1))
theorem b76_96 {X : (Nat → Int) × Nat} {d : Nat} {s : mSt} {Q : mQ} {x0 : Int} {x1 : Int} {l2 : Option mV} {x3 : Int} {l4 : Option mV} (h_1 : x3 ≠ 0) (h_2 : Wp X d 76 99 [some (mI x0), some (mJ x1), l2, some (mJ x3), l4] [mJ (Int.tmod x1 x3)] s Q) : Wp X d 76 96 [some (mI x0), some (mJ x1), l2, some (mJ x3), l4] [] s Q := Wp_step k76 f76_96 (Wp_step k76 f76_97 (Wp_step k76 f76_98 ⟨h_1, h_2⟩))
theorem b76_99 {X : (Nat → Int) × Nat} {d : Nat} {s : mSt} {Q : mQ} {x0 : Int} {x1 : Int} {l2 : Option mV} {x3 : Int} {l4 : Option mV} {xt0 : Int} (h_1 : Q (some (mJ xt0)) s) : Wp X d 76 99 [some (mI x0), some (mJ x1), l2, some (mJ x3), l4] [mJ xt0] s Q := Wp_step k76 f76_99 ⟨⟨rfl, rfl⟩, h_1⟩
theorem b76_100 {X : (Nat → Int) × Nat} {d : Nat} {s : mSt} {Q : mQ} {x0 : Int} {x1 : Int} {l2 : Option mV} {x3 : Int} {l4 : Option mV} (h_1 : 0 ≤ (lCmp x1 x3) → Wp X d 76 110 [some (mI x0), some (mJ x1), l2, some (mJ x3), l4] [] s Q) (h_2 : ¬ 0 ≤ (lCmp x1 x3) → Wp X d 76 106 [some (mI x0), some (mJ x1), l2, some (mJ x3), l4] [] s Q) : Wp X d 76 100 [some (mI x0), some (mJ x1), l2, some (mJ x3), l4] [] s Q := Wp_step k76 f76_100 (Wp_step k76 f76_101 (Wp_step k76 f76_102 (Wp_step k76 f76_103 ⟨h_1, h_2⟩)))
theorem b76_106 {X : (Nat → Int) × Nat} {d : Nat} {s : mSt} {Q : mQ} {x0 : Int} {x1 : Int} {l2 : Option mV} {x3 : Int} {l4 : Option mV} (h_1 : Wp X d 76 111 [some (mI x0), some (mJ x1), l2, some (mJ x3), l4] [mJ 1] s Q) : Wp X d 76 106 [some (mI x0), some (mJ x1), l2, some (mJ x3), l4] [] s Q := Wp_step k76 f76_106 (Wp_step k76 f76_107 (h_1))
theorem b76_110 {X : (Nat → Int) × Nat} {d : Nat} {s : mSt} {Q : mQ} {x0 : Int} {x1 : Int} {l2 : Option mV} {x3 : Int} {l4 : Option mV} (h_1 : Wp X d 76 111 [some (mI x0), some (mJ x1), l2, some (mJ x3), l4] [mJ 0] s Q) : Wp X d 76 110 [some (mI x0), some (mJ x1), l2, some (mJ x3), l4] [] s Q := Wp_step k76 f76_110 (h_1)
theorem b76_111 {X : (Nat → Int) × Nat} {d : Nat} {s : mSt} {Q : mQ} {x0 : Int} {x1 : Int} {l2 : Option mV} {x3 : Int} {l4 : Option mV} {xt0 : Int} (h_1 : Q (some (mJ xt0)) s) : Wp X d 76 111 [some (mI x0), some (mJ x1), l2, some (mJ x3), l4] [mJ xt0] s Q := Wp_step k76 f76_111 ⟨⟨rfl, rfl⟩, h_1⟩
theorem b76_112 {X : (Nat → Int) × Nat} {d : Nat} {s : mSt} {Q : mQ} {x0 : Int} {x1 : Int} {l2 : Option mV} {x3 : Int} {l4 : Option mV} (h_1 : 0 < (lCmp x1 x3) → Wp X d 76 122 [some (mI x0), some (mJ x1), l2, some (mJ x3), l4] [] s Q) (h_2 : ¬ 0 < (lCmp x1 x3) → Wp X d 76 118 [some (mI x0), some (mJ x1), l2, some (mJ x3), l4] [] s Q) : Wp X d 76 112 [some (mI x0), some (mJ x1), l2, some (mJ x3), l4] [] s Q := Wp_step k76 f76_112 (Wp_step k76 f76_113 (Wp_step k76 f76_114 (Wp_step k76 f76_115 ⟨h_1, h_2⟩)))
theorem b76_118 {X : (Nat → Int) × Nat} {d : Nat} {s : mSt} {Q : mQ} {x0 : Int} {x1 : Int} {l2 : Option mV} {x3 : Int} {l4 : Option mV} (h_1 : Wp X d 76 123 [some (mI x0), some (mJ x1), l2, some (mJ x3), l4] [mJ 1] s Q) : Wp X d 76 118 [some (mI x0), some (mJ x1), l2, some (mJ x3), l4] [] s Q := Wp_step k76 f76_118 (Wp_step k76 f76_119 (h_1))
theorem b76_122 {X : (Nat → Int) × Nat} {d : Nat} {s : mSt} {Q : mQ} {x0 : Int} {x1 : Int} {l2 : Option mV} {x3 : Int} {l4 : Option mV} (h_1 : Wp X d 76 123 [some (mI x0), some (mJ x1), l2, some (mJ x3), l4] [mJ 0] s Q) : Wp X d 76 122 [some (mI x0), some (mJ x1), l2, some (mJ x3), l4] [] s Q := Wp_step k76 f76_122 (h_1)
theorem b76_123 {X : (Nat → Int) × Nat} {d : Nat} {s : mSt} {Q : mQ} {x0 : Int} {x1 : Int} {l2 : Option mV} {x3 : Int} {l4 : Option mV} {xt0 : Int} (h_1 : Q (some (mJ xt0)) s) : Wp X d 76 123 [some (mI x0), some (mJ x1), l2, some (mJ x3), l4] [mJ xt0] s Q := Wp_step k76 f76_123 ⟨⟨rfl, rfl⟩, h_1⟩
theorem b76_124 {X : (Nat → Int) × Nat} {d : Nat} {s : mSt} {Q : mQ} {x0 : Int} {x1 : Int} {l2 : Option mV} {x3 : Int} {l4 : Option mV} (h_1 : ¬ (lCmp x1 x3) = 0 → Wp X d 76 134 [some (mI x0), some (mJ x1), l2, some (mJ x3), l4] [] s Q) (h_2 : (lCmp x1 x3) = 0 → Wp X d 76 130 [some (mI x0), some (mJ x1), l2, some (mJ x3), l4] [] s Q) : Wp X d 76 124 [some (mI x0), some (mJ x1), l2, some (mJ x3), l4] [] s Q := Wp_step k76 f76_124 (Wp_step k76 f76_125 (Wp_step k76 f76_126 (Wp_step k76 f76_127 ⟨h_1, h_2⟩)))
theorem b76_130 {X : (Nat → Int) × Nat} {d : Nat} {s : mSt} {Q : mQ} {x0 : Int} {x1 : Int} {l2 : Option mV} {x3 : Int} {l4 : Option mV} (h_1 : Wp X d 76 135 [some (mI x0), some (mJ x1), l2, some (mJ x3), l4] [mJ 1] s Q) : Wp X d 76 130 [some (mI x0), some (mJ x1), l2, some (mJ x3), l4] [] s Q := Wp_step k76 f76_130 (Wp_step k76 f76_131 (h_1))
theorem b76_134 {X : (Nat → Int) × Nat} {d : Nat} {s : mSt} {Q : mQ} {x0 : Int} {x1 : Int} {l2 : Option mV} {x3 : Int} {l4 : Option mV} (h_1 : Wp X d 76 135 [some (mI x0), some (mJ x1), l2, some (mJ x3), l4] [mJ 0] s Q) : Wp X d 76 134 [some (mI x0), some (mJ x1), l2, some (mJ x3), l4] [] s Q := Wp_step k76 f76_134 (h_1)
theorem b76_135 {X : (Nat → Int) × Nat} {d : Nat} {s : mSt} {Q : mQ} {x0 : Int} {x1 : Int} {l2 : Option mV} {x3 : Int} {l4 : Option mV} {xt0 : Int} (h_1 : Q (some (mJ xt0)) s) : Wp X d 76 135 [some (mI x0), some (mJ x1), l2, some (mJ x3), l4] [mJ xt0] s Q := Wp_step k76 f76_135 ⟨⟨rfl, rfl⟩, h_1⟩
theorem b76_136 {X : (Nat → Int) × Nat} {d : Nat} {s : mSt} {Q : mQ} {x0 : Int} {x1 : Int} {l2 : Option mV} {x3 : Int} {l4 : Option mV} (h_1 : (lCmp x1 x3) < 0 → Wp X d 76 146 [some (mI x0), some (mJ x1), l2, some (mJ x3), l4] [] s Q) (h_2 : ¬ (lCmp x1 x3) < 0 → Wp X d 76 142 [some (mI x0), some (mJ x1), l2, some (mJ x3), l4] [] s Q) : Wp X d 76 136 [some (mI x0), some (mJ x1), l2, some (mJ x3), l4] [] s Q := Wp_step k76 f76_136 (Wp_step k76 f76_137 (Wp_step k76 f76_138 (Wp_step k76 f76_139 ⟨h_1, h_2⟩)))
theorem b76_142 {X : (Nat → Int) × Nat} {d : Nat} {s : mSt} {Q : mQ} {x0 : Int} {x1 : Int} {l2 : Option mV} {x3 : Int} {l4 : Option mV} (h_1 : Wp X d 76 147 [some (mI x0), some (mJ x1), l2, some (mJ x3), l4] [mJ 1] s Q) : Wp X d 76 142 [some (mI x0), some (mJ x1), l2, some (mJ x3), l4] [] s Q := Wp_step k76 f76_142 (Wp_step k76 f76_143 (h_1))
theorem b76_146 {X : (Nat → Int) × Nat} {d : Nat} {s : mSt} {Q : mQ} {x0 : Int} {x1 : Int} {l2 : Option mV} {x3 : Int} {l4 : Option mV} (h_1 : Wp X d 76 147 [some (mI x0), some (mJ x1), l2, some (mJ x3), l4] [mJ 0] s Q) : Wp X d 76 146 [some (mI x0), some (mJ x1), l2, some (mJ x3), l4] [] s Q := Wp_step k76 f76_146 (h_1)
theorem b76_147 {X : (Nat → Int) × Nat} {d : Nat} {s : mSt} {Q : mQ} {x0 : Int} {x1 : Int} {l2 : Option mV} {x3 : Int} {l4 : Option mV} {xt0 : Int} (h_1 : Q (some (mJ xt0)) s) : Wp X d 76 147 [some (mI x0), some (mJ x1), l2, some (mJ x3), l4] [mJ xt0] s Q := Wp_step k76 f76_147 ⟨⟨rfl, rfl⟩, h_1⟩
theorem b76_148 {X : (Nat → Int) × Nat} {d : Nat} {s : mSt} {Q : mQ} {x0 : Int} {x1 : Int} {l2 : Option mV} {x3 : Int} {l4 : Option mV} (h_1 : (lCmp x1 x3) ≤ 0 → Wp X d 76 158 [some (mI x0), some (mJ x1), l2, some (mJ x3), l4] [] s Q) (h_2 : ¬ (lCmp x1 x3) ≤ 0 → Wp X d 76 154 [some (mI x0), some (mJ x1), l2, some (mJ x3), l4] [] s Q) : Wp X d 76 148 [some (mI x0), some (mJ x1), l2, some (mJ x3), l4] [] s Q := Wp_step k76 f76_148 (Wp_step k76 f76_149 (Wp_step k76 f76_150 (Wp_step k76 f76_151 ⟨h_1, h_2⟩)))
theorem b76_154 {X : (Nat → Int) × Nat} {d : Nat} {s : mSt} {Q : mQ} {x0 : Int} {x1 : Int} {l2 : Option mV} {x3 : Int} {l4 : Option mV} (h_1 : Wp X d 76 159 [some (mI x0), some (mJ x1), l2, some (mJ x3), l4] [mJ 1] s Q) : Wp X d 76 154 [some (mI x0), some (mJ x1), l2, some (mJ x3), l4] [] s Q := Wp_step k76 f76_154 (Wp_step k76 f76_155 (h_1))
theorem b76_158 {X : (Nat → Int) × Nat} {d : Nat} {s : mSt} {Q : mQ} {x0 : Int} {x1 : Int} {l2 : Option mV} {x3 : Int} {l4 : Option mV} (h_1 : Wp X d 76 159 [some (mI x0), some (mJ x1), l2, some (mJ x3), l4] [mJ 0] s Q) : Wp X d 76 158 [some (mI x0), some (mJ x1), l2, some (mJ x3), l4] [] s Q := Wp_step k76 f76_158 (h_1)
theorem b76_159 {X : (Nat → Int) × Nat} {d : Nat} {s : mSt} {Q : mQ} {x0 : Int} {x1 : Int} {l2 : Option mV} {x3 : Int} {l4 : Option mV} {xt0 : Int} (h_1 : Q (some (mJ xt0)) s) : Wp X d 76 159 [some (mI x0), some (mJ x1), l2, some (mJ x3), l4] [mJ xt0] s Q := Wp_step k76 f76_159 ⟨⟨rfl, rfl⟩, h_1⟩
theorem b76_160 {X : (Nat → Int) × Nat} {d : Nat} {s : mSt} {Q : mQ} {x0 : Int} {x1 : Int} {l2 : Option mV} {x3 : Int} {l4 : Option mV} (h_1 : Q (some (mJ (lAnd x1 x3))) s) : Wp X d 76 160 [some (mI x0), some (mJ x1), l2, some (mJ x3), l4] [] s Q := Wp_step k76 f76_160 (Wp_step k76 f76_161 (Wp_step k76 f76_162 (Wp_step k76 f76_163 ⟨⟨rfl, rfl⟩, h_1⟩)))
theorem b76_164 {X : (Nat → Int) × Nat} {d : Nat} {s : mSt} {Q : mQ} {x0 : Int} {x1 : Int} {l2 : Option mV} {x3 : Int} {l4 : Option mV} (h_1 : Q (some (mJ (lOr x1 x3))) s) : Wp X d 76 164 [some (mI x0), some (mJ x1), l2, some (mJ x3), l4] [] s Q := Wp_step k76 f76_164 (Wp_step k76 f76_165 (Wp_step k76 f76_166 (Wp_step k76 f76_167 ⟨⟨rfl, rfl⟩, h_1⟩)))
theorem e76 {X : (Nat → Int) × Nat} {d : Nat} {s : mSt} {Q : mQ} {x0 : Int} {x1 : Int} {x3 : Int} (h : Wp X d 76 0 [some (mI x0), some (mJ x1), none, some (mJ x3), none] [] s Q) : Sp X d 76 [mI x0, mJ x1, mJ x3] s Q := Sp_of (show mCe 76 = 0 by decide +kernel) (by rw [show mML 76 = 5 by decide +kernel]; rfl) (Nat.le_trans (Nat.le_of_ble_eq_true (show Nat.ble (mArgs _).length 5 = true from rfl)) (show 5 ≤ mML 76 by decide +kernel)) h
-- 78 ClashDay$RuleReader.read(LClashDay$Rule;)I
theorem k78 : mRk 78 = 1 := by decide +kernel
theorem f78_0 : mFetch 78 0 = some (.aload_n 0, 1, 0, 0, 0, 0) := by decide +kernel
theorem f78_1 : mFetch 78 1 = some (.getfield 9, 3, 6, 0, 2, 1) := by decide +kernel
theorem f78_4 : mFetch 78 4 = some (.invokevirtual 15, 3, 89, 0, 1, 8) := by decide +kernel
theorem f78_7 : mFetch 78 7 = some (.aload_n 1, 1, 0, 0, 0, 0) := by decide +kernel
theorem f78_8 : mFetch 78 8 = some (.invokevirtual 20, 3, 71, 0, 1, 5) := by decide +kernel
theorem f78_11 : mFetch 78 11 = some (.aload_n 0, 1, 0, 0, 0, 0) := by decide +kernel
theorem f78_12 : mFetch 78 12 = some (.iconst 0, 1, 0, 0, 0, 0) := by decide +kernel
theorem f78_13 : mFetch 78 13 = some (.putfield 25, 3, 6, 1, 0, 1) := by decide +kernel
theorem f78_16 : mFetch 78 16 = some (.iconst 0, 1, 0, 0, 0, 0) := by decide +kernel
theorem f78_17 : mFetch 78 17 = some (.istore_n 2, 1, 0, 0, 0, 0) := by decide +kernel
theorem f78_18 : mFetch 78 18 = some (.iload_n 2, 1, 0, 0, 0, 0) := by decide +kernel
theorem f78_19 : mFetch 78 19 = some (.bipush 12, 2, 0, 0, 0, 0) := by decide +kernel
theorem f78_21 : mFetch 78 21 = some (.if_icmp .gt 31, 3, 52, 0, 0, 0) := by decide +kernel
theorem f78_24 : mFetch 78 24 = some (.aload_n 0, 1, 0, 0, 0, 0) := by decide +kernel
theorem f78_25 : mFetch 78 25 = some (.aload_n 1, 1, 0, 0, 0, 0) := by decide +kernel
theorem f78_26 : mFetch 78 26 = some (.iload_n 2, 1, 0, 0, 0, 0) := by decide +kernel
theorem f78_27 : mFetch 78 27 = some (.invokevirtual 29, 3, 79, 0, 3, 6) := by decide +kernel
theorem f78_30 : mFetch 78 30 = some (.ifCond .eq 22, 3, 52, 0, 0, 0) := by decide +kernel
theorem f78_33 : mFetch 78 33 = some (.aload_n 0, 1, 0, 0, 0, 0) := by decide +kernel
theorem f78_34 : mFetch 78 34 = some (.getfield 9, 3, 6, 0, 2, 1) := by decide +kernel
theorem f78_37 : mFetch 78 37 = some (.invokevirtual 33, 3, 93, 0, 1, 8) := by decide +kernel
theorem f78_40 : mFetch 78 40 = some (.ifCond .ne 6, 3, 46, 0, 0, 0) := by decide +kernel
theorem f78_43 : mFetch 78 43 = some (.goto 9, 3, 52, 0, 0, 0) := by decide +kernel
theorem f78_46 : mFetch 78 46 = some (.iinc 2 1, 3, 0, 0, 0, 0) := by decide +kernel
theorem f78_49 : mFetch 78 49 = some (.goto (-31), 3, 18, 0, 0, 0) := by decide +kernel
theorem f78_52 : mFetch 78 52 = some (.aload_n 0, 1, 0, 0, 0, 0) := by decide +kernel
theorem f78_53 : mFetch 78 53 = some (.getfield 9, 3, 6, 0, 2, 1) := by decide +kernel
theorem f78_56 : mFetch 78 56 = some (.getfield 37, 3, 8, 6, 0, 0) := by decide +kernel
theorem f78_59 : mFetch 78 59 = some (.ireturn, 1, 0, 0, 0, 0) := by decide +kernel
theorem b78_0 {X : (Nat → Int) × Nat} {d : Nat} {s : mSt} {Q : mQ} {a1 : Nat} {l2 : Option mV} (h1 : isRl a1) (h_1 : Sp X d 89 [mR 1] s (fun r s' => r = none ∧ Wp X (d + 1) 78 7 [some (mR 5), some (mR a1), l2] [] s' Q)) : Wp X (d + 1) 78 0 [some (mR 5), some (mR a1), l2] [] s Q := Wp_step k78 f78_0 (Wp_step k78 f78_1 ⟨kf_5, 1, rf_5_0, Wp_step k78 f78_4 ⟨⟨kf_1, Nat.le_of_ble_eq_true rfl⟩, Nat.le_refl _, _, rfl, Sp_V h_1⟩⟩)
theorem b78_7 {X : (Nat → Int) × Nat} {d : Nat} {s : mSt} {Q : mQ} {a1 : Nat} {l2 : Option mV} (h1 : isRl a1) (h_1 : Sp X d 71 [mR a1] s (fun r s' => r = none ∧ Wp X (d + 1) 78 11 [some (mR 5), some (mR a1), l2] [] s' Q)) : Wp X (d + 1) 78 7 [some (mR 5), some (mR a1), l2] [] s Q := Wp_step k78 f78_7 (Wp_step k78 f78_8 ⟨⟨(rl_k h1), Nat.le_of_ble_eq_true rfl⟩, Nat.le_refl _, _, rfl, Sp_V h_1⟩)
theorem b78_11 {X : (Nat → Int) × Nat} {d : Nat} {s : mSt} {Q : mQ} {a1 : Nat} {l2 : Option mV} (h1 : isRl a1) (h_1 : Wp X d 78 18 [some (mR 5), some (mR a1), some (mI 0)] [] (uS s 5 1 0) Q) : Wp X d 78 11 [some (mR 5), some (mR a1), l2] [] s Q := Wp_step k78 f78_11 (Wp_step k78 f78_12 (Wp_step k78 f78_13 ⟨kf_5, Wp_step k78 f78_16 (Wp_step k78 f78_17 (h_1))⟩))
theorem b78_18 {X : (Nat → Int) × Nat} {d : Nat} {s : mSt} {Q : mQ} {a1 : Nat} {x2 : Int} (h1 : isRl a1) (h_1 : 12 < x2 → Wp X d 78 52 [some (mR 5), some (mR a1), some (mI x2)] [] s Q) (h_2 : ¬ 12 < x2 → Wp X d 78 24 [some (mR 5), some (mR a1), some (mI x2)] [] s Q) : Wp X d 78 18 [some (mR 5), some (mR a1), some (mI x2)] [] s Q := Wp_step k78 f78_18 (Wp_step k78 f78_19 (Wp_step k78 f78_21 ⟨h_1, h_2⟩))
theorem b78_24 {X : (Nat → Int) × Nat} {d : Nat} {s : mSt} {Q : mQ} {a1 : Nat} {x2 : Int} (h1 : isRl a1) (h_1 : Sp X d 79 [mR 5, mR a1, mI x2] s (fun r s' => ∃ v : Int, r = some (mI v) ∧ Wp X (d + 1) 78 30 [some (mR 5), some (mR a1), some (mI x2)] [mI v] s' Q)) : Wp X (d + 1) 78 24 [some (mR 5), some (mR a1), some (mI x2)] [] s Q := Wp_step k78 f78_24 (Wp_step k78 f78_25 (Wp_step k78 f78_26 (Wp_step k78 f78_27 ⟨⟨kf_5, Nat.le_of_ble_eq_true rfl⟩, Nat.le_refl _, _, rfl, Sp_E h_1⟩)))
theorem b78_30 {X : (Nat → Int) × Nat} {d : Nat} {s : mSt} {Q : mQ} {a1 : Nat} {x2 : Int} {xt0 : Int} (h1 : isRl a1) (h_1 : xt0 = 0 → Wp X d 78 52 [some (mR 5), some (mR a1), some (mI x2)] [] s Q) (h_2 : ¬ xt0 = 0 → Wp X d 78 33 [some (mR 5), some (mR a1), some (mI x2)] [] s Q) : Wp X d 78 30 [some (mR 5), some (mR a1), some (mI x2)] [mI xt0] s Q := Wp_step k78 f78_30 ⟨h_1, h_2⟩
theorem b78_33 {X : (Nat → Int) × Nat} {d : Nat} {s : mSt} {Q : mQ} {a1 : Nat} {x2 : Int} (h1 : isRl a1) (h_1 : Sp X d 93 [mR 1] s (fun r s' => ∃ v : Int, r = some (mI v) ∧ Wp X (d + 1) 78 40 [some (mR 5), some (mR a1), some (mI x2)] [mI v] s' Q)) : Wp X (d + 1) 78 33 [some (mR 5), some (mR a1), some (mI x2)] [] s Q := Wp_step k78 f78_33 (Wp_step k78 f78_34 ⟨kf_5, 1, rf_5_0, Wp_step k78 f78_37 ⟨⟨kf_1, Nat.le_of_ble_eq_true rfl⟩, Nat.le_refl _, _, rfl, Sp_E h_1⟩⟩)
theorem b78_40 {X : (Nat → Int) × Nat} {d : Nat} {s : mSt} {Q : mQ} {a1 : Nat} {x2 : Int} {xt0 : Int} (h1 : isRl a1) (h_1 : ¬ xt0 = 0 → Wp X d 78 46 [some (mR 5), some (mR a1), some (mI x2)] [] s Q) (h_2 : xt0 = 0 → Wp X d 78 43 [some (mR 5), some (mR a1), some (mI x2)] [] s Q) : Wp X d 78 40 [some (mR 5), some (mR a1), some (mI x2)] [mI xt0] s Q := Wp_step k78 f78_40 ⟨h_1, h_2⟩
theorem b78_43 {X : (Nat → Int) × Nat} {d : Nat} {s : mSt} {Q : mQ} {a1 : Nat} {x2 : Int} (h1 : isRl a1) (h_1 : Wp X d 78 52 [some (mR 5), some (mR a1), some (mI x2)] [] s Q) : Wp X d 78 43 [some (mR 5), some (mR a1), some (mI x2)] [] s Q := Wp_step k78 f78_43 (h_1)
theorem b78_46 {X : (Nat → Int) × Nat} {d : Nat} {s : mSt} {Q : mQ} {a1 : Nat} {x2 : Int} (h1 : isRl a1) (h_1 : Wp X d 78 18 [some (mR 5), some (mR a1), some (mI (w32 (x2 + 1)))] [] s Q) : Wp X d 78 46 [some (mR 5), some (mR a1), some (mI x2)] [] s Q := Wp_step k78 f78_46 (Wp_step k78 f78_49 (h_1))
theorem b78_52 {X : (Nat → Int) × Nat} {d : Nat} {s : mSt} {Q : mQ} {a1 : Nat} {x2 : Int} (h1 : isRl a1) (h_1 : Q (some (mI (s 1 6))) s) : Wp X d 78 52 [some (mR 5), some (mR a1), some (mI x2)] [] s Q := Wp_step k78 f78_52 (Wp_step k78 f78_53 ⟨kf_5, 1, rf_5_0, Wp_step k78 f78_56 ⟨kf_1, Wp_step k78 f78_59 ⟨⟨rfl, trivial⟩, h_1⟩⟩⟩)
theorem e78 {X : (Nat → Int) × Nat} {d : Nat} {s : mSt} {Q : mQ} {a1 : Nat} (h : Wp X d 78 0 [some (mR 5), some (mR a1), none] [] s Q) : Sp X d 78 [mR 5, mR a1] s Q := Sp_of (show mCe 78 = 0 by decide +kernel) (by rw [show mML 78 = 3 by decide +kernel]; rfl) (Nat.le_trans (Nat.le_of_ble_eq_true (show Nat.ble (mArgs _).length 3 = true from rfl)) (show 3 ≤ mML 78 by decide +kernel)) h
