-- 281 ClashDayModel.best(I)I
theorem k281 : mRk 281 = 1 := by decide +kernel
theorem f281_0 : mFetch 281 0 = some (.aload_n 0, 1, 0, 0, 0, 0) := by decide +kernel
theorem f281_1 : mFetch 281 1 = some (.invokevirtual 354, 3, 212, 0, 1, 12) := by decide +kernel
theorem f281_4 : mFetch 281 4 = some (.ifCond .eq 15, 3, 19, 0, 0, 0) := by decide +kernel
theorem f281_7 : mFetch 281 7 = some (.iload_n 1, 1, 0, 0, 0, 0) := by decide +kernel
theorem f281_8 : mFetch 281 8 = some (.i2l, 1, 0, 0, 0, 0) := by decide +kernel
theorem f281_9 : mFetch 281 9 = some (.lconst 0, 1, 0, 0, 0, 0) := by decide +kernel
theorem f281_10 : mFetch 281 10 = some (.ldc2_w 500, 3, 5, 0, 0, 0) := by decide +kernel
theorem f281_13 : mFetch 281 13 = some (.invokestatic 151, 3, 167, 0, 3, 99) := by decide +kernel
theorem f281_16 : mFetch 281 16 = some (.ifCond .ne 6, 3, 22, 0, 0, 0) := by decide +kernel
theorem f281_19 : mFetch 281 19 = some (.bipush (-2), 2, 0, 0, 0, 0) := by decide +kernel
theorem f281_21 : mFetch 281 21 = some (.ireturn, 1, 0, 0, 0, 0) := by decide +kernel
theorem f281_22 : mFetch 281 22 = some (.aload_n 0, 1, 0, 0, 0, 0) := by decide +kernel
theorem f281_23 : mFetch 281 23 = some (.iconst 0, 1, 0, 0, 0, 0) := by decide +kernel
theorem f281_24 : mFetch 281 24 = some (.putfield 488, 3, 12, 47, 0, 1) := by decide +kernel
theorem f281_27 : mFetch 281 27 = some (.iconst 0, 1, 0, 0, 0, 0) := by decide +kernel
theorem f281_28 : mFetch 281 28 = some (.istore_n 2, 1, 0, 0, 0, 0) := by decide +kernel
theorem f281_29 : mFetch 281 29 = some (.iload_n 2, 1, 0, 0, 0, 0) := by decide +kernel
theorem f281_30 : mFetch 281 30 = some (.aload_n 0, 1, 0, 0, 0, 0) := by decide +kernel
theorem f281_31 : mFetch 281 31 = some (.getfield 39, 3, 12, 20, 2, 1) := by decide +kernel
theorem f281_34 : mFetch 281 34 = some (.iconst 4, 1, 0, 0, 0, 0) := by decide +kernel
theorem f281_35 : mFetch 281 35 = some (.iaload, 1, 0, 0, 0, 0) := by decide +kernel
theorem f281_36 : mFetch 281 36 = some (.if_icmp .ge 48, 3, 84, 0, 0, 0) := by decide +kernel
theorem f281_39 : mFetch 281 39 = some (.aload_n 0, 1, 0, 0, 0, 0) := by decide +kernel
theorem f281_40 : mFetch 281 40 = some (.getfield 488, 3, 12, 47, 0, 1) := by decide +kernel
theorem f281_43 : mFetch 281 43 = some (.iconst 4, 1, 0, 0, 0, 0) := by decide +kernel
theorem f281_44 : mFetch 281 44 = some (.if_icmp .ge 40, 3, 84, 0, 0, 0) := by decide +kernel
theorem f281_47 : mFetch 281 47 = some (.aload_n 0, 1, 0, 0, 0, 0) := by decide +kernel
theorem f281_48 : mFetch 281 48 = some (.iload_n 2, 1, 0, 0, 0, 0) := by decide +kernel
theorem f281_49 : mFetch 281 49 = some (.invokevirtual 328, 3, 215, 0, 2, 12) := by decide +kernel
theorem f281_52 : mFetch 281 52 = some (.ifCond .ne 6, 3, 58, 0, 0, 0) := by decide +kernel
theorem f281_55 : mFetch 281 55 = some (.goto 23, 3, 78, 0, 0, 0) := by decide +kernel
theorem f281_58 : mFetch 281 58 = some (.aload_n 0, 1, 0, 0, 0, 0) := by decide +kernel
theorem f281_59 : mFetch 281 59 = some (.getfield 82, 3, 12, 44, 2, 1) := by decide +kernel
theorem f281_62 : mFetch 281 62 = some (.aload_n 0, 1, 0, 0, 0, 0) := by decide +kernel
theorem f281_63 : mFetch 281 63 = some (.getfield 488, 3, 12, 47, 0, 1) := by decide +kernel
theorem f281_66 : mFetch 281 66 = some (.iload_n 2, 1, 0, 0, 0, 0) := by decide +kernel
theorem f281_67 : mFetch 281 67 = some (.iastore, 1, 0, 0, 0, 0) := by decide +kernel
theorem f281_68 : mFetch 281 68 = some (.aload_n 0, 1, 0, 0, 0, 0) := by decide +kernel
theorem f281_69 : mFetch 281 69 = some (.dup, 1, 0, 0, 0, 0) := by decide +kernel
theorem f281_70 : mFetch 281 70 = some (.getfield 488, 3, 12, 47, 0, 1) := by decide +kernel
theorem f281_73 : mFetch 281 73 = some (.iconst 1, 1, 0, 0, 0, 0) := by decide +kernel
theorem f281_74 : mFetch 281 74 = some (.iadd, 1, 0, 0, 0, 0) := by decide +kernel
theorem f281_75 : mFetch 281 75 = some (.putfield 488, 3, 12, 47, 0, 1) := by decide +kernel
theorem f281_78 : mFetch 281 78 = some (.iinc 2 1, 3, 0, 0, 0, 0) := by decide +kernel
theorem f281_81 : mFetch 281 81 = some (.goto (-52), 3, 29, 0, 0, 0) := by decide +kernel
theorem f281_84 : mFetch 281 84 = some (.aload_n 0, 1, 0, 0, 0, 0) := by decide +kernel
theorem f281_85 : mFetch 281 85 = some (.iconst (-1), 1, 0, 0, 0, 0) := by decide +kernel
theorem f281_86 : mFetch 281 86 = some (.putfield 494, 3, 12, 48, 0, 1) := by decide +kernel
theorem f281_89 : mFetch 281 89 = some (.aload_n 0, 1, 0, 0, 0, 0) := by decide +kernel
theorem f281_90 : mFetch 281 90 = some (.invokevirtual 502, 3, 277, 0, 1, 12) := by decide +kernel
theorem f281_93 : mFetch 281 93 = some (.iconst 0, 1, 0, 0, 0, 0) := by decide +kernel
theorem f281_94 : mFetch 281 94 = some (.istore_n 2, 1, 0, 0, 0, 0) := by decide +kernel
theorem f281_95 : mFetch 281 95 = some (.iload_n 2, 1, 0, 0, 0, 0) := by decide +kernel
theorem f281_96 : mFetch 281 96 = some (.aload_n 0, 1, 0, 0, 0, 0) := by decide +kernel
theorem f281_97 : mFetch 281 97 = some (.getfield 488, 3, 12, 47, 0, 1) := by decide +kernel
theorem f281_100 : mFetch 281 100 = some (.invokestatic 365, 3, 233, 0, 1, 99) := by decide +kernel
theorem f281_103 : mFetch 281 103 = some (.if_icmp .ge 18, 3, 121, 0, 0, 0) := by decide +kernel
theorem f281_106 : mFetch 281 106 = some (.aload_n 0, 1, 0, 0, 0, 0) := by decide +kernel
theorem f281_107 : mFetch 281 107 = some (.iload_n 2, 1, 0, 0, 0, 0) := by decide +kernel
theorem f281_108 : mFetch 281 108 = some (.invokevirtual 505, 3, 279, 0, 2, 12) := by decide +kernel
theorem f281_111 : mFetch 281 111 = some (.aload_n 0, 1, 0, 0, 0, 0) := by decide +kernel
theorem f281_112 : mFetch 281 112 = some (.invokevirtual 508, 3, 280, 0, 1, 12) := by decide +kernel
theorem f281_115 : mFetch 281 115 = some (.iinc 2 1, 3, 0, 0, 0, 0) := by decide +kernel
theorem f281_118 : mFetch 281 118 = some (.goto (-23), 3, 95, 0, 0, 0) := by decide +kernel
theorem f281_121 : mFetch 281 121 = some (.iload_n 1, 1, 0, 0, 0, 0) := by decide +kernel
theorem f281_122 : mFetch 281 122 = some (.ifCond .ne 8, 3, 130, 0, 0, 0) := by decide +kernel
theorem f281_125 : mFetch 281 125 = some (.aload_n 0, 1, 0, 0, 0, 0) := by decide +kernel
theorem f281_126 : mFetch 281 126 = some (.getfield 494, 3, 12, 48, 0, 1) := by decide +kernel
theorem f281_129 : mFetch 281 129 = some (.ireturn, 1, 0, 0, 0, 0) := by decide +kernel
theorem f281_130 : mFetch 281 130 = some (.iload_n 1, 1, 0, 0, 0, 0) := by decide +kernel
theorem f281_131 : mFetch 281 131 = some (.iconst 1, 1, 0, 0, 0, 0) := by decide +kernel
theorem f281_132 : mFetch 281 132 = some (.if_icmp .ne 8, 3, 140, 0, 0, 0) := by decide +kernel
theorem f281_135 : mFetch 281 135 = some (.aload_n 0, 1, 0, 0, 0, 0) := by decide +kernel
theorem f281_136 : mFetch 281 136 = some (.getfield 497, 3, 12, 49, 0, 1) := by decide +kernel
theorem f281_139 : mFetch 281 139 = some (.ireturn, 1, 0, 0, 0, 0) := by decide +kernel
theorem f281_140 : mFetch 281 140 = some (.iload_n 1, 1, 0, 0, 0, 0) := by decide +kernel
theorem f281_141 : mFetch 281 141 = some (.iconst 2, 1, 0, 0, 0, 0) := by decide +kernel
theorem f281_142 : mFetch 281 142 = some (.isub, 1, 0, 0, 0, 0) := by decide +kernel
theorem f281_143 : mFetch 281 143 = some (.aload_n 0, 1, 0, 0, 0, 0) := by decide +kernel
theorem f281_144 : mFetch 281 144 = some (.getfield 488, 3, 12, 47, 0, 1) := by decide +kernel
theorem f281_147 : mFetch 281 147 = some (.if_icmp .ge 14, 3, 161, 0, 0, 0) := by decide +kernel
theorem f281_150 : mFetch 281 150 = some (.aload_n 0, 1, 0, 0, 0, 0) := by decide +kernel
theorem f281_151 : mFetch 281 151 = some (.getfield 88, 3, 12, 46, 2, 1) := by decide +kernel
theorem f281_154 : mFetch 281 154 = some (.iload_n 1, 1, 0, 0, 0, 0) := by decide +kernel
theorem f281_155 : mFetch 281 155 = some (.iconst 2, 1, 0, 0, 0, 0) := by decide +kernel
theorem f281_156 : mFetch 281 156 = some (.isub, 1, 0, 0, 0, 0) := by decide +kernel
theorem f281_157 : mFetch 281 157 = some (.iaload, 1, 0, 0, 0, 0) := by decide +kernel
theorem f281_158 : mFetch 281 158 = some (.goto 4, 3, 162, 0, 0, 0) := by decide +kernel
theorem f281_161 : mFetch 281 161 = some (.iconst (-1), 1, 0, 0, 0, 0) := by decide +kernel
theorem f281_162 : mFetch 281 162 = some (.ireturn, 1, 0, 0, 0, 0) := by decide +kernel
theorem b281_0 {X : (Nat → Int) × Nat} {d : Nat} {s : mSt} {Q : mQ} {x1 : Int} {l2 : Option mV} (h_1 : Sp X d 212 [mR 407] s (fun r s' => ∃ v : Int, r = some (mI v) ∧ Wp X (d + 1) 281 4 [some (mR 407), some (mI x1), l2] [mI v] s' Q)) : Wp X (d + 1) 281 0 [some (mR 407), some (mI x1), l2] [] s Q := Wp_step k281 f281_0 (Wp_step k281 f281_1 ⟨⟨kf_407, Nat.le_of_ble_eq_true rfl⟩, Nat.le_refl _, _, rfl, Sp_E h_1⟩)
theorem b281_4 {X : (Nat → Int) × Nat} {d : Nat} {s : mSt} {Q : mQ} {x1 : Int} {l2 : Option mV} {xt0 : Int} (h_1 : xt0 = 0 → Wp X d 281 19 [some (mR 407), some (mI x1), l2] [] s Q) (h_2 : ¬ xt0 = 0 → Wp X d 281 7 [some (mR 407), some (mI x1), l2] [] s Q) : Wp X d 281 4 [some (mR 407), some (mI x1), l2] [mI xt0] s Q := Wp_step k281 f281_4 ⟨h_1, h_2⟩
theorem b281_7 {X : (Nat → Int) × Nat} {d : Nat} {s : mSt} {Q : mQ} {x1 : Int} {l2 : Option mV} (h_1 : Sp X d 167 [mJ x1, mJ 0, mJ 5] s (fun r s' => ∃ v : Int, r = some (mI v) ∧ Wp X (d + 1) 281 16 [some (mR 407), some (mI x1), l2] [mI v] s' Q)) : Wp X (d + 1) 281 7 [some (mR 407), some (mI x1), l2] [] s Q := Wp_step k281 f281_7 (Wp_step k281 f281_8 (Wp_step k281 f281_9 (Wp_step k281 f281_10 (Wp_step k281 f281_13 ⟨⟨Nat.le_of_ble_eq_true rfl, Nat.le_refl _⟩, _, rfl, Sp_E h_1⟩))))
theorem b281_16 {X : (Nat → Int) × Nat} {d : Nat} {s : mSt} {Q : mQ} {x1 : Int} {l2 : Option mV} {xt0 : Int} (h_1 : ¬ xt0 = 0 → Wp X d 281 22 [some (mR 407), some (mI x1), l2] [] s Q) (h_2 : xt0 = 0 → Wp X d 281 19 [some (mR 407), some (mI x1), l2] [] s Q) : Wp X d 281 16 [some (mR 407), some (mI x1), l2] [mI xt0] s Q := Wp_step k281 f281_16 ⟨h_1, h_2⟩
theorem b281_19 {X : (Nat → Int) × Nat} {d : Nat} {s : mSt} {Q : mQ} {x1 : Int} {l2 : Option mV} (h_1 : Q (some (mI (-2))) s) : Wp X d 281 19 [some (mR 407), some (mI x1), l2] [] s Q := Wp_step k281 f281_19 (Wp_step k281 f281_21 ⟨⟨rfl, trivial⟩, h_1⟩)
theorem b281_22 {X : (Nat → Int) × Nat} {d : Nat} {s : mSt} {Q : mQ} {x1 : Int} {l2 : Option mV} (h_1 : Wp X d 281 29 [some (mR 407), some (mI x1), some (mI 0)] [] (uS s 407 47 0) Q) : Wp X d 281 22 [some (mR 407), some (mI x1), l2] [] s Q := Wp_step k281 f281_22 (Wp_step k281 f281_23 (Wp_step k281 f281_24 ⟨kf_407, Wp_step k281 f281_27 (Wp_step k281 f281_28 (h_1))⟩))
theorem b281_29 {X : (Nat → Int) × Nat} {d : Nat} {s : mSt} {Q : mQ} {x1 : Int} {x2 : Int} (h_1 : (s 417 4) ≤ x2 → Wp X d 281 84 [some (mR 407), some (mI x1), some (mI x2)] [] s Q) (h_2 : ¬ (s 417 4) ≤ x2 → Wp X d 281 39 [some (mR 407), some (mI x1), some (mI x2)] [] s Q) : Wp X d 281 29 [some (mR 407), some (mI x1), some (mI x2)] [] s Q := Wp_step k281 f281_29 (Wp_step k281 f281_30 (Wp_step k281 f281_31 ⟨kf_407, 417, rf_407_20, Wp_step k281 f281_34 (Wp_step k281 f281_35 ⟨166, af_417, ⟨by decide, by decide⟩, Wp_step k281 f281_36 ⟨h_1, h_2⟩⟩)⟩))
theorem b281_39 {X : (Nat → Int) × Nat} {d : Nat} {s : mSt} {Q : mQ} {x1 : Int} {x2 : Int} (h_1 : 4 ≤ (s 407 47) → Wp X d 281 84 [some (mR 407), some (mI x1), some (mI x2)] [] s Q) (h_2 : ¬ 4 ≤ (s 407 47) → Wp X d 281 47 [some (mR 407), some (mI x1), some (mI x2)] [] s Q) : Wp X d 281 39 [some (mR 407), some (mI x1), some (mI x2)] [] s Q := Wp_step k281 f281_39 (Wp_step k281 f281_40 ⟨kf_407, Wp_step k281 f281_43 (Wp_step k281 f281_44 ⟨h_1, h_2⟩)⟩)
theorem b281_47 {X : (Nat → Int) × Nat} {d : Nat} {s : mSt} {Q : mQ} {x1 : Int} {x2 : Int} (h_1 : Sp X d 215 [mR 407, mI x2] s (fun r s' => ∃ v : Int, r = some (mI v) ∧ Wp X (d + 1) 281 52 [some (mR 407), some (mI x1), some (mI x2)] [mI v] s' Q)) : Wp X (d + 1) 281 47 [some (mR 407), some (mI x1), some (mI x2)] [] s Q := Wp_step k281 f281_47 (Wp_step k281 f281_48 (Wp_step k281 f281_49 ⟨⟨kf_407, Nat.le_of_ble_eq_true rfl⟩, Nat.le_refl _, _, rfl, Sp_E h_1⟩))
theorem b281_52 {X : (Nat → Int) × Nat} {d : Nat} {s : mSt} {Q : mQ} {x1 : Int} {x2 : Int} {xt0 : Int} (h_1 : ¬ xt0 = 0 → Wp X d 281 58 [some (mR 407), some (mI x1), some (mI x2)] [] s Q) (h_2 : xt0 = 0 → Wp X d 281 55 [some (mR 407), some (mI x1), some (mI x2)] [] s Q) : Wp X d 281 52 [some (mR 407), some (mI x1), some (mI x2)] [mI xt0] s Q := Wp_step k281 f281_52 ⟨h_1, h_2⟩
theorem b281_55 {X : (Nat → Int) × Nat} {d : Nat} {s : mSt} {Q : mQ} {x1 : Int} {x2 : Int} (h_1 : Wp X d 281 78 [some (mR 407), some (mI x1), some (mI x2)] [] s Q) : Wp X d 281 55 [some (mR 407), some (mI x1), some (mI x2)] [] s Q := Wp_step k281 f281_55 (h_1)
theorem b281_58 {X : (Nat → Int) × Nat} {d : Nat} {s : mSt} {Q : mQ} {x1 : Int} {x2 : Int} (h_1 : 0 ≤ (s 407 47) ∧ (s 407 47) < 4) (h_2 : Wp X d 281 78 [some (mR 407), some (mI x1), some (mI x2)] [] (uS (uS s 430 ((s 407 47).toNat) x2) 407 47 (w32 (((uS s 430 ((s 407 47).toNat) x2) 407 47) + 1))) Q) : Wp X d 281 58 [some (mR 407), some (mI x1), some (mI x2)] [] s Q := Wp_step k281 f281_58 (Wp_step k281 f281_59 ⟨kf_407, 430, rf_407_44, Wp_step k281 f281_62 (Wp_step k281 f281_63 ⟨kf_407, Wp_step k281 f281_66 (Wp_step k281 f281_67 ⟨4, af_430, h_1, Wp_step k281 f281_68 (Wp_step k281 f281_69 (Wp_step k281 f281_70 ⟨kf_407, Wp_step k281 f281_73 (Wp_step k281 f281_74 (Wp_step k281 f281_75 ⟨kf_407, h_2⟩))⟩))⟩)⟩)⟩)
theorem b281_78 {X : (Nat → Int) × Nat} {d : Nat} {s : mSt} {Q : mQ} {x1 : Int} {x2 : Int} (h_1 : Wp X d 281 29 [some (mR 407), some (mI x1), some (mI (w32 (x2 + 1)))] [] s Q) : Wp X d 281 78 [some (mR 407), some (mI x1), some (mI x2)] [] s Q := Wp_step k281 f281_78 (Wp_step k281 f281_81 (h_1))
theorem b281_84 {X : (Nat → Int) × Nat} {d : Nat} {s : mSt} {Q : mQ} {x1 : Int} {x2 : Int} (h_1 : Sp X d 277 [mR 407] (uS s 407 48 (-1)) (fun r s' => r = none ∧ Wp X (d + 1) 281 93 [some (mR 407), some (mI x1), some (mI x2)] [] s' Q)) : Wp X (d + 1) 281 84 [some (mR 407), some (mI x1), some (mI x2)] [] s Q := Wp_step k281 f281_84 (Wp_step k281 f281_85 (Wp_step k281 f281_86 ⟨kf_407, Wp_step k281 f281_89 (Wp_step k281 f281_90 ⟨⟨kf_407, Nat.le_of_ble_eq_true rfl⟩, Nat.le_refl _, _, rfl, Sp_V h_1⟩)⟩))
theorem b281_93 {X : (Nat → Int) × Nat} {d : Nat} {s : mSt} {Q : mQ} {x1 : Int} {x2 : Int} (h_1 : Wp X d 281 95 [some (mR 407), some (mI x1), some (mI 0)] [] s Q) : Wp X d 281 93 [some (mR 407), some (mI x1), some (mI x2)] [] s Q := Wp_step k281 f281_93 (Wp_step k281 f281_94 (h_1))
theorem b281_95 {X : (Nat → Int) × Nat} {d : Nat} {s : mSt} {Q : mQ} {x1 : Int} {x2 : Int} (h_1 : Sp X d 233 [mI (s 407 47)] s (fun r s' => ∃ v : Int, r = some (mI v) ∧ Wp X (d + 1) 281 103 [some (mR 407), some (mI x1), some (mI x2)] [mI v, mI x2] s' Q)) : Wp X (d + 1) 281 95 [some (mR 407), some (mI x1), some (mI x2)] [] s Q := Wp_step k281 f281_95 (Wp_step k281 f281_96 (Wp_step k281 f281_97 ⟨kf_407, Wp_step k281 f281_100 ⟨⟨Nat.le_of_ble_eq_true rfl, Nat.le_refl _⟩, _, rfl, Sp_E h_1⟩⟩))
theorem b281_103 {X : (Nat → Int) × Nat} {d : Nat} {s : mSt} {Q : mQ} {x1 : Int} {x2 : Int} {xt0 : Int} {xt1 : Int} (h_1 : xt1 ≤ xt0 → Wp X d 281 121 [some (mR 407), some (mI x1), some (mI x2)] [] s Q) (h_2 : ¬ xt1 ≤ xt0 → Wp X d 281 106 [some (mR 407), some (mI x1), some (mI x2)] [] s Q) : Wp X d 281 103 [some (mR 407), some (mI x1), some (mI x2)] [mI xt1, mI xt0] s Q := Wp_step k281 f281_103 ⟨h_1, h_2⟩
theorem b281_106 {X : (Nat → Int) × Nat} {d : Nat} {s : mSt} {Q : mQ} {x1 : Int} {x2 : Int} (h_1 : Sp X d 279 [mR 407, mI x2] s (fun r s' => r = none ∧ Wp X (d + 1) 281 111 [some (mR 407), some (mI x1), some (mI x2)] [] s' Q)) : Wp X (d + 1) 281 106 [some (mR 407), some (mI x1), some (mI x2)] [] s Q := Wp_step k281 f281_106 (Wp_step k281 f281_107 (Wp_step k281 f281_108 ⟨⟨kf_407, Nat.le_of_ble_eq_true rfl⟩, Nat.le_refl _, _, rfl, Sp_V h_1⟩))
theorem b281_111 {X : (Nat → Int) × Nat} {d : Nat} {s : mSt} {Q : mQ} {x1 : Int} {x2 : Int} (h_1 : Sp X d 280 [mR 407] s (fun r s' => r = none ∧ Wp X (d + 1) 281 115 [some (mR 407), some (mI x1), some (mI x2)] [] s' Q)) : Wp X (d + 1) 281 111 [some (mR 407), some (mI x1), some (mI x2)] [] s Q := Wp_step k281 f281_111 (Wp_step k281 f281_112 ⟨⟨kf_407, Nat.le_of_ble_eq_true rfl⟩, Nat.le_refl _, _, rfl, Sp_V h_1⟩)
theorem b281_115 {X : (Nat → Int) × Nat} {d : Nat} {s : mSt} {Q : mQ} {x1 : Int} {x2 : Int} (h_1 : Wp X d 281 95 [some (mR 407), some (mI x1), some (mI (w32 (x2 + 1)))] [] s Q) : Wp X d 281 115 [some (mR 407), some (mI x1), some (mI x2)] [] s Q := Wp_step k281 f281_115 (Wp_step k281 f281_118 (h_1))
theorem b281_121 {X : (Nat → Int) × Nat} {d : Nat} {s : mSt} {Q : mQ} {x1 : Int} {x2 : Int} (h_1 : ¬ x1 = 0 → Wp X d 281 130 [some (mR 407), some (mI x1), some (mI x2)] [] s Q) (h_2 : x1 = 0 → Wp X d 281 125 [some (mR 407), some (mI x1), some (mI x2)] [] s Q) : Wp X d 281 121 [some (mR 407), some (mI x1), some (mI x2)] [] s Q := Wp_step k281 f281_121 (Wp_step k281 f281_122 ⟨h_1, h_2⟩)
theorem b281_125 {X : (Nat → Int) × Nat} {d : Nat} {s : mSt} {Q : mQ} {x1 : Int} {x2 : Int} (h_1 : Q (some (mI (s 407 48))) s) : Wp X d 281 125 [some (mR 407), some (mI x1), some (mI x2)] [] s Q := Wp_step k281 f281_125 (Wp_step k281 f281_126 ⟨kf_407, Wp_step k281 f281_129 ⟨⟨rfl, trivial⟩, h_1⟩⟩)
theorem b281_130 {X : (Nat → Int) × Nat} {d : Nat} {s : mSt} {Q : mQ} {x1 : Int} {x2 : Int} (h_1 : ¬ x1 = 1 → Wp X d 281 140 [some (mR 407), some (mI x1), some (mI x2)] [] s Q) (h_2 : x1 = 1 → Wp X d 281 135 [some (mR 407), some (mI x1), some (mI x2)] [] s Q) : Wp X d 281 130 [some (mR 407), some (mI x1), some (mI x2)] [] s Q := Wp_step k281 f281_130 (Wp_step k281 f281_131 (Wp_step k281 f281_132 ⟨h_1, h_2⟩))
theorem b281_135 {X : (Nat → Int) × Nat} {d : Nat} {s : mSt} {Q : mQ} {x1 : Int} {x2 : Int} (h_1 : Q (some (mI (s 407 49))) s) : Wp X d 281 135 [some (mR 407), some (mI x1), some (mI x2)] [] s Q := Wp_step k281 f281_135 (Wp_step k281 f281_136 ⟨kf_407, Wp_step k281 f281_139 ⟨⟨rfl, trivial⟩, h_1⟩⟩)
theorem b281_140 {X : (Nat → Int) × Nat} {d : Nat} {s : mSt} {Q : mQ} {x1 : Int} {x2 : Int} (h_1 : (s 407 47) ≤ (w32 (x1 - 2)) → Wp X d 281 161 [some (mR 407), some (mI x1), some (mI x2)] [] s Q) (h_2 : ¬ (s 407 47) ≤ (w32 (x1 - 2)) → Wp X d 281 150 [some (mR 407), some (mI x1), some (mI x2)] [] s Q) : Wp X d 281 140 [some (mR 407), some (mI x1), some (mI x2)] [] s Q := Wp_step k281 f281_140 (Wp_step k281 f281_141 (Wp_step k281 f281_142 (Wp_step k281 f281_143 (Wp_step k281 f281_144 ⟨kf_407, Wp_step k281 f281_147 ⟨h_1, h_2⟩⟩))))
theorem b281_150 {X : (Nat → Int) × Nat} {d : Nat} {s : mSt} {Q : mQ} {x1 : Int} {x2 : Int} (h_1 : 0 ≤ (w32 (x1 - 2)) ∧ (w32 (x1 - 2)) < 4) (h_2 : Wp X d 281 162 [some (mR 407), some (mI x1), some (mI x2)] [mI (s 432 (w32 (x1 - 2)).toNat)] s Q) : Wp X d 281 150 [some (mR 407), some (mI x1), some (mI x2)] [] s Q := Wp_step k281 f281_150 (Wp_step k281 f281_151 ⟨kf_407, 432, rf_407_46, Wp_step k281 f281_154 (Wp_step k281 f281_155 (Wp_step k281 f281_156 (Wp_step k281 f281_157 ⟨4, af_432, h_1, Wp_step k281 f281_158 (h_2)⟩)))⟩)
theorem b281_161 {X : (Nat → Int) × Nat} {d : Nat} {s : mSt} {Q : mQ} {x1 : Int} {x2 : Int} (h_1 : Wp X d 281 162 [some (mR 407), some (mI x1), some (mI x2)] [mI (-1)] s Q) : Wp X d 281 161 [some (mR 407), some (mI x1), some (mI x2)] [] s Q := Wp_step k281 f281_161 (h_1)
theorem b281_162 {X : (Nat → Int) × Nat} {d : Nat} {s : mSt} {Q : mQ} {x1 : Int} {x2 : Int} {xt0 : Int} (h_1 : Q (some (mI xt0)) s) : Wp X d 281 162 [some (mR 407), some (mI x1), some (mI x2)] [mI xt0] s Q := Wp_step k281 f281_162 ⟨⟨rfl, trivial⟩, h_1⟩
theorem e281 {X : (Nat → Int) × Nat} {d : Nat} {s : mSt} {Q : mQ} {x1 : Int} (h : Wp X d 281 0 [some (mR 407), some (mI x1), none] [] s Q) : Sp X d 281 [mR 407, mI x1] s Q := Sp_of (show mCe 281 = 0 by decide +kernel) (by rw [show mML 281 = 3 by decide +kernel]; rfl) (Nat.le_trans (Nat.le_of_ble_eq_true (show Nat.ble (mArgs _).length 3 = true from rfl)) (show 3 ≤ mML 281 by decide +kernel)) h
-- 282 ClashDayModel.stuckMany()I
theorem k282 : mRk 282 = 1 := by decide +kernel
theorem f282_0 : mFetch 282 0 = some (.iconst 0, 1, 0, 0, 0, 0) := by decide +kernel
theorem f282_1 : mFetch 282 1 = some (.istore_n 1, 1, 0, 0, 0, 0) := by decide +kernel
theorem f282_2 : mFetch 282 2 = some (.iconst 0, 1, 0, 0, 0, 0) := by decide +kernel
theorem f282_3 : mFetch 282 3 = some (.istore_n 2, 1, 0, 0, 0, 0) := by decide +kernel
theorem f282_4 : mFetch 282 4 = some (.iload_n 2, 1, 0, 0, 0, 0) := by decide +kernel
theorem f282_5 : mFetch 282 5 = some (.aload_n 0, 1, 0, 0, 0, 0) := by decide +kernel
theorem f282_6 : mFetch 282 6 = some (.getfield 39, 3, 12, 20, 2, 1) := by decide +kernel
theorem f282_9 : mFetch 282 9 = some (.iconst 4, 1, 0, 0, 0, 0) := by decide +kernel
theorem f282_10 : mFetch 282 10 = some (.iaload, 1, 0, 0, 0, 0) := by decide +kernel
theorem f282_11 : mFetch 282 11 = some (.if_icmp .ge 33, 3, 44, 0, 0, 0) := by decide +kernel
theorem f282_14 : mFetch 282 14 = some (.iload_n 1, 1, 0, 0, 0, 0) := by decide +kernel
theorem f282_15 : mFetch 282 15 = some (.aload_n 0, 1, 0, 0, 0, 0) := by decide +kernel
theorem f282_16 : mFetch 282 16 = some (.iload_n 2, 1, 0, 0, 0, 0) := by decide +kernel
theorem f282_17 : mFetch 282 17 = some (.invokevirtual 328, 3, 215, 0, 2, 12) := by decide +kernel
theorem f282_20 : mFetch 282 20 = some (.ifCond .eq 15, 3, 35, 0, 0, 0) := by decide +kernel
theorem f282_23 : mFetch 282 23 = some (.aload_n 0, 1, 0, 0, 0, 0) := by decide +kernel
theorem f282_24 : mFetch 282 24 = some (.iload_n 2, 1, 0, 0, 0, 0) := by decide +kernel
theorem f282_25 : mFetch 282 25 = some (.invokevirtual 420, 3, 244, 0, 2, 12) := by decide +kernel
theorem f282_28 : mFetch 282 28 = some (.ifCond .ne 7, 3, 35, 0, 0, 0) := by decide +kernel
theorem f282_31 : mFetch 282 31 = some (.iconst 1, 1, 0, 0, 0, 0) := by decide +kernel
theorem f282_32 : mFetch 282 32 = some (.goto 4, 3, 36, 0, 0, 0) := by decide +kernel
theorem f282_35 : mFetch 282 35 = some (.iconst 0, 1, 0, 0, 0, 0) := by decide +kernel
theorem f282_36 : mFetch 282 36 = some (.iadd, 1, 0, 0, 0, 0) := by decide +kernel
theorem f282_37 : mFetch 282 37 = some (.istore_n 1, 1, 0, 0, 0, 0) := by decide +kernel
theorem f282_38 : mFetch 282 38 = some (.iinc 2 1, 3, 0, 0, 0, 0) := by decide +kernel
theorem f282_41 : mFetch 282 41 = some (.goto (-37), 3, 4, 0, 0, 0) := by decide +kernel
theorem f282_44 : mFetch 282 44 = some (.iload_n 1, 1, 0, 0, 0, 0) := by decide +kernel
theorem f282_45 : mFetch 282 45 = some (.ireturn, 1, 0, 0, 0, 0) := by decide +kernel
theorem b282_0 {X : (Nat → Int) × Nat} {d : Nat} {s : mSt} {Q : mQ} {l1 : Option mV} {l2 : Option mV} (h_1 : Wp X d 282 4 [some (mR 407), some (mI 0), some (mI 0)] [] s Q) : Wp X d 282 0 [some (mR 407), l1, l2] [] s Q := Wp_step k282 f282_0 (Wp_step k282 f282_1 (Wp_step k282 f282_2 (Wp_step k282 f282_3 (h_1))))
theorem b282_4 {X : (Nat → Int) × Nat} {d : Nat} {s : mSt} {Q : mQ} {x1 : Int} {x2 : Int} (h_1 : (s 417 4) ≤ x2 → Wp X d 282 44 [some (mR 407), some (mI x1), some (mI x2)] [] s Q) (h_2 : ¬ (s 417 4) ≤ x2 → Wp X d 282 14 [some (mR 407), some (mI x1), some (mI x2)] [] s Q) : Wp X d 282 4 [some (mR 407), some (mI x1), some (mI x2)] [] s Q := Wp_step k282 f282_4 (Wp_step k282 f282_5 (Wp_step k282 f282_6 ⟨kf_407, 417, rf_407_20, Wp_step k282 f282_9 (Wp_step k282 f282_10 ⟨166, af_417, ⟨by decide, by decide⟩, Wp_step k282 f282_11 ⟨h_1, h_2⟩⟩)⟩))
theorem b282_14 {X : (Nat → Int) × Nat} {d : Nat} {s : mSt} {Q : mQ} {x1 : Int} {x2 : Int} (h_1 : Sp X d 215 [mR 407, mI x2] s (fun r s' => ∃ v : Int, r = some (mI v) ∧ Wp X (d + 1) 282 20 [some (mR 407), some (mI x1), some (mI x2)] [mI v, mI x1] s' Q)) : Wp X (d + 1) 282 14 [some (mR 407), some (mI x1), some (mI x2)] [] s Q := Wp_step k282 f282_14 (Wp_step k282 f282_15 (Wp_step k282 f282_16 (Wp_step k282 f282_17 ⟨⟨kf_407, Nat.le_of_ble_eq_true rfl⟩, Nat.le_refl _, _, rfl, Sp_E h_1⟩)))
theorem b282_20 {X : (Nat → Int) × Nat} {d : Nat} {s : mSt} {Q : mQ} {x1 : Int} {x2 : Int} {xt0 : Int} {xt1 : Int} (h_1 : xt1 = 0 → Wp X d 282 35 [some (mR 407), some (mI x1), some (mI x2)] [mI xt0] s Q) (h_2 : ¬ xt1 = 0 → Wp X d 282 23 [some (mR 407), some (mI x1), some (mI x2)] [mI xt0] s Q) : Wp X d 282 20 [some (mR 407), some (mI x1), some (mI x2)] [mI xt1, mI xt0] s Q := Wp_step k282 f282_20 ⟨h_1, h_2⟩
theorem b282_23 {X : (Nat → Int) × Nat} {d : Nat} {s : mSt} {Q : mQ} {x1 : Int} {x2 : Int} {xt0 : Int} (h_1 : Sp X d 244 [mR 407, mI x2] s (fun r s' => ∃ v : Int, r = some (mI v) ∧ Wp X (d + 1) 282 28 [some (mR 407), some (mI x1), some (mI x2)] [mI v, mI xt0] s' Q)) : Wp X (d + 1) 282 23 [some (mR 407), some (mI x1), some (mI x2)] [mI xt0] s Q := Wp_step k282 f282_23 (Wp_step k282 f282_24 (Wp_step k282 f282_25 ⟨⟨kf_407, Nat.le_of_ble_eq_true rfl⟩, Nat.le_refl _, _, rfl, Sp_E h_1⟩))
theorem b282_28 {X : (Nat → Int) × Nat} {d : Nat} {s : mSt} {Q : mQ} {x1 : Int} {x2 : Int} {xt0 : Int} {xt1 : Int} (h_1 : ¬ xt1 = 0 → Wp X d 282 35 [some (mR 407), some (mI x1), some (mI x2)] [mI xt0] s Q) (h_2 : xt1 = 0 → Wp X d 282 31 [some (mR 407), some (mI x1), some (mI x2)] [mI xt0] s Q) : Wp X d 282 28 [some (mR 407), some (mI x1), some (mI x2)] [mI xt1, mI xt0] s Q := Wp_step k282 f282_28 ⟨h_1, h_2⟩
theorem b282_31 {X : (Nat → Int) × Nat} {d : Nat} {s : mSt} {Q : mQ} {x1 : Int} {x2 : Int} {xt0 : Int} (h_1 : Wp X d 282 36 [some (mR 407), some (mI x1), some (mI x2)] [mI 1, mI xt0] s Q) : Wp X d 282 31 [some (mR 407), some (mI x1), some (mI x2)] [mI xt0] s Q := Wp_step k282 f282_31 (Wp_step k282 f282_32 (h_1))
theorem b282_35 {X : (Nat → Int) × Nat} {d : Nat} {s : mSt} {Q : mQ} {x1 : Int} {x2 : Int} {xt0 : Int} (h_1 : Wp X d 282 36 [some (mR 407), some (mI x1), some (mI x2)] [mI 0, mI xt0] s Q) : Wp X d 282 35 [some (mR 407), some (mI x1), some (mI x2)] [mI xt0] s Q := Wp_step k282 f282_35 (h_1)
theorem b282_36 {X : (Nat → Int) × Nat} {d : Nat} {s : mSt} {Q : mQ} {x1 : Int} {x2 : Int} {xt0 : Int} {xt1 : Int} (h_1 : Wp X d 282 4 [some (mR 407), some (mI (w32 (xt0 + xt1))), some (mI (w32 (x2 + 1)))] [] s Q) : Wp X d 282 36 [some (mR 407), some (mI x1), some (mI x2)] [mI xt1, mI xt0] s Q := Wp_step k282 f282_36 (Wp_step k282 f282_37 (Wp_step k282 f282_38 (Wp_step k282 f282_41 (h_1))))
theorem b282_44 {X : (Nat → Int) × Nat} {d : Nat} {s : mSt} {Q : mQ} {x1 : Int} {x2 : Int} (h_1 : Q (some (mI x1)) s) : Wp X d 282 44 [some (mR 407), some (mI x1), some (mI x2)] [] s Q := Wp_step k282 f282_44 (Wp_step k282 f282_45 ⟨⟨rfl, trivial⟩, h_1⟩)
theorem e282 {X : (Nat → Int) × Nat} {d : Nat} {s : mSt} {Q : mQ} (h : Wp X d 282 0 [some (mR 407), none, none] [] s Q) : Sp X d 282 [mR 407] s Q := Sp_of (show mCe 282 = 0 by decide +kernel) (by rw [show mML 282 = 3 by decide +kernel]; rfl) (Nat.le_trans (Nat.le_of_ble_eq_true (show Nat.ble (mArgs _).length 3 = true from rfl)) (show 3 ≤ mML 282 by decide +kernel)) h
-- 283 ClashDayModel.harm(II)I
theorem k283 : mRk 283 = 1 := by decide +kernel
theorem f283_0 : mFetch 283 0 = some (.aload_n 0, 1, 0, 0, 0, 0) := by decide +kernel
theorem f283_1 : mFetch 283 1 = some (.invokevirtual 354, 3, 212, 0, 1, 12) := by decide +kernel
theorem f283_4 : mFetch 283 4 = some (.ifCond .eq 25, 3, 29, 0, 0, 0) := by decide +kernel
theorem f283_7 : mFetch 283 7 = some (.iload_n 1, 1, 0, 0, 0, 0) := by decide +kernel
theorem f283_8 : mFetch 283 8 = some (.i2l, 1, 0, 0, 0, 0) := by decide +kernel
theorem f283_9 : mFetch 283 9 = some (.lconst 1, 1, 0, 0, 0, 0) := by decide +kernel
theorem f283_10 : mFetch 283 10 = some (.ldc2_w 461, 3, 9, 0, 0, 0) := by decide +kernel
theorem f283_13 : mFetch 283 13 = some (.invokestatic 151, 3, 167, 0, 3, 99) := by decide +kernel
theorem f283_16 : mFetch 283 16 = some (.ifCond .eq 13, 3, 29, 0, 0, 0) := by decide +kernel
theorem f283_19 : mFetch 283 19 = some (.iload_n 2, 1, 0, 0, 0, 0) := by decide +kernel
theorem f283_20 : mFetch 283 20 = some (.i2l, 1, 0, 0, 0, 0) := by decide +kernel
theorem f283_21 : mFetch 283 21 = some (.lconst 0, 1, 0, 0, 0, 0) := by decide +kernel
theorem f283_22 : mFetch 283 22 = some (.lconst 1, 1, 0, 0, 0, 0) := by decide +kernel
theorem f283_23 : mFetch 283 23 = some (.invokestatic 151, 3, 167, 0, 3, 99) := by decide +kernel
theorem f283_26 : mFetch 283 26 = some (.ifCond .ne 5, 3, 31, 0, 0, 0) := by decide +kernel
theorem f283_29 : mFetch 283 29 = some (.iconst (-1), 1, 0, 0, 0, 0) := by decide +kernel
theorem f283_30 : mFetch 283 30 = some (.ireturn, 1, 0, 0, 0, 0) := by decide +kernel
theorem f283_31 : mFetch 283 31 = some (.bipush (-2), 2, 0, 0, 0, 0) := by decide +kernel
theorem f283_33 : mFetch 283 33 = some (.istore_n 3, 1, 0, 0, 0, 0) := by decide +kernel
theorem f283_34 : mFetch 283 34 = some (.bipush (-2), 2, 0, 0, 0, 0) := by decide +kernel
theorem f283_36 : mFetch 283 36 = some (.istore 4, 2, 0, 0, 0, 0) := by decide +kernel
theorem f283_38 : mFetch 283 38 = some (.aload_n 0, 1, 0, 0, 0, 0) := by decide +kernel
theorem f283_39 : mFetch 283 39 = some (.invokevirtual 502, 3, 277, 0, 1, 12) := by decide +kernel
theorem f283_42 : mFetch 283 42 = some (.iconst 0, 1, 0, 0, 0, 0) := by decide +kernel
theorem f283_43 : mFetch 283 43 = some (.istore 5, 2, 0, 0, 0, 0) := by decide +kernel
theorem f283_45 : mFetch 283 45 = some (.iload 5, 2, 0, 0, 0, 0) := by decide +kernel
theorem f283_47 : mFetch 283 47 = some (.aload_n 0, 1, 0, 0, 0, 0) := by decide +kernel
theorem f283_48 : mFetch 283 48 = some (.getfield 39, 3, 12, 20, 2, 1) := by decide +kernel
theorem f283_51 : mFetch 283 51 = some (.iconst 3, 1, 0, 0, 0, 0) := by decide +kernel
theorem f283_52 : mFetch 283 52 = some (.iaload, 1, 0, 0, 0, 0) := by decide +kernel
theorem f283_53 : mFetch 283 53 = some (.if_icmp .ge 61, 3, 114, 0, 0, 0) := by decide +kernel
theorem f283_56 : mFetch 283 56 = some (.aload_n 0, 1, 0, 0, 0, 0) := by decide +kernel
theorem f283_57 : mFetch 283 57 = some (.getfield 39, 3, 12, 20, 2, 1) := by decide +kernel
theorem f283_60 : mFetch 283 60 = some (.bipush 6, 2, 0, 0, 0, 0) := by decide +kernel
theorem f283_62 : mFetch 283 62 = some (.iload 5, 2, 0, 0, 0, 0) := by decide +kernel
theorem f283_64 : mFetch 283 64 = some (.iadd, 1, 0, 0, 0, 0) := by decide +kernel
theorem f283_65 : mFetch 283 65 = some (.iaload, 1, 0, 0, 0, 0) := by decide +kernel
theorem f283_66 : mFetch 283 66 = some (.bipush 15, 2, 0, 0, 0, 0) := by decide +kernel
theorem f283_68 : mFetch 283 68 = some (.if_icmp .ne 6, 3, 74, 0, 0, 0) := by decide +kernel
theorem f283_71 : mFetch 283 71 = some (.goto 37, 3, 108, 0, 0, 0) := by decide +kernel
theorem f283_74 : mFetch 283 74 = some (.aload_n 0, 1, 0, 0, 0, 0) := by decide +kernel
theorem f283_75 : mFetch 283 75 = some (.iload 5, 2, 0, 0, 0, 0) := by decide +kernel
theorem f283_77 : mFetch 283 77 = some (.iload_n 1, 1, 0, 0, 0, 0) := by decide +kernel
theorem f283_78 : mFetch 283 78 = some (.invokevirtual 463, 3, 258, 0, 3, 12) := by decide +kernel
theorem f283_81 : mFetch 283 81 = some (.aload_n 0, 1, 0, 0, 0, 0) := by decide +kernel
theorem f283_82 : mFetch 283 82 = some (.invokevirtual 511, 3, 282, 0, 1, 12) := by decide +kernel
theorem f283_85 : mFetch 283 85 = some (.istore 6, 2, 0, 0, 0, 0) := by decide +kernel
theorem f283_87 : mFetch 283 87 = some (.aload_n 0, 1, 0, 0, 0, 0) := by decide +kernel
theorem f283_88 : mFetch 283 88 = some (.invokevirtual 491, 3, 278, 0, 1, 12) := by decide +kernel
theorem f283_91 : mFetch 283 91 = some (.iload 6, 2, 0, 0, 0, 0) := by decide +kernel
theorem f283_93 : mFetch 283 93 = some (.iload 4, 2, 0, 0, 0, 0) := by decide +kernel
theorem f283_95 : mFetch 283 95 = some (.if_icmp .gt 6, 3, 101, 0, 0, 0) := by decide +kernel
theorem f283_98 : mFetch 283 98 = some (.goto 10, 3, 108, 0, 0, 0) := by decide +kernel
theorem f283_101 : mFetch 283 101 = some (.iload 5, 2, 0, 0, 0, 0) := by decide +kernel
theorem f283_103 : mFetch 283 103 = some (.istore_n 3, 1, 0, 0, 0, 0) := by decide +kernel
theorem f283_104 : mFetch 283 104 = some (.iload 6, 2, 0, 0, 0, 0) := by decide +kernel
theorem f283_106 : mFetch 283 106 = some (.istore 4, 2, 0, 0, 0, 0) := by decide +kernel
theorem f283_108 : mFetch 283 108 = some (.iinc 5 1, 3, 0, 0, 0, 0) := by decide +kernel
theorem f283_111 : mFetch 283 111 = some (.goto (-66), 3, 45, 0, 0, 0) := by decide +kernel
theorem f283_114 : mFetch 283 114 = some (.iload_n 2, 1, 0, 0, 0, 0) := by decide +kernel
theorem f283_115 : mFetch 283 115 = some (.ifCond .ne 7, 3, 122, 0, 0, 0) := by decide +kernel
theorem f283_118 : mFetch 283 118 = some (.iload_n 3, 1, 0, 0, 0, 0) := by decide +kernel
theorem f283_119 : mFetch 283 119 = some (.goto 5, 3, 124, 0, 0, 0) := by decide +kernel
theorem f283_122 : mFetch 283 122 = some (.iload 4, 2, 0, 0, 0, 0) := by decide +kernel
theorem f283_124 : mFetch 283 124 = some (.ireturn, 1, 0, 0, 0, 0) := by decide +kernel
theorem b283_0 {X : (Nat → Int) × Nat} {d : Nat} {s : mSt} {Q : mQ} {x1 : Int} {x2 : Int} {l3 : Option mV} {l4 : Option mV} {l5 : Option mV} {l6 : Option mV} (h_1 : Sp X d 212 [mR 407] s (fun r s' => ∃ v : Int, r = some (mI v) ∧ Wp X (d + 1) 283 4 [some (mR 407), some (mI x1), some (mI x2), l3, l4, l5, l6] [mI v] s' Q)) : Wp X (d + 1) 283 0 [some (mR 407), some (mI x1), some (mI x2), l3, l4, l5, l6] [] s Q := Wp_step k283 f283_0 (Wp_step k283 f283_1 ⟨⟨kf_407, Nat.le_of_ble_eq_true rfl⟩, Nat.le_refl _, _, rfl, Sp_E h_1⟩)
theorem b283_4 {X : (Nat → Int) × Nat} {d : Nat} {s : mSt} {Q : mQ} {x1 : Int} {x2 : Int} {l3 : Option mV} {l4 : Option mV} {l5 : Option mV} {l6 : Option mV} {xt0 : Int} (h_1 : xt0 = 0 → Wp X d 283 29 [some (mR 407), some (mI x1), some (mI x2), l3, l4, l5, l6] [] s Q) (h_2 : ¬ xt0 = 0 → Wp X d 283 7 [some (mR 407), some (mI x1), some (mI x2), l3, l4, l5, l6] [] s Q) : Wp X d 283 4 [some (mR 407), some (mI x1), some (mI x2), l3, l4, l5, l6] [mI xt0] s Q := Wp_step k283 f283_4 ⟨h_1, h_2⟩
theorem b283_7 {X : (Nat → Int) × Nat} {d : Nat} {s : mSt} {Q : mQ} {x1 : Int} {x2 : Int} {l3 : Option mV} {l4 : Option mV} {l5 : Option mV} {l6 : Option mV} (h_1 : Sp X d 167 [mJ x1, mJ 1, mJ 9] s (fun r s' => ∃ v : Int, r = some (mI v) ∧ Wp X (d + 1) 283 16 [some (mR 407), some (mI x1), some (mI x2), l3, l4, l5, l6] [mI v] s' Q)) : Wp X (d + 1) 283 7 [some (mR 407), some (mI x1), some (mI x2), l3, l4, l5, l6] [] s Q := Wp_step k283 f283_7 (Wp_step k283 f283_8 (Wp_step k283 f283_9 (Wp_step k283 f283_10 (Wp_step k283 f283_13 ⟨⟨Nat.le_of_ble_eq_true rfl, Nat.le_refl _⟩, _, rfl, Sp_E h_1⟩))))
theorem b283_16 {X : (Nat → Int) × Nat} {d : Nat} {s : mSt} {Q : mQ} {x1 : Int} {x2 : Int} {l3 : Option mV} {l4 : Option mV} {l5 : Option mV} {l6 : Option mV} {xt0 : Int} (h_1 : xt0 = 0 → Wp X d 283 29 [some (mR 407), some (mI x1), some (mI x2), l3, l4, l5, l6] [] s Q) (h_2 : ¬ xt0 = 0 → Wp X d 283 19 [some (mR 407), some (mI x1), some (mI x2), l3, l4, l5, l6] [] s Q) : Wp X d 283 16 [some (mR 407), some (mI x1), some (mI x2), l3, l4, l5, l6] [mI xt0] s Q := Wp_step k283 f283_16 ⟨h_1, h_2⟩
theorem b283_19 {X : (Nat → Int) × Nat} {d : Nat} {s : mSt} {Q : mQ} {x1 : Int} {x2 : Int} {l3 : Option mV} {l4 : Option mV} {l5 : Option mV} {l6 : Option mV} (h_1 : Sp X d 167 [mJ x2, mJ 0, mJ 1] s (fun r s' => ∃ v : Int, r = some (mI v) ∧ Wp X (d + 1) 283 26 [some (mR 407), some (mI x1), some (mI x2), l3, l4, l5, l6] [mI v] s' Q)) : Wp X (d + 1) 283 19 [some (mR 407), some (mI x1), some (mI x2), l3, l4, l5, l6] [] s Q := Wp_step k283 f283_19 (Wp_step k283 f283_20 (Wp_step k283 f283_21 (Wp_step k283 f283_22 (Wp_step k283 f283_23 ⟨⟨Nat.le_of_ble_eq_true rfl, Nat.le_refl _⟩, _, rfl, Sp_E h_1⟩))))
theorem b283_26 {X : (Nat → Int) × Nat} {d : Nat} {s : mSt} {Q : mQ} {x1 : Int} {x2 : Int} {l3 : Option mV} {l4 : Option mV} {l5 : Option mV} {l6 : Option mV} {xt0 : Int} (h_1 : ¬ xt0 = 0 → Wp X d 283 31 [some (mR 407), some (mI x1), some (mI x2), l3, l4, l5, l6] [] s Q) (h_2 : xt0 = 0 → Wp X d 283 29 [some (mR 407), some (mI x1), some (mI x2), l3, l4, l5, l6] [] s Q) : Wp X d 283 26 [some (mR 407), some (mI x1), some (mI x2), l3, l4, l5, l6] [mI xt0] s Q := Wp_step k283 f283_26 ⟨h_1, h_2⟩
theorem b283_29 {X : (Nat → Int) × Nat} {d : Nat} {s : mSt} {Q : mQ} {x1 : Int} {x2 : Int} {l3 : Option mV} {l4 : Option mV} {l5 : Option mV} {l6 : Option mV} (h_1 : Q (some (mI (-1))) s) : Wp X d 283 29 [some (mR 407), some (mI x1), some (mI x2), l3, l4, l5, l6] [] s Q := Wp_step k283 f283_29 (Wp_step k283 f283_30 ⟨⟨rfl, trivial⟩, h_1⟩)
theorem b283_31 {X : (Nat → Int) × Nat} {d : Nat} {s : mSt} {Q : mQ} {x1 : Int} {x2 : Int} {l3 : Option mV} {l4 : Option mV} {l5 : Option mV} {l6 : Option mV} (h_1 : Sp X d 277 [mR 407] s (fun r s' => r = none ∧ Wp X (d + 1) 283 42 [some (mR 407), some (mI x1), some (mI x2), some (mI (-2)), some (mI (-2)), l5, l6] [] s' Q)) : Wp X (d + 1) 283 31 [some (mR 407), some (mI x1), some (mI x2), l3, l4, l5, l6] [] s Q := Wp_step k283 f283_31 (Wp_step k283 f283_33 (Wp_step k283 f283_34 (Wp_step k283 f283_36 (Wp_step k283 f283_38 (Wp_step k283 f283_39 ⟨⟨kf_407, Nat.le_of_ble_eq_true rfl⟩, Nat.le_refl _, _, rfl, Sp_V h_1⟩)))))
theorem b283_42 {X : (Nat → Int) × Nat} {d : Nat} {s : mSt} {Q : mQ} {x1 : Int} {x2 : Int} {x3 : Int} {x4 : Int} {l5 : Option mV} {l6 : Option mV} (h_1 : Wp X d 283 45 [some (mR 407), some (mI x1), some (mI x2), some (mI x3), some (mI x4), some (mI 0), l6] [] s Q) : Wp X d 283 42 [some (mR 407), some (mI x1), some (mI x2), some (mI x3), some (mI x4), l5, l6] [] s Q := Wp_step k283 f283_42 (Wp_step k283 f283_43 (h_1))
theorem b283_45 {X : (Nat → Int) × Nat} {d : Nat} {s : mSt} {Q : mQ} {x1 : Int} {x2 : Int} {x3 : Int} {x4 : Int} {x5 : Int} {l6 : Option mV} (h_1 : (s 417 3) ≤ x5 → Wp X d 283 114 [some (mR 407), some (mI x1), some (mI x2), some (mI x3), some (mI x4), some (mI x5), l6] [] s Q) (h_2 : ¬ (s 417 3) ≤ x5 → Wp X d 283 56 [some (mR 407), some (mI x1), some (mI x2), some (mI x3), some (mI x4), some (mI x5), l6] [] s Q) : Wp X d 283 45 [some (mR 407), some (mI x1), some (mI x2), some (mI x3), some (mI x4), some (mI x5), l6] [] s Q := Wp_step k283 f283_45 (Wp_step k283 f283_47 (Wp_step k283 f283_48 ⟨kf_407, 417, rf_407_20, Wp_step k283 f283_51 (Wp_step k283 f283_52 ⟨166, af_417, ⟨by decide, by decide⟩, Wp_step k283 f283_53 ⟨h_1, h_2⟩⟩)⟩))
theorem b283_56 {X : (Nat → Int) × Nat} {d : Nat} {s : mSt} {Q : mQ} {x1 : Int} {x2 : Int} {x3 : Int} {x4 : Int} {x5 : Int} {l6 : Option mV} (h_1 : 0 ≤ (w32 (6 + x5)) ∧ (w32 (6 + x5)) < 166) (h_2 : ¬ (s 417 (w32 (6 + x5)).toNat) = 15 → Wp X d 283 74 [some (mR 407), some (mI x1), some (mI x2), some (mI x3), some (mI x4), some (mI x5), l6] [] s Q) (h_3 : (s 417 (w32 (6 + x5)).toNat) = 15 → Wp X d 283 71 [some (mR 407), some (mI x1), some (mI x2), some (mI x3), some (mI x4), some (mI x5), l6] [] s Q) : Wp X d 283 56 [some (mR 407), some (mI x1), some (mI x2), some (mI x3), some (mI x4), some (mI x5), l6] [] s Q := Wp_step k283 f283_56 (Wp_step k283 f283_57 ⟨kf_407, 417, rf_407_20, Wp_step k283 f283_60 (Wp_step k283 f283_62 (Wp_step k283 f283_64 (Wp_step k283 f283_65 ⟨166, af_417, h_1, Wp_step k283 f283_66 (Wp_step k283 f283_68 ⟨h_2, h_3⟩)⟩)))⟩)
theorem b283_71 {X : (Nat → Int) × Nat} {d : Nat} {s : mSt} {Q : mQ} {x1 : Int} {x2 : Int} {x3 : Int} {x4 : Int} {x5 : Int} {l6 : Option mV} (h_1 : Wp X d 283 108 [some (mR 407), some (mI x1), some (mI x2), some (mI x3), some (mI x4), some (mI x5), l6] [] s Q) : Wp X d 283 71 [some (mR 407), some (mI x1), some (mI x2), some (mI x3), some (mI x4), some (mI x5), l6] [] s Q := Wp_step k283 f283_71 (h_1)
theorem b283_74 {X : (Nat → Int) × Nat} {d : Nat} {s : mSt} {Q : mQ} {x1 : Int} {x2 : Int} {x3 : Int} {x4 : Int} {x5 : Int} {l6 : Option mV} (h_1 : Sp X d 258 [mR 407, mI x5, mI x1] s (fun r s' => r = none ∧ Wp X (d + 1) 283 81 [some (mR 407), some (mI x1), some (mI x2), some (mI x3), some (mI x4), some (mI x5), l6] [] s' Q)) : Wp X (d + 1) 283 74 [some (mR 407), some (mI x1), some (mI x2), some (mI x3), some (mI x4), some (mI x5), l6] [] s Q := Wp_step k283 f283_74 (Wp_step k283 f283_75 (Wp_step k283 f283_77 (Wp_step k283 f283_78 ⟨⟨kf_407, Nat.le_of_ble_eq_true rfl⟩, Nat.le_refl _, _, rfl, Sp_V h_1⟩)))
theorem b283_81 {X : (Nat → Int) × Nat} {d : Nat} {s : mSt} {Q : mQ} {x1 : Int} {x2 : Int} {x3 : Int} {x4 : Int} {x5 : Int} {l6 : Option mV} (h_1 : Sp X d 282 [mR 407] s (fun r s' => ∃ v : Int, r = some (mI v) ∧ Wp X (d + 1) 283 85 [some (mR 407), some (mI x1), some (mI x2), some (mI x3), some (mI x4), some (mI x5), l6] [mI v] s' Q)) : Wp X (d + 1) 283 81 [some (mR 407), some (mI x1), some (mI x2), some (mI x3), some (mI x4), some (mI x5), l6] [] s Q := Wp_step k283 f283_81 (Wp_step k283 f283_82 ⟨⟨kf_407, Nat.le_of_ble_eq_true rfl⟩, Nat.le_refl _, _, rfl, Sp_E h_1⟩)
theorem b283_85 {X : (Nat → Int) × Nat} {d : Nat} {s : mSt} {Q : mQ} {x1 : Int} {x2 : Int} {x3 : Int} {x4 : Int} {x5 : Int} {l6 : Option mV} {xt0 : Int} (h_1 : Sp X d 278 [mR 407] s (fun r s' => r = none ∧ Wp X (d + 1) 283 91 [some (mR 407), some (mI x1), some (mI x2), some (mI x3), some (mI x4), some (mI x5), some (mI xt0)] [] s' Q)) : Wp X (d + 1) 283 85 [some (mR 407), some (mI x1), some (mI x2), some (mI x3), some (mI x4), some (mI x5), l6] [mI xt0] s Q := Wp_step k283 f283_85 (Wp_step k283 f283_87 (Wp_step k283 f283_88 ⟨⟨kf_407, Nat.le_of_ble_eq_true rfl⟩, Nat.le_refl _, _, rfl, Sp_V h_1⟩))
theorem b283_91 {X : (Nat → Int) × Nat} {d : Nat} {s : mSt} {Q : mQ} {x1 : Int} {x2 : Int} {x3 : Int} {x4 : Int} {x5 : Int} {x6 : Int} (h_1 : x4 < x6 → Wp X d 283 101 [some (mR 407), some (mI x1), some (mI x2), some (mI x3), some (mI x4), some (mI x5), some (mI x6)] [] s Q) (h_2 : ¬ x4 < x6 → Wp X d 283 98 [some (mR 407), some (mI x1), some (mI x2), some (mI x3), some (mI x4), some (mI x5), some (mI x6)] [] s Q) : Wp X d 283 91 [some (mR 407), some (mI x1), some (mI x2), some (mI x3), some (mI x4), some (mI x5), some (mI x6)] [] s Q := Wp_step k283 f283_91 (Wp_step k283 f283_93 (Wp_step k283 f283_95 ⟨h_1, h_2⟩))
theorem b283_98 {X : (Nat → Int) × Nat} {d : Nat} {s : mSt} {Q : mQ} {x1 : Int} {x2 : Int} {x3 : Int} {x4 : Int} {x5 : Int} {x6 : Int} (h_1 : Wp X d 283 108 [some (mR 407), some (mI x1), some (mI x2), some (mI x3), some (mI x4), some (mI x5), some (mI x6)] [] s Q) : Wp X d 283 98 [some (mR 407), some (mI x1), some (mI x2), some (mI x3), some (mI x4), some (mI x5), some (mI x6)] [] s Q := Wp_step k283 f283_98 (h_1)
theorem b283_101 {X : (Nat → Int) × Nat} {d : Nat} {s : mSt} {Q : mQ} {x1 : Int} {x2 : Int} {x3 : Int} {x4 : Int} {x5 : Int} {x6 : Int} (h_1 : Wp X d 283 108 [some (mR 407), some (mI x1), some (mI x2), some (mI x5), some (mI x6), some (mI x5), some (mI x6)] [] s Q) : Wp X d 283 101 [some (mR 407), some (mI x1), some (mI x2), some (mI x3), some (mI x4), some (mI x5), some (mI x6)] [] s Q := Wp_step k283 f283_101 (Wp_step k283 f283_103 (Wp_step k283 f283_104 (Wp_step k283 f283_106 (h_1))))
theorem b283_108 {X : (Nat → Int) × Nat} {d : Nat} {s : mSt} {Q : mQ} {x1 : Int} {x2 : Int} {x3 : Int} {x4 : Int} {x5 : Int} {l6 : Option mV} (h_1 : Wp X d 283 45 [some (mR 407), some (mI x1), some (mI x2), some (mI x3), some (mI x4), some (mI (w32 (x5 + 1))), l6] [] s Q) : Wp X d 283 108 [some (mR 407), some (mI x1), some (mI x2), some (mI x3), some (mI x4), some (mI x5), l6] [] s Q := Wp_step k283 f283_108 (Wp_step k283 f283_111 (h_1))
theorem b283_114 {X : (Nat → Int) × Nat} {d : Nat} {s : mSt} {Q : mQ} {x1 : Int} {x2 : Int} {x3 : Int} {x4 : Int} {x5 : Int} {l6 : Option mV} (h_1 : ¬ x2 = 0 → Wp X d 283 122 [some (mR 407), some (mI x1), some (mI x2), some (mI x3), some (mI x4), some (mI x5), l6] [] s Q) (h_2 : x2 = 0 → Wp X d 283 118 [some (mR 407), some (mI x1), some (mI x2), some (mI x3), some (mI x4), some (mI x5), l6] [] s Q) : Wp X d 283 114 [some (mR 407), some (mI x1), some (mI x2), some (mI x3), some (mI x4), some (mI x5), l6] [] s Q := Wp_step k283 f283_114 (Wp_step k283 f283_115 ⟨h_1, h_2⟩)
theorem b283_118 {X : (Nat → Int) × Nat} {d : Nat} {s : mSt} {Q : mQ} {x1 : Int} {x2 : Int} {x3 : Int} {x4 : Int} {x5 : Int} {l6 : Option mV} (h_1 : Wp X d 283 124 [some (mR 407), some (mI x1), some (mI x2), some (mI x3), some (mI x4), some (mI x5), l6] [mI x3] s Q) : Wp X d 283 118 [some (mR 407), some (mI x1), some (mI x2), some (mI x3), some (mI x4), some (mI x5), l6] [] s Q := Wp_step k283 f283_118 (Wp_step k283 f283_119 (h_1))
theorem b283_122 {X : (Nat → Int) × Nat} {d : Nat} {s : mSt} {Q : mQ} {x1 : Int} {x2 : Int} {x3 : Int} {x4 : Int} {x5 : Int} {l6 : Option mV} (h_1 : Wp X d 283 124 [some (mR 407), some (mI x1), some (mI x2), some (mI x3), some (mI x4), some (mI x5), l6] [mI x4] s Q) : Wp X d 283 122 [some (mR 407), some (mI x1), some (mI x2), some (mI x3), some (mI x4), some (mI x5), l6] [] s Q := Wp_step k283 f283_122 (h_1)
theorem b283_124 {X : (Nat → Int) × Nat} {d : Nat} {s : mSt} {Q : mQ} {x1 : Int} {x2 : Int} {x3 : Int} {x4 : Int} {x5 : Int} {l6 : Option mV} {xt0 : Int} (h_1 : Q (some (mI xt0)) s) : Wp X d 283 124 [some (mR 407), some (mI x1), some (mI x2), some (mI x3), some (mI x4), some (mI x5), l6] [mI xt0] s Q := Wp_step k283 f283_124 ⟨⟨rfl, trivial⟩, h_1⟩
theorem e283 {X : (Nat → Int) × Nat} {d : Nat} {s : mSt} {Q : mQ} {x1 : Int} {x2 : Int} (h : Wp X d 283 0 [some (mR 407), some (mI x1), some (mI x2), none, none, none, none] [] s Q) : Sp X d 283 [mR 407, mI x1, mI x2] s Q := Sp_of (show mCe 283 = 0 by decide +kernel) (by rw [show mML 283 = 7 by decide +kernel]; rfl) (Nat.le_trans (Nat.le_of_ble_eq_true (show Nat.ble (mArgs _).length 7 = true from rfl)) (show 7 ≤ mML 283 by decide +kernel)) h
-- 284 ClashDayModel.fullSlots()I
theorem k284 : mRk 284 = 1 := by decide +kernel
theorem f284_0 : mFetch 284 0 = some (.iconst 0, 1, 0, 0, 0, 0) := by decide +kernel
theorem f284_1 : mFetch 284 1 = some (.istore_n 1, 1, 0, 0, 0, 0) := by decide +kernel
theorem f284_2 : mFetch 284 2 = some (.iconst 0, 1, 0, 0, 0, 0) := by decide +kernel
theorem f284_3 : mFetch 284 3 = some (.istore_n 2, 1, 0, 0, 0, 0) := by decide +kernel
theorem f284_4 : mFetch 284 4 = some (.iload_n 2, 1, 0, 0, 0, 0) := by decide +kernel
theorem f284_5 : mFetch 284 5 = some (.bipush 30, 2, 0, 0, 0, 0) := by decide +kernel
theorem f284_7 : mFetch 284 7 = some (.if_icmp .ge 27, 3, 34, 0, 0, 0) := by decide +kernel
theorem f284_10 : mFetch 284 10 = some (.iload_n 1, 1, 0, 0, 0, 0) := by decide +kernel
theorem f284_11 : mFetch 284 11 = some (.aload_n 0, 1, 0, 0, 0, 0) := by decide +kernel
theorem f284_12 : mFetch 284 12 = some (.iload_n 2, 1, 0, 0, 0, 0) := by decide +kernel
theorem f284_13 : mFetch 284 13 = some (.invokevirtual 359, 3, 223, 0, 2, 12) := by decide +kernel
theorem f284_16 : mFetch 284 16 = some (.ifCond .ne 9, 3, 25, 0, 0, 0) := by decide +kernel
theorem f284_19 : mFetch 284 19 = some (.iconst 1, 1, 0, 0, 0, 0) := by decide +kernel
theorem f284_20 : mFetch 284 20 = some (.iload_n 2, 1, 0, 0, 0, 0) := by decide +kernel
theorem f284_21 : mFetch 284 21 = some (.ishl, 1, 0, 0, 0, 0) := by decide +kernel
theorem f284_22 : mFetch 284 22 = some (.goto 4, 3, 26, 0, 0, 0) := by decide +kernel
theorem f284_25 : mFetch 284 25 = some (.iconst 0, 1, 0, 0, 0, 0) := by decide +kernel
theorem f284_26 : mFetch 284 26 = some (.ior, 1, 0, 0, 0, 0) := by decide +kernel
theorem f284_27 : mFetch 284 27 = some (.istore_n 1, 1, 0, 0, 0, 0) := by decide +kernel
theorem f284_28 : mFetch 284 28 = some (.iinc 2 1, 3, 0, 0, 0, 0) := by decide +kernel
theorem f284_31 : mFetch 284 31 = some (.goto (-27), 3, 4, 0, 0, 0) := by decide +kernel
theorem f284_34 : mFetch 284 34 = some (.iload_n 1, 1, 0, 0, 0, 0) := by decide +kernel
theorem f284_35 : mFetch 284 35 = some (.ireturn, 1, 0, 0, 0, 0) := by decide +kernel
theorem b284_0 {X : (Nat → Int) × Nat} {d : Nat} {s : mSt} {Q : mQ} {l1 : Option mV} {l2 : Option mV} (h_1 : Wp X d 284 4 [some (mR 407), some (mI 0), some (mI 0)] [] s Q) : Wp X d 284 0 [some (mR 407), l1, l2] [] s Q := Wp_step k284 f284_0 (Wp_step k284 f284_1 (Wp_step k284 f284_2 (Wp_step k284 f284_3 (h_1))))
theorem b284_4 {X : (Nat → Int) × Nat} {d : Nat} {s : mSt} {Q : mQ} {x1 : Int} {x2 : Int} (h_1 : 30 ≤ x2 → Wp X d 284 34 [some (mR 407), some (mI x1), some (mI x2)] [] s Q) (h_2 : ¬ 30 ≤ x2 → Wp X d 284 10 [some (mR 407), some (mI x1), some (mI x2)] [] s Q) : Wp X d 284 4 [some (mR 407), some (mI x1), some (mI x2)] [] s Q := Wp_step k284 f284_4 (Wp_step k284 f284_5 (Wp_step k284 f284_7 ⟨h_1, h_2⟩))
theorem b284_10 {X : (Nat → Int) × Nat} {d : Nat} {s : mSt} {Q : mQ} {x1 : Int} {x2 : Int} (h_1 : Sp X d 223 [mR 407, mI x2] s (fun r s' => ∃ v : Int, r = some (mI v) ∧ Wp X (d + 1) 284 16 [some (mR 407), some (mI x1), some (mI x2)] [mI v, mI x1] s' Q)) : Wp X (d + 1) 284 10 [some (mR 407), some (mI x1), some (mI x2)] [] s Q := Wp_step k284 f284_10 (Wp_step k284 f284_11 (Wp_step k284 f284_12 (Wp_step k284 f284_13 ⟨⟨kf_407, Nat.le_of_ble_eq_true rfl⟩, Nat.le_refl _, _, rfl, Sp_E h_1⟩)))
theorem b284_16 {X : (Nat → Int) × Nat} {d : Nat} {s : mSt} {Q : mQ} {x1 : Int} {x2 : Int} {xt0 : Int} {xt1 : Int} (h_1 : ¬ xt1 = 0 → Wp X d 284 25 [some (mR 407), some (mI x1), some (mI x2)] [mI xt0] s Q) (h_2 : xt1 = 0 → Wp X d 284 19 [some (mR 407), some (mI x1), some (mI x2)] [mI xt0] s Q) : Wp X d 284 16 [some (mR 407), some (mI x1), some (mI x2)] [mI xt1, mI xt0] s Q := Wp_step k284 f284_16 ⟨h_1, h_2⟩
theorem b284_19 {X : (Nat → Int) × Nat} {d : Nat} {s : mSt} {Q : mQ} {x1 : Int} {x2 : Int} {xt0 : Int} (h_1 : Wp X d 284 26 [some (mR 407), some (mI x1), some (mI x2)] [mI (iShl 1 x2), mI xt0] s Q) : Wp X d 284 19 [some (mR 407), some (mI x1), some (mI x2)] [mI xt0] s Q := Wp_step k284 f284_19 (Wp_step k284 f284_20 (Wp_step k284 f284_21 (Wp_step k284 f284_22 (h_1))))
theorem b284_25 {X : (Nat → Int) × Nat} {d : Nat} {s : mSt} {Q : mQ} {x1 : Int} {x2 : Int} {xt0 : Int} (h_1 : Wp X d 284 26 [some (mR 407), some (mI x1), some (mI x2)] [mI 0, mI xt0] s Q) : Wp X d 284 25 [some (mR 407), some (mI x1), some (mI x2)] [mI xt0] s Q := Wp_step k284 f284_25 (h_1)
theorem b284_26 {X : (Nat → Int) × Nat} {d : Nat} {s : mSt} {Q : mQ} {x1 : Int} {x2 : Int} {xt0 : Int} {xt1 : Int} (h_1 : Wp X d 284 4 [some (mR 407), some (mI (iOr xt0 xt1)), some (mI (w32 (x2 + 1)))] [] s Q) : Wp X d 284 26 [some (mR 407), some (mI x1), some (mI x2)] [mI xt1, mI xt0] s Q := Wp_step k284 f284_26 (Wp_step k284 f284_27 (Wp_step k284 f284_28 (Wp_step k284 f284_31 (h_1))))
theorem b284_34 {X : (Nat → Int) × Nat} {d : Nat} {s : mSt} {Q : mQ} {x1 : Int} {x2 : Int} (h_1 : Q (some (mI x1)) s) : Wp X d 284 34 [some (mR 407), some (mI x1), some (mI x2)] [] s Q := Wp_step k284 f284_34 (Wp_step k284 f284_35 ⟨⟨rfl, trivial⟩, h_1⟩)
theorem e284 {X : (Nat → Int) × Nat} {d : Nat} {s : mSt} {Q : mQ} (h : Wp X d 284 0 [some (mR 407), none, none] [] s Q) : Sp X d 284 [mR 407] s Q := Sp_of (show mCe 284 = 0 by decide +kernel) (by rw [show mML 284 = 3 by decide +kernel]; rfl) (Nat.le_trans (Nat.le_of_ble_eq_true (show Nat.ble (mArgs _).length 3 = true from rfl)) (show 3 ≤ mML 284 by decide +kernel)) h
-- 285 ClashDayModel.plannedMany()I
theorem k285 : mRk 285 = 1 := by decide +kernel
theorem f285_0 : mFetch 285 0 = some (.aload_n 0, 1, 0, 0, 0, 0) := by decide +kernel
theorem f285_1 : mFetch 285 1 = some (.getfield 39, 3, 12, 20, 2, 1) := by decide +kernel
theorem f285_4 : mFetch 285 4 = some (.iconst 4, 1, 0, 0, 0, 0) := by decide +kernel
theorem f285_5 : mFetch 285 5 = some (.iaload, 1, 0, 0, 0, 0) := by decide +kernel
theorem f285_6 : mFetch 285 6 = some (.aload_n 0, 1, 0, 0, 0, 0) := by decide +kernel
theorem f285_7 : mFetch 285 7 = some (.invokevirtual 436, 3, 221, 0, 1, 12) := by decide +kernel
theorem f285_10 : mFetch 285 10 = some (.invokestatic 427, 3, 169, 0, 1, 99) := by decide +kernel
theorem f285_13 : mFetch 285 13 = some (.isub, 1, 0, 0, 0, 0) := by decide +kernel
theorem f285_14 : mFetch 285 14 = some (.ireturn, 1, 0, 0, 0, 0) := by decide +kernel
theorem b285_0 {X : (Nat → Int) × Nat} {d : Nat} {s : mSt} {Q : mQ} (h_1 : Sp X d 221 [mR 407] s (fun r s' => ∃ v : Int, r = some (mI v) ∧ Wp X (d + 1) 285 10 [some (mR 407)] [mI v, mI (s 417 4)] s' Q)) : Wp X (d + 1) 285 0 [some (mR 407)] [] s Q := Wp_step k285 f285_0 (Wp_step k285 f285_1 ⟨kf_407, 417, rf_407_20, Wp_step k285 f285_4 (Wp_step k285 f285_5 ⟨166, af_417, ⟨by decide, by decide⟩, Wp_step k285 f285_6 (Wp_step k285 f285_7 ⟨⟨kf_407, Nat.le_of_ble_eq_true rfl⟩, Nat.le_refl _, _, rfl, Sp_E h_1⟩)⟩)⟩)
theorem b285_10 {X : (Nat → Int) × Nat} {d : Nat} {s : mSt} {Q : mQ} {xt0 : Int} {xt1 : Int} (h_1 : Sp X d 169 [mI xt1] s (fun r s' => ∃ v : Int, r = some (mI v) ∧ Wp X (d + 1) 285 13 [some (mR 407)] [mI v, mI xt0] s' Q)) : Wp X (d + 1) 285 10 [some (mR 407)] [mI xt1, mI xt0] s Q := Wp_step k285 f285_10 ⟨⟨Nat.le_of_ble_eq_true rfl, Nat.le_refl _⟩, _, rfl, Sp_E h_1⟩
theorem b285_13 {X : (Nat → Int) × Nat} {d : Nat} {s : mSt} {Q : mQ} {xt0 : Int} {xt1 : Int} (h_1 : Q (some (mI (w32 (xt0 - xt1)))) s) : Wp X d 285 13 [some (mR 407)] [mI xt1, mI xt0] s Q := Wp_step k285 f285_13 (Wp_step k285 f285_14 ⟨⟨rfl, trivial⟩, h_1⟩)
theorem e285 {X : (Nat → Int) × Nat} {d : Nat} {s : mSt} {Q : mQ} (h : Wp X d 285 0 [some (mR 407)] [] s Q) : Sp X d 285 [mR 407] s Q := Sp_of (show mCe 285 = 0 by decide +kernel) (by rw [show mML 285 = 1 by decide +kernel]; rfl) (Nat.le_trans (Nat.le_of_ble_eq_true (show Nat.ble (mArgs _).length 1 = true from rfl)) (show 1 ≤ mML 285 by decide +kernel)) h
-- 286 ClashDayModel.ahead(II)I
theorem k286 : mRk 286 = 1 := by decide +kernel
theorem f286_0 : mFetch 286 0 = some (.aload_n 0, 1, 0, 0, 0, 0) := by decide +kernel
theorem f286_1 : mFetch 286 1 = some (.invokevirtual 354, 3, 212, 0, 1, 12) := by decide +kernel
theorem f286_4 : mFetch 286 4 = some (.ifCond .eq 27, 3, 31, 0, 0, 0) := by decide +kernel
theorem f286_7 : mFetch 286 7 = some (.iload_n 1, 1, 0, 0, 0, 0) := by decide +kernel
theorem f286_8 : mFetch 286 8 = some (.i2l, 1, 0, 0, 0, 0) := by decide +kernel
theorem f286_9 : mFetch 286 9 = some (.lconst 0, 1, 0, 0, 0, 0) := by decide +kernel
theorem f286_10 : mFetch 286 10 = some (.ldc2_w 514, 3, 20, 0, 0, 0) := by decide +kernel
theorem f286_13 : mFetch 286 13 = some (.invokestatic 151, 3, 167, 0, 3, 99) := by decide +kernel
theorem f286_16 : mFetch 286 16 = some (.ifCond .eq 15, 3, 31, 0, 0, 0) := by decide +kernel
theorem f286_19 : mFetch 286 19 = some (.iload_n 2, 1, 0, 0, 0, 0) := by decide +kernel
theorem f286_20 : mFetch 286 20 = some (.i2l, 1, 0, 0, 0, 0) := by decide +kernel
theorem f286_21 : mFetch 286 21 = some (.lconst 0, 1, 0, 0, 0, 0) := by decide +kernel
theorem f286_22 : mFetch 286 22 = some (.ldc2_w 352, 3, 2, 0, 0, 0) := by decide +kernel
theorem f286_25 : mFetch 286 25 = some (.invokestatic 151, 3, 167, 0, 3, 99) := by decide +kernel
theorem f286_28 : mFetch 286 28 = some (.ifCond .ne 5, 3, 33, 0, 0, 0) := by decide +kernel
theorem f286_31 : mFetch 286 31 = some (.iconst (-1), 1, 0, 0, 0, 0) := by decide +kernel
theorem f286_32 : mFetch 286 32 = some (.ireturn, 1, 0, 0, 0, 0) := by decide +kernel
theorem f286_33 : mFetch 286 33 = some (.aload_n 0, 1, 0, 0, 0, 0) := by decide +kernel
theorem f286_34 : mFetch 286 34 = some (.invokevirtual 502, 3, 277, 0, 1, 12) := by decide +kernel
theorem f286_37 : mFetch 286 37 = some (.aload_n 0, 1, 0, 0, 0, 0) := by decide +kernel
theorem f286_38 : mFetch 286 38 = some (.iload_n 1, 1, 0, 0, 0, 0) := by decide +kernel
theorem f286_39 : mFetch 286 39 = some (.invokevirtual 516, 3, 252, 0, 2, 12) := by decide +kernel
theorem f286_42 : mFetch 286 42 = some (.iload_n 2, 1, 0, 0, 0, 0) := by decide +kernel
theorem f286_43 : mFetch 286 43 = some (.ifCond .ne 10, 3, 53, 0, 0, 0) := by decide +kernel
theorem f286_46 : mFetch 286 46 = some (.aload_n 0, 1, 0, 0, 0, 0) := by decide +kernel
theorem f286_47 : mFetch 286 47 = some (.invokevirtual 519, 3, 285, 0, 1, 12) := by decide +kernel
theorem f286_50 : mFetch 286 50 = some (.goto 19, 3, 69, 0, 0, 0) := by decide +kernel
theorem f286_53 : mFetch 286 53 = some (.iload_n 2, 1, 0, 0, 0, 0) := by decide +kernel
theorem f286_54 : mFetch 286 54 = some (.iconst 1, 1, 0, 0, 0, 0) := by decide +kernel
theorem f286_55 : mFetch 286 55 = some (.if_icmp .ne 10, 3, 65, 0, 0, 0) := by decide +kernel
theorem f286_58 : mFetch 286 58 = some (.aload_n 0, 1, 0, 0, 0, 0) := by decide +kernel
theorem f286_59 : mFetch 286 59 = some (.invokevirtual 522, 3, 226, 0, 1, 12) := by decide +kernel
theorem f286_62 : mFetch 286 62 = some (.goto 7, 3, 69, 0, 0, 0) := by decide +kernel
theorem f286_65 : mFetch 286 65 = some (.aload_n 0, 1, 0, 0, 0, 0) := by decide +kernel
theorem f286_66 : mFetch 286 66 = some (.invokevirtual 525, 3, 284, 0, 1, 12) := by decide +kernel
theorem f286_69 : mFetch 286 69 = some (.istore_n 3, 1, 0, 0, 0, 0) := by decide +kernel
theorem f286_70 : mFetch 286 70 = some (.aload_n 0, 1, 0, 0, 0, 0) := by decide +kernel
theorem f286_71 : mFetch 286 71 = some (.invokevirtual 491, 3, 278, 0, 1, 12) := by decide +kernel
theorem f286_74 : mFetch 286 74 = some (.iload_n 3, 1, 0, 0, 0, 0) := by decide +kernel
theorem f286_75 : mFetch 286 75 = some (.ireturn, 1, 0, 0, 0, 0) := by decide +kernel
theorem b286_0 {X : (Nat → Int) × Nat} {d : Nat} {s : mSt} {Q : mQ} {x1 : Int} {x2 : Int} {l3 : Option mV} (h_1 : Sp X d 212 [mR 407] s (fun r s' => ∃ v : Int, r = some (mI v) ∧ Wp X (d + 1) 286 4 [some (mR 407), some (mI x1), some (mI x2), l3] [mI v] s' Q)) : Wp X (d + 1) 286 0 [some (mR 407), some (mI x1), some (mI x2), l3] [] s Q := Wp_step k286 f286_0 (Wp_step k286 f286_1 ⟨⟨kf_407, Nat.le_of_ble_eq_true rfl⟩, Nat.le_refl _, _, rfl, Sp_E h_1⟩)
theorem b286_4 {X : (Nat → Int) × Nat} {d : Nat} {s : mSt} {Q : mQ} {x1 : Int} {x2 : Int} {l3 : Option mV} {xt0 : Int} (h_1 : xt0 = 0 → Wp X d 286 31 [some (mR 407), some (mI x1), some (mI x2), l3] [] s Q) (h_2 : ¬ xt0 = 0 → Wp X d 286 7 [some (mR 407), some (mI x1), some (mI x2), l3] [] s Q) : Wp X d 286 4 [some (mR 407), some (mI x1), some (mI x2), l3] [mI xt0] s Q := Wp_step k286 f286_4 ⟨h_1, h_2⟩
theorem b286_7 {X : (Nat → Int) × Nat} {d : Nat} {s : mSt} {Q : mQ} {x1 : Int} {x2 : Int} {l3 : Option mV} (h_1 : Sp X d 167 [mJ x1, mJ 0, mJ 20] s (fun r s' => ∃ v : Int, r = some (mI v) ∧ Wp X (d + 1) 286 16 [some (mR 407), some (mI x1), some (mI x2), l3] [mI v] s' Q)) : Wp X (d + 1) 286 7 [some (mR 407), some (mI x1), some (mI x2), l3] [] s Q := Wp_step k286 f286_7 (Wp_step k286 f286_8 (Wp_step k286 f286_9 (Wp_step k286 f286_10 (Wp_step k286 f286_13 ⟨⟨Nat.le_of_ble_eq_true rfl, Nat.le_refl _⟩, _, rfl, Sp_E h_1⟩))))
theorem b286_16 {X : (Nat → Int) × Nat} {d : Nat} {s : mSt} {Q : mQ} {x1 : Int} {x2 : Int} {l3 : Option mV} {xt0 : Int} (h_1 : xt0 = 0 → Wp X d 286 31 [some (mR 407), some (mI x1), some (mI x2), l3] [] s Q) (h_2 : ¬ xt0 = 0 → Wp X d 286 19 [some (mR 407), some (mI x1), some (mI x2), l3] [] s Q) : Wp X d 286 16 [some (mR 407), some (mI x1), some (mI x2), l3] [mI xt0] s Q := Wp_step k286 f286_16 ⟨h_1, h_2⟩
theorem b286_19 {X : (Nat → Int) × Nat} {d : Nat} {s : mSt} {Q : mQ} {x1 : Int} {x2 : Int} {l3 : Option mV} (h_1 : Sp X d 167 [mJ x2, mJ 0, mJ 2] s (fun r s' => ∃ v : Int, r = some (mI v) ∧ Wp X (d + 1) 286 28 [some (mR 407), some (mI x1), some (mI x2), l3] [mI v] s' Q)) : Wp X (d + 1) 286 19 [some (mR 407), some (mI x1), some (mI x2), l3] [] s Q := Wp_step k286 f286_19 (Wp_step k286 f286_20 (Wp_step k286 f286_21 (Wp_step k286 f286_22 (Wp_step k286 f286_25 ⟨⟨Nat.le_of_ble_eq_true rfl, Nat.le_refl _⟩, _, rfl, Sp_E h_1⟩))))
theorem b286_28 {X : (Nat → Int) × Nat} {d : Nat} {s : mSt} {Q : mQ} {x1 : Int} {x2 : Int} {l3 : Option mV} {xt0 : Int} (h_1 : ¬ xt0 = 0 → Wp X d 286 33 [some (mR 407), some (mI x1), some (mI x2), l3] [] s Q) (h_2 : xt0 = 0 → Wp X d 286 31 [some (mR 407), some (mI x1), some (mI x2), l3] [] s Q) : Wp X d 286 28 [some (mR 407), some (mI x1), some (mI x2), l3] [mI xt0] s Q := Wp_step k286 f286_28 ⟨h_1, h_2⟩
theorem b286_31 {X : (Nat → Int) × Nat} {d : Nat} {s : mSt} {Q : mQ} {x1 : Int} {x2 : Int} {l3 : Option mV} (h_1 : Q (some (mI (-1))) s) : Wp X d 286 31 [some (mR 407), some (mI x1), some (mI x2), l3] [] s Q := Wp_step k286 f286_31 (Wp_step k286 f286_32 ⟨⟨rfl, trivial⟩, h_1⟩)
theorem b286_33 {X : (Nat → Int) × Nat} {d : Nat} {s : mSt} {Q : mQ} {x1 : Int} {x2 : Int} {l3 : Option mV} (h_1 : Sp X d 277 [mR 407] s (fun r s' => r = none ∧ Wp X (d + 1) 286 37 [some (mR 407), some (mI x1), some (mI x2), l3] [] s' Q)) : Wp X (d + 1) 286 33 [some (mR 407), some (mI x1), some (mI x2), l3] [] s Q := Wp_step k286 f286_33 (Wp_step k286 f286_34 ⟨⟨kf_407, Nat.le_of_ble_eq_true rfl⟩, Nat.le_refl _, _, rfl, Sp_V h_1⟩)
theorem b286_37 {X : (Nat → Int) × Nat} {d : Nat} {s : mSt} {Q : mQ} {x1 : Int} {x2 : Int} {l3 : Option mV} (h_1 : Sp X d 252 [mR 407, mI x1] s (fun r s' => r = none ∧ Wp X (d + 1) 286 42 [some (mR 407), some (mI x1), some (mI x2), l3] [] s' Q)) : Wp X (d + 1) 286 37 [some (mR 407), some (mI x1), some (mI x2), l3] [] s Q := Wp_step k286 f286_37 (Wp_step k286 f286_38 (Wp_step k286 f286_39 ⟨⟨kf_407, Nat.le_of_ble_eq_true rfl⟩, Nat.le_refl _, _, rfl, Sp_V h_1⟩))
theorem b286_42 {X : (Nat → Int) × Nat} {d : Nat} {s : mSt} {Q : mQ} {x1 : Int} {x2 : Int} {l3 : Option mV} (h_1 : ¬ x2 = 0 → Wp X d 286 53 [some (mR 407), some (mI x1), some (mI x2), l3] [] s Q) (h_2 : x2 = 0 → Wp X d 286 46 [some (mR 407), some (mI x1), some (mI x2), l3] [] s Q) : Wp X d 286 42 [some (mR 407), some (mI x1), some (mI x2), l3] [] s Q := Wp_step k286 f286_42 (Wp_step k286 f286_43 ⟨h_1, h_2⟩)
theorem b286_46 {X : (Nat → Int) × Nat} {d : Nat} {s : mSt} {Q : mQ} {x1 : Int} {x2 : Int} {l3 : Option mV} (h_1 : Sp X d 285 [mR 407] s (fun r s' => ∃ v : Int, r = some (mI v) ∧ Wp X (d + 1) 286 50 [some (mR 407), some (mI x1), some (mI x2), l3] [mI v] s' Q)) : Wp X (d + 1) 286 46 [some (mR 407), some (mI x1), some (mI x2), l3] [] s Q := Wp_step k286 f286_46 (Wp_step k286 f286_47 ⟨⟨kf_407, Nat.le_of_ble_eq_true rfl⟩, Nat.le_refl _, _, rfl, Sp_E h_1⟩)
theorem b286_50 {X : (Nat → Int) × Nat} {d : Nat} {s : mSt} {Q : mQ} {x1 : Int} {x2 : Int} {l3 : Option mV} {xt0 : Int} (h_1 : Wp X d 286 69 [some (mR 407), some (mI x1), some (mI x2), l3] [mI xt0] s Q) : Wp X d 286 50 [some (mR 407), some (mI x1), some (mI x2), l3] [mI xt0] s Q := Wp_step k286 f286_50 (h_1)
theorem b286_53 {X : (Nat → Int) × Nat} {d : Nat} {s : mSt} {Q : mQ} {x1 : Int} {x2 : Int} {l3 : Option mV} (h_1 : ¬ x2 = 1 → Wp X d 286 65 [some (mR 407), some (mI x1), some (mI x2), l3] [] s Q) (h_2 : x2 = 1 → Wp X d 286 58 [some (mR 407), some (mI x1), some (mI x2), l3] [] s Q) : Wp X d 286 53 [some (mR 407), some (mI x1), some (mI x2), l3] [] s Q := Wp_step k286 f286_53 (Wp_step k286 f286_54 (Wp_step k286 f286_55 ⟨h_1, h_2⟩))
theorem b286_58 {X : (Nat → Int) × Nat} {d : Nat} {s : mSt} {Q : mQ} {x1 : Int} {x2 : Int} {l3 : Option mV} (h_1 : Sp X d 226 [mR 407] s (fun r s' => ∃ v : Int, r = some (mI v) ∧ Wp X (d + 1) 286 62 [some (mR 407), some (mI x1), some (mI x2), l3] [mI v] s' Q)) : Wp X (d + 1) 286 58 [some (mR 407), some (mI x1), some (mI x2), l3] [] s Q := Wp_step k286 f286_58 (Wp_step k286 f286_59 ⟨⟨kf_407, Nat.le_of_ble_eq_true rfl⟩, Nat.le_refl _, _, rfl, Sp_E h_1⟩)
theorem b286_62 {X : (Nat → Int) × Nat} {d : Nat} {s : mSt} {Q : mQ} {x1 : Int} {x2 : Int} {l3 : Option mV} {xt0 : Int} (h_1 : Wp X d 286 69 [some (mR 407), some (mI x1), some (mI x2), l3] [mI xt0] s Q) : Wp X d 286 62 [some (mR 407), some (mI x1), some (mI x2), l3] [mI xt0] s Q := Wp_step k286 f286_62 (h_1)
theorem b286_65 {X : (Nat → Int) × Nat} {d : Nat} {s : mSt} {Q : mQ} {x1 : Int} {x2 : Int} {l3 : Option mV} (h_1 : Sp X d 284 [mR 407] s (fun r s' => ∃ v : Int, r = some (mI v) ∧ Wp X (d + 1) 286 69 [some (mR 407), some (mI x1), some (mI x2), l3] [mI v] s' Q)) : Wp X (d + 1) 286 65 [some (mR 407), some (mI x1), some (mI x2), l3] [] s Q := Wp_step k286 f286_65 (Wp_step k286 f286_66 ⟨⟨kf_407, Nat.le_of_ble_eq_true rfl⟩, Nat.le_refl _, _, rfl, Sp_E h_1⟩)
theorem b286_69 {X : (Nat → Int) × Nat} {d : Nat} {s : mSt} {Q : mQ} {x1 : Int} {x2 : Int} {l3 : Option mV} {xt0 : Int} (h_1 : Sp X d 278 [mR 407] s (fun r s' => r = none ∧ Wp X (d + 1) 286 74 [some (mR 407), some (mI x1), some (mI x2), some (mI xt0)] [] s' Q)) : Wp X (d + 1) 286 69 [some (mR 407), some (mI x1), some (mI x2), l3] [mI xt0] s Q := Wp_step k286 f286_69 (Wp_step k286 f286_70 (Wp_step k286 f286_71 ⟨⟨kf_407, Nat.le_of_ble_eq_true rfl⟩, Nat.le_refl _, _, rfl, Sp_V h_1⟩))
theorem b286_74 {X : (Nat → Int) × Nat} {d : Nat} {s : mSt} {Q : mQ} {x1 : Int} {x2 : Int} {x3 : Int} (h_1 : Q (some (mI x3)) s) : Wp X d 286 74 [some (mR 407), some (mI x1), some (mI x2), some (mI x3)] [] s Q := Wp_step k286 f286_74 (Wp_step k286 f286_75 ⟨⟨rfl, trivial⟩, h_1⟩)
theorem e286 {X : (Nat → Int) × Nat} {d : Nat} {s : mSt} {Q : mQ} {x1 : Int} {x2 : Int} (h : Wp X d 286 0 [some (mR 407), some (mI x1), some (mI x2), none] [] s Q) : Sp X d 286 [mR 407, mI x1, mI x2] s Q := Sp_of (show mCe 286 = 0 by decide +kernel) (by rw [show mML 286 = 4 by decide +kernel]; rfl) (Nat.le_trans (Nat.le_of_ble_eq_true (show Nat.ble (mArgs _).length 4 = true from rfl)) (show 4 ≤ mML 286 by decide +kernel)) h
-- 287 ClashDayModel.when(I)I
theorem k287 : mRk 287 = 1 := by decide +kernel
theorem f287_0 : mFetch 287 0 = some (.aload_n 0, 1, 0, 0, 0, 0) := by decide +kernel
theorem f287_1 : mFetch 287 1 = some (.iload_n 1, 1, 0, 0, 0, 0) := by decide +kernel
theorem f287_2 : mFetch 287 2 = some (.invokevirtual 328, 3, 215, 0, 2, 12) := by decide +kernel
theorem f287_5 : mFetch 287 5 = some (.ifCond .ne 5, 3, 10, 0, 0, 0) := by decide +kernel
theorem f287_8 : mFetch 287 8 = some (.iconst (-1), 1, 0, 0, 0, 0) := by decide +kernel
theorem f287_9 : mFetch 287 9 = some (.ireturn, 1, 0, 0, 0, 0) := by decide +kernel
theorem f287_10 : mFetch 287 10 = some (.bipush (-2), 2, 0, 0, 0, 0) := by decide +kernel
theorem f287_12 : mFetch 287 12 = some (.istore_n 2, 1, 0, 0, 0, 0) := by decide +kernel
theorem f287_13 : mFetch 287 13 = some (.aload_n 0, 1, 0, 0, 0, 0) := by decide +kernel
theorem f287_14 : mFetch 287 14 = some (.invokevirtual 502, 3, 277, 0, 1, 12) := by decide +kernel
theorem f287_17 : mFetch 287 17 = some (.iconst 0, 1, 0, 0, 0, 0) := by decide +kernel
theorem f287_18 : mFetch 287 18 = some (.istore_n 3, 1, 0, 0, 0, 0) := by decide +kernel
theorem f287_19 : mFetch 287 19 = some (.iload_n 3, 1, 0, 0, 0, 0) := by decide +kernel
theorem f287_20 : mFetch 287 20 = some (.bipush 20, 2, 0, 0, 0, 0) := by decide +kernel
theorem f287_22 : mFetch 287 22 = some (.if_icmp .ge 30, 3, 52, 0, 0, 0) := by decide +kernel
theorem f287_25 : mFetch 287 25 = some (.iload_n 2, 1, 0, 0, 0, 0) := by decide +kernel
theorem f287_26 : mFetch 287 26 = some (.ifCond .ge 26, 3, 52, 0, 0, 0) := by decide +kernel
theorem f287_29 : mFetch 287 29 = some (.aload_n 0, 1, 0, 0, 0, 0) := by decide +kernel
theorem f287_30 : mFetch 287 30 = some (.invokevirtual 452, 3, 251, 0, 1, 12) := by decide +kernel
theorem f287_33 : mFetch 287 33 = some (.iload_n 1, 1, 0, 0, 0, 0) := by decide +kernel
theorem f287_34 : mFetch 287 34 = some (.if_icmp .ne 12, 3, 46, 0, 0, 0) := by decide +kernel
theorem f287_37 : mFetch 287 37 = some (.aload_n 0, 1, 0, 0, 0, 0) := by decide +kernel
theorem f287_38 : mFetch 287 38 = some (.getfield 39, 3, 12, 20, 2, 1) := by decide +kernel
theorem f287_41 : mFetch 287 41 = some (.iconst 5, 1, 0, 0, 0, 0) := by decide +kernel
theorem f287_42 : mFetch 287 42 = some (.iaload, 1, 0, 0, 0, 0) := by decide +kernel
theorem f287_43 : mFetch 287 43 = some (.iconst 1, 1, 0, 0, 0, 0) := by decide +kernel
theorem f287_44 : mFetch 287 44 = some (.isub, 1, 0, 0, 0, 0) := by decide +kernel
theorem f287_45 : mFetch 287 45 = some (.istore_n 2, 1, 0, 0, 0, 0) := by decide +kernel
theorem f287_46 : mFetch 287 46 = some (.iinc 3 1, 3, 0, 0, 0, 0) := by decide +kernel
theorem f287_49 : mFetch 287 49 = some (.goto (-30), 3, 19, 0, 0, 0) := by decide +kernel
theorem f287_52 : mFetch 287 52 = some (.aload_n 0, 1, 0, 0, 0, 0) := by decide +kernel
theorem f287_53 : mFetch 287 53 = some (.invokevirtual 491, 3, 278, 0, 1, 12) := by decide +kernel
theorem f287_56 : mFetch 287 56 = some (.iload_n 2, 1, 0, 0, 0, 0) := by decide +kernel
theorem f287_57 : mFetch 287 57 = some (.ireturn, 1, 0, 0, 0, 0) := by decide +kernel
theorem b287_0 {X : (Nat → Int) × Nat} {d : Nat} {s : mSt} {Q : mQ} {x1 : Int} {l2 : Option mV} {l3 : Option mV} (h_1 : Sp X d 215 [mR 407, mI x1] s (fun r s' => ∃ v : Int, r = some (mI v) ∧ Wp X (d + 1) 287 5 [some (mR 407), some (mI x1), l2, l3] [mI v] s' Q)) : Wp X (d + 1) 287 0 [some (mR 407), some (mI x1), l2, l3] [] s Q := Wp_step k287 f287_0 (Wp_step k287 f287_1 (Wp_step k287 f287_2 ⟨⟨kf_407, Nat.le_of_ble_eq_true rfl⟩, Nat.le_refl _, _, rfl, Sp_E h_1⟩))
theorem b287_5 {X : (Nat → Int) × Nat} {d : Nat} {s : mSt} {Q : mQ} {x1 : Int} {l2 : Option mV} {l3 : Option mV} {xt0 : Int} (h_1 : ¬ xt0 = 0 → Wp X d 287 10 [some (mR 407), some (mI x1), l2, l3] [] s Q) (h_2 : xt0 = 0 → Wp X d 287 8 [some (mR 407), some (mI x1), l2, l3] [] s Q) : Wp X d 287 5 [some (mR 407), some (mI x1), l2, l3] [mI xt0] s Q := Wp_step k287 f287_5 ⟨h_1, h_2⟩
theorem b287_8 {X : (Nat → Int) × Nat} {d : Nat} {s : mSt} {Q : mQ} {x1 : Int} {l2 : Option mV} {l3 : Option mV} (h_1 : Q (some (mI (-1))) s) : Wp X d 287 8 [some (mR 407), some (mI x1), l2, l3] [] s Q := Wp_step k287 f287_8 (Wp_step k287 f287_9 ⟨⟨rfl, trivial⟩, h_1⟩)
theorem b287_10 {X : (Nat → Int) × Nat} {d : Nat} {s : mSt} {Q : mQ} {x1 : Int} {l2 : Option mV} {l3 : Option mV} (h_1 : Sp X d 277 [mR 407] s (fun r s' => r = none ∧ Wp X (d + 1) 287 17 [some (mR 407), some (mI x1), some (mI (-2)), l3] [] s' Q)) : Wp X (d + 1) 287 10 [some (mR 407), some (mI x1), l2, l3] [] s Q := Wp_step k287 f287_10 (Wp_step k287 f287_12 (Wp_step k287 f287_13 (Wp_step k287 f287_14 ⟨⟨kf_407, Nat.le_of_ble_eq_true rfl⟩, Nat.le_refl _, _, rfl, Sp_V h_1⟩)))
theorem b287_17 {X : (Nat → Int) × Nat} {d : Nat} {s : mSt} {Q : mQ} {x1 : Int} {x2 : Int} {l3 : Option mV} (h_1 : Wp X d 287 19 [some (mR 407), some (mI x1), some (mI x2), some (mI 0)] [] s Q) : Wp X d 287 17 [some (mR 407), some (mI x1), some (mI x2), l3] [] s Q := Wp_step k287 f287_17 (Wp_step k287 f287_18 (h_1))
theorem b287_19 {X : (Nat → Int) × Nat} {d : Nat} {s : mSt} {Q : mQ} {x1 : Int} {x2 : Int} {x3 : Int} (h_1 : 20 ≤ x3 → Wp X d 287 52 [some (mR 407), some (mI x1), some (mI x2), some (mI x3)] [] s Q) (h_2 : ¬ 20 ≤ x3 → Wp X d 287 25 [some (mR 407), some (mI x1), some (mI x2), some (mI x3)] [] s Q) : Wp X d 287 19 [some (mR 407), some (mI x1), some (mI x2), some (mI x3)] [] s Q := Wp_step k287 f287_19 (Wp_step k287 f287_20 (Wp_step k287 f287_22 ⟨h_1, h_2⟩))
theorem b287_25 {X : (Nat → Int) × Nat} {d : Nat} {s : mSt} {Q : mQ} {x1 : Int} {x2 : Int} {x3 : Int} (h_1 : 0 ≤ x2 → Wp X d 287 52 [some (mR 407), some (mI x1), some (mI x2), some (mI x3)] [] s Q) (h_2 : ¬ 0 ≤ x2 → Wp X d 287 29 [some (mR 407), some (mI x1), some (mI x2), some (mI x3)] [] s Q) : Wp X d 287 25 [some (mR 407), some (mI x1), some (mI x2), some (mI x3)] [] s Q := Wp_step k287 f287_25 (Wp_step k287 f287_26 ⟨h_1, h_2⟩)
theorem b287_29 {X : (Nat → Int) × Nat} {d : Nat} {s : mSt} {Q : mQ} {x1 : Int} {x2 : Int} {x3 : Int} (h_1 : Sp X d 251 [mR 407] s (fun r s' => ∃ v : Int, r = some (mI v) ∧ Wp X (d + 1) 287 33 [some (mR 407), some (mI x1), some (mI x2), some (mI x3)] [mI v] s' Q)) : Wp X (d + 1) 287 29 [some (mR 407), some (mI x1), some (mI x2), some (mI x3)] [] s Q := Wp_step k287 f287_29 (Wp_step k287 f287_30 ⟨⟨kf_407, Nat.le_of_ble_eq_true rfl⟩, Nat.le_refl _, _, rfl, Sp_E h_1⟩)
theorem b287_33 {X : (Nat → Int) × Nat} {d : Nat} {s : mSt} {Q : mQ} {x1 : Int} {x2 : Int} {x3 : Int} {xt0 : Int} (h_1 : ¬ xt0 = x1 → Wp X d 287 46 [some (mR 407), some (mI x1), some (mI x2), some (mI x3)] [] s Q) (h_2 : xt0 = x1 → Wp X d 287 37 [some (mR 407), some (mI x1), some (mI x2), some (mI x3)] [] s Q) : Wp X d 287 33 [some (mR 407), some (mI x1), some (mI x2), some (mI x3)] [mI xt0] s Q := Wp_step k287 f287_33 (Wp_step k287 f287_34 ⟨h_1, h_2⟩)
theorem b287_37 {X : (Nat → Int) × Nat} {d : Nat} {s : mSt} {Q : mQ} {x1 : Int} {x2 : Int} {x3 : Int} (h_1 : Wp X d 287 46 [some (mR 407), some (mI x1), some (mI (w32 ((s 417 5) - 1))), some (mI x3)] [] s Q) : Wp X d 287 37 [some (mR 407), some (mI x1), some (mI x2), some (mI x3)] [] s Q := Wp_step k287 f287_37 (Wp_step k287 f287_38 ⟨kf_407, 417, rf_407_20, Wp_step k287 f287_41 (Wp_step k287 f287_42 ⟨166, af_417, ⟨by decide, by decide⟩, Wp_step k287 f287_43 (Wp_step k287 f287_44 (Wp_step k287 f287_45 (h_1)))⟩)⟩)
theorem b287_46 {X : (Nat → Int) × Nat} {d : Nat} {s : mSt} {Q : mQ} {x1 : Int} {x2 : Int} {x3 : Int} (h_1 : Wp X d 287 19 [some (mR 407), some (mI x1), some (mI x2), some (mI (w32 (x3 + 1)))] [] s Q) : Wp X d 287 46 [some (mR 407), some (mI x1), some (mI x2), some (mI x3)] [] s Q := Wp_step k287 f287_46 (Wp_step k287 f287_49 (h_1))
theorem b287_52 {X : (Nat → Int) × Nat} {d : Nat} {s : mSt} {Q : mQ} {x1 : Int} {x2 : Int} {x3 : Int} (h_1 : Sp X d 278 [mR 407] s (fun r s' => r = none ∧ Wp X (d + 1) 287 56 [some (mR 407), some (mI x1), some (mI x2), some (mI x3)] [] s' Q)) : Wp X (d + 1) 287 52 [some (mR 407), some (mI x1), some (mI x2), some (mI x3)] [] s Q := Wp_step k287 f287_52 (Wp_step k287 f287_53 ⟨⟨kf_407, Nat.le_of_ble_eq_true rfl⟩, Nat.le_refl _, _, rfl, Sp_V h_1⟩)
theorem b287_56 {X : (Nat → Int) × Nat} {d : Nat} {s : mSt} {Q : mQ} {x1 : Int} {x2 : Int} {x3 : Int} (h_1 : Q (some (mI x2)) s) : Wp X d 287 56 [some (mR 407), some (mI x1), some (mI x2), some (mI x3)] [] s Q := Wp_step k287 f287_56 (Wp_step k287 f287_57 ⟨⟨rfl, trivial⟩, h_1⟩)
theorem e287 {X : (Nat → Int) × Nat} {d : Nat} {s : mSt} {Q : mQ} {x1 : Int} (h : Wp X d 287 0 [some (mR 407), some (mI x1), none, none] [] s Q) : Sp X d 287 [mR 407, mI x1] s Q := Sp_of (show mCe 287 = 0 by decide +kernel) (by rw [show mML 287 = 4 by decide +kernel]; rfl) (Nat.le_trans (Nat.le_of_ble_eq_true (show Nat.ble (mArgs _).length 4 = true from rfl)) (show 4 ≤ mML 287 by decide +kernel)) h
-- 288 ClashDayModel.isRest(II)Z
theorem k288 : mRk 288 = 2 := by decide +kernel
theorem f288_0 : mFetch 288 0 = some (.iconst 0, 1, 0, 0, 0, 0) := by decide +kernel
theorem f288_1 : mFetch 288 1 = some (.istore_n 3, 1, 0, 0, 0, 0) := by decide +kernel
theorem f288_2 : mFetch 288 2 = some (.iload_n 3, 1, 0, 0, 0, 0) := by decide +kernel
theorem f288_3 : mFetch 288 3 = some (.iconst 4, 1, 0, 0, 0, 0) := by decide +kernel
theorem f288_4 : mFetch 288 4 = some (.if_icmp .ge 69, 3, 73, 0, 0, 0) := by decide +kernel
theorem f288_7 : mFetch 288 7 = some (.aload_n 0, 1, 0, 0, 0, 0) := by decide +kernel
theorem f288_8 : mFetch 288 8 = some (.getfield 91, 3, 12, 50, 2, 1) := by decide +kernel
theorem f288_11 : mFetch 288 11 = some (.iconst 2, 1, 0, 0, 0, 0) := by decide +kernel
theorem f288_12 : mFetch 288 12 = some (.iconst 4, 1, 0, 0, 0, 0) := by decide +kernel
theorem f288_13 : mFetch 288 13 = some (.iload_n 3, 1, 0, 0, 0, 0) := by decide +kernel
theorem f288_14 : mFetch 288 14 = some (.imul, 1, 0, 0, 0, 0) := by decide +kernel
theorem f288_15 : mFetch 288 15 = some (.iload_n 2, 1, 0, 0, 0, 0) := by decide +kernel
theorem f288_16 : mFetch 288 16 = some (.iadd, 1, 0, 0, 0, 0) := by decide +kernel
theorem f288_17 : mFetch 288 17 = some (.imul, 1, 0, 0, 0, 0) := by decide +kernel
theorem f288_18 : mFetch 288 18 = some (.iaload, 1, 0, 0, 0, 0) := by decide +kernel
theorem f288_19 : mFetch 288 19 = some (.aload_n 0, 1, 0, 0, 0, 0) := by decide +kernel
theorem f288_20 : mFetch 288 20 = some (.getfield 91, 3, 12, 50, 2, 1) := by decide +kernel
theorem f288_23 : mFetch 288 23 = some (.iconst 2, 1, 0, 0, 0, 0) := by decide +kernel
theorem f288_24 : mFetch 288 24 = some (.iconst 4, 1, 0, 0, 0, 0) := by decide +kernel
theorem f288_25 : mFetch 288 25 = some (.iload_n 1, 1, 0, 0, 0, 0) := by decide +kernel
theorem f288_26 : mFetch 288 26 = some (.imul, 1, 0, 0, 0, 0) := by decide +kernel
theorem f288_27 : mFetch 288 27 = some (.iload_n 2, 1, 0, 0, 0, 0) := by decide +kernel
theorem f288_28 : mFetch 288 28 = some (.iadd, 1, 0, 0, 0, 0) := by decide +kernel
theorem f288_29 : mFetch 288 29 = some (.imul, 1, 0, 0, 0, 0) := by decide +kernel
theorem f288_30 : mFetch 288 30 = some (.iaload, 1, 0, 0, 0, 0) := by decide +kernel
theorem f288_31 : mFetch 288 31 = some (.if_icmp .gt 34, 3, 65, 0, 0, 0) := by decide +kernel
theorem f288_34 : mFetch 288 34 = some (.aload_n 0, 1, 0, 0, 0, 0) := by decide +kernel
theorem f288_35 : mFetch 288 35 = some (.getfield 91, 3, 12, 50, 2, 1) := by decide +kernel
theorem f288_38 : mFetch 288 38 = some (.iconst 2, 1, 0, 0, 0, 0) := by decide +kernel
theorem f288_39 : mFetch 288 39 = some (.iconst 4, 1, 0, 0, 0, 0) := by decide +kernel
theorem f288_40 : mFetch 288 40 = some (.iload_n 1, 1, 0, 0, 0, 0) := by decide +kernel
theorem f288_41 : mFetch 288 41 = some (.imul, 1, 0, 0, 0, 0) := by decide +kernel
theorem f288_42 : mFetch 288 42 = some (.iload_n 3, 1, 0, 0, 0, 0) := by decide +kernel
theorem f288_43 : mFetch 288 43 = some (.iadd, 1, 0, 0, 0, 0) := by decide +kernel
theorem f288_44 : mFetch 288 44 = some (.imul, 1, 0, 0, 0, 0) := by decide +kernel
theorem f288_45 : mFetch 288 45 = some (.iconst 1, 1, 0, 0, 0, 0) := by decide +kernel
theorem f288_46 : mFetch 288 46 = some (.iadd, 1, 0, 0, 0, 0) := by decide +kernel
theorem f288_47 : mFetch 288 47 = some (.iaload, 1, 0, 0, 0, 0) := by decide +kernel
theorem f288_48 : mFetch 288 48 = some (.aload_n 0, 1, 0, 0, 0, 0) := by decide +kernel
theorem f288_49 : mFetch 288 49 = some (.getfield 91, 3, 12, 50, 2, 1) := by decide +kernel
theorem f288_52 : mFetch 288 52 = some (.iconst 2, 1, 0, 0, 0, 0) := by decide +kernel
theorem f288_53 : mFetch 288 53 = some (.iconst 4, 1, 0, 0, 0, 0) := by decide +kernel
theorem f288_54 : mFetch 288 54 = some (.iload_n 1, 1, 0, 0, 0, 0) := by decide +kernel
theorem f288_55 : mFetch 288 55 = some (.imul, 1, 0, 0, 0, 0) := by decide +kernel
theorem f288_56 : mFetch 288 56 = some (.iload_n 2, 1, 0, 0, 0, 0) := by decide +kernel
theorem f288_57 : mFetch 288 57 = some (.iadd, 1, 0, 0, 0, 0) := by decide +kernel
theorem f288_58 : mFetch 288 58 = some (.imul, 1, 0, 0, 0, 0) := by decide +kernel
theorem f288_59 : mFetch 288 59 = some (.iconst 1, 1, 0, 0, 0, 0) := by decide +kernel
theorem f288_60 : mFetch 288 60 = some (.iadd, 1, 0, 0, 0, 0) := by decide +kernel
theorem f288_61 : mFetch 288 61 = some (.iaload, 1, 0, 0, 0, 0) := by decide +kernel
theorem f288_62 : mFetch 288 62 = some (.if_icmp .le 5, 3, 67, 0, 0, 0) := by decide +kernel
theorem f288_65 : mFetch 288 65 = some (.iconst 0, 1, 0, 0, 0, 0) := by decide +kernel
theorem f288_66 : mFetch 288 66 = some (.ireturn, 1, 0, 0, 0, 0) := by decide +kernel
theorem f288_67 : mFetch 288 67 = some (.iinc 3 1, 3, 0, 0, 0, 0) := by decide +kernel
theorem f288_70 : mFetch 288 70 = some (.goto (-68), 3, 2, 0, 0, 0) := by decide +kernel
theorem f288_73 : mFetch 288 73 = some (.iconst 1, 1, 0, 0, 0, 0) := by decide +kernel
theorem f288_74 : mFetch 288 74 = some (.ireturn, 1, 0, 0, 0, 0) := by decide +kernel
theorem b288_0 {X : (Nat → Int) × Nat} {d : Nat} {s : mSt} {Q : mQ} {x1 : Int} {x2 : Int} {l3 : Option mV} (h_1 : Wp X d 288 2 [some (mR 407), some (mI x1), some (mI x2), some (mI 0)] [] s Q) : Wp X d 288 0 [some (mR 407), some (mI x1), some (mI x2), l3] [] s Q := Wp_step k288 f288_0 (Wp_step k288 f288_1 (h_1))
theorem b288_2 {X : (Nat → Int) × Nat} {d : Nat} {s : mSt} {Q : mQ} {x1 : Int} {x2 : Int} {x3 : Int} (h_1 : 4 ≤ x3 → Wp X d 288 73 [some (mR 407), some (mI x1), some (mI x2), some (mI x3)] [] s Q) (h_2 : ¬ 4 ≤ x3 → Wp X d 288 7 [some (mR 407), some (mI x1), some (mI x2), some (mI x3)] [] s Q) : Wp X d 288 2 [some (mR 407), some (mI x1), some (mI x2), some (mI x3)] [] s Q := Wp_step k288 f288_2 (Wp_step k288 f288_3 (Wp_step k288 f288_4 ⟨h_1, h_2⟩))
theorem b288_7 {X : (Nat → Int) × Nat} {d : Nat} {s : mSt} {Q : mQ} {x1 : Int} {x2 : Int} {x3 : Int} (h_1 : 0 ≤ (w32 (2 * (w32 ((w32 (4 * x3)) + x2)))) ∧ (w32 (2 * (w32 ((w32 (4 * x3)) + x2)))) < 32) (h_2 : 0 ≤ (w32 (2 * (w32 ((w32 (4 * x1)) + x2)))) ∧ (w32 (2 * (w32 ((w32 (4 * x1)) + x2)))) < 32) (h_3 : (s 433 (w32 (2 * (w32 ((w32 (4 * x1)) + x2)))).toNat) < (s 433 (w32 (2 * (w32 ((w32 (4 * x3)) + x2)))).toNat) → Wp X d 288 65 [some (mR 407), some (mI x1), some (mI x2), some (mI x3)] [] s Q) (h_4 : ¬ (s 433 (w32 (2 * (w32 ((w32 (4 * x1)) + x2)))).toNat) < (s 433 (w32 (2 * (w32 ((w32 (4 * x3)) + x2)))).toNat) → Wp X d 288 34 [some (mR 407), some (mI x1), some (mI x2), some (mI x3)] [] s Q) : Wp X d 288 7 [some (mR 407), some (mI x1), some (mI x2), some (mI x3)] [] s Q := Wp_step k288 f288_7 (Wp_step k288 f288_8 ⟨kf_407, 433, rf_407_50, Wp_step k288 f288_11 (Wp_step k288 f288_12 (Wp_step k288 f288_13 (Wp_step k288 f288_14 (Wp_step k288 f288_15 (Wp_step k288 f288_16 (Wp_step k288 f288_17 (Wp_step k288 f288_18 ⟨32, af_433, h_1, Wp_step k288 f288_19 (Wp_step k288 f288_20 ⟨kf_407, 433, rf_407_50, Wp_step k288 f288_23 (Wp_step k288 f288_24 (Wp_step k288 f288_25 (Wp_step k288 f288_26 (Wp_step k288 f288_27 (Wp_step k288 f288_28 (Wp_step k288 f288_29 (Wp_step k288 f288_30 ⟨32, af_433, h_2, Wp_step k288 f288_31 ⟨h_3, h_4⟩⟩)))))))⟩)⟩)))))))⟩)
theorem b288_34 {X : (Nat → Int) × Nat} {d : Nat} {s : mSt} {Q : mQ} {x1 : Int} {x2 : Int} {x3 : Int} (h_1 : 0 ≤ (w32 ((w32 (2 * (w32 ((w32 (4 * x1)) + x3)))) + 1)) ∧ (w32 ((w32 (2 * (w32 ((w32 (4 * x1)) + x3)))) + 1)) < 32) (h_2 : 0 ≤ (w32 ((w32 (2 * (w32 ((w32 (4 * x1)) + x2)))) + 1)) ∧ (w32 ((w32 (2 * (w32 ((w32 (4 * x1)) + x2)))) + 1)) < 32) (h_3 : (s 433 (w32 ((w32 (2 * (w32 ((w32 (4 * x1)) + x3)))) + 1)).toNat) ≤ (s 433 (w32 ((w32 (2 * (w32 ((w32 (4 * x1)) + x2)))) + 1)).toNat) → Wp X d 288 67 [some (mR 407), some (mI x1), some (mI x2), some (mI x3)] [] s Q) (h_4 : ¬ (s 433 (w32 ((w32 (2 * (w32 ((w32 (4 * x1)) + x3)))) + 1)).toNat) ≤ (s 433 (w32 ((w32 (2 * (w32 ((w32 (4 * x1)) + x2)))) + 1)).toNat) → Wp X d 288 65 [some (mR 407), some (mI x1), some (mI x2), some (mI x3)] [] s Q) : Wp X d 288 34 [some (mR 407), some (mI x1), some (mI x2), some (mI x3)] [] s Q := Wp_step k288 f288_34 (Wp_step k288 f288_35 ⟨kf_407, 433, rf_407_50, Wp_step k288 f288_38 (Wp_step k288 f288_39 (Wp_step k288 f288_40 (Wp_step k288 f288_41 (Wp_step k288 f288_42 (Wp_step k288 f288_43 (Wp_step k288 f288_44 (Wp_step k288 f288_45 (Wp_step k288 f288_46 (Wp_step k288 f288_47 ⟨32, af_433, h_1, Wp_step k288 f288_48 (Wp_step k288 f288_49 ⟨kf_407, 433, rf_407_50, Wp_step k288 f288_52 (Wp_step k288 f288_53 (Wp_step k288 f288_54 (Wp_step k288 f288_55 (Wp_step k288 f288_56 (Wp_step k288 f288_57 (Wp_step k288 f288_58 (Wp_step k288 f288_59 (Wp_step k288 f288_60 (Wp_step k288 f288_61 ⟨32, af_433, h_2, Wp_step k288 f288_62 ⟨h_3, h_4⟩⟩)))))))))⟩)⟩)))))))))⟩)
theorem b288_65 {X : (Nat → Int) × Nat} {d : Nat} {s : mSt} {Q : mQ} {x1 : Int} {x2 : Int} {x3 : Int} (h_1 : Q (some (mI 0)) s) : Wp X d 288 65 [some (mR 407), some (mI x1), some (mI x2), some (mI x3)] [] s Q := Wp_step k288 f288_65 (Wp_step k288 f288_66 ⟨⟨rfl, (Or.inl rfl)⟩, h_1⟩)
theorem b288_67 {X : (Nat → Int) × Nat} {d : Nat} {s : mSt} {Q : mQ} {x1 : Int} {x2 : Int} {x3 : Int} (h_1 : Wp X d 288 2 [some (mR 407), some (mI x1), some (mI x2), some (mI (w32 (x3 + 1)))] [] s Q) : Wp X d 288 67 [some (mR 407), some (mI x1), some (mI x2), some (mI x3)] [] s Q := Wp_step k288 f288_67 (Wp_step k288 f288_70 (h_1))
theorem b288_73 {X : (Nat → Int) × Nat} {d : Nat} {s : mSt} {Q : mQ} {x1 : Int} {x2 : Int} {x3 : Int} (h_1 : Q (some (mI 1)) s) : Wp X d 288 73 [some (mR 407), some (mI x1), some (mI x2), some (mI x3)] [] s Q := Wp_step k288 f288_73 (Wp_step k288 f288_74 ⟨⟨rfl, (Or.inr rfl)⟩, h_1⟩)
theorem e288 {X : (Nat → Int) × Nat} {d : Nat} {s : mSt} {Q : mQ} {x1 : Int} {x2 : Int} (h : Wp X d 288 0 [some (mR 407), some (mI x1), some (mI x2), none] [] s Q) : Sp X d 288 [mR 407, mI x1, mI x2] s Q := Sp_of (show mCe 288 = 0 by decide +kernel) (by rw [show mML 288 = 4 by decide +kernel]; rfl) (Nat.le_trans (Nat.le_of_ble_eq_true (show Nat.ble (mArgs _).length 4 = true from rfl)) (show 4 ≤ mML 288 by decide +kernel)) h
-- 289 ClashDayModel.worthOf(I)I
theorem k289 : mRk 289 = 1 := by decide +kernel
theorem f289_0 : mFetch 289 0 = some (.aload_n 0, 1, 0, 0, 0, 0) := by decide +kernel
theorem f289_1 : mFetch 289 1 = some (.iload_n 1, 1, 0, 0, 0, 0) := by decide +kernel
theorem f289_2 : mFetch 289 2 = some (.invokevirtual 449, 3, 245, 0, 2, 12) := by decide +kernel
theorem f289_5 : mFetch 289 5 = some (.ifCond .eq 26, 3, 31, 0, 0, 0) := by decide +kernel
theorem f289_8 : mFetch 289 8 = some (.bipush 30, 2, 0, 0, 0, 0) := by decide +kernel
theorem f289_10 : mFetch 289 10 = some (.aload_n 0, 1, 0, 0, 0, 0) := by decide +kernel
theorem f289_11 : mFetch 289 11 = some (.getfield 402, 3, 12, 31, 0, 1) := by decide +kernel
theorem f289_14 : mFetch 289 14 = some (.isub, 1, 0, 0, 0, 0) := by decide +kernel
theorem f289_15 : mFetch 289 15 = some (.iconst 2, 1, 0, 0, 0, 0) := by decide +kernel
theorem f289_16 : mFetch 289 16 = some (.aload_n 0, 1, 0, 0, 0, 0) := by decide +kernel
theorem f289_17 : mFetch 289 17 = some (.getfield 39, 3, 12, 20, 2, 1) := by decide +kernel
theorem f289_20 : mFetch 289 20 = some (.sipush 129, 3, 0, 0, 0, 0) := by decide +kernel
theorem f289_23 : mFetch 289 23 = some (.iload_n 1, 1, 0, 0, 0, 0) := by decide +kernel
theorem f289_24 : mFetch 289 24 = some (.iadd, 1, 0, 0, 0, 0) := by decide +kernel
theorem f289_25 : mFetch 289 25 = some (.iaload, 1, 0, 0, 0, 0) := by decide +kernel
theorem f289_26 : mFetch 289 26 = some (.imul, 1, 0, 0, 0, 0) := by decide +kernel
theorem f289_27 : mFetch 289 27 = some (.iadd, 1, 0, 0, 0, 0) := by decide +kernel
theorem f289_28 : mFetch 289 28 = some (.goto 4, 3, 32, 0, 0, 0) := by decide +kernel
theorem f289_31 : mFetch 289 31 = some (.iconst 0, 1, 0, 0, 0, 0) := by decide +kernel
theorem f289_32 : mFetch 289 32 = some (.ireturn, 1, 0, 0, 0, 0) := by decide +kernel
theorem b289_0 {X : (Nat → Int) × Nat} {d : Nat} {s : mSt} {Q : mQ} {x1 : Int} (h_1 : Sp X d 245 [mR 407, mI x1] s (fun r s' => ∃ v : Int, r = some (mI v) ∧ Wp X (d + 1) 289 5 [some (mR 407), some (mI x1)] [mI v] s' Q)) : Wp X (d + 1) 289 0 [some (mR 407), some (mI x1)] [] s Q := Wp_step k289 f289_0 (Wp_step k289 f289_1 (Wp_step k289 f289_2 ⟨⟨kf_407, Nat.le_of_ble_eq_true rfl⟩, Nat.le_refl _, _, rfl, Sp_E h_1⟩))
theorem b289_5 {X : (Nat → Int) × Nat} {d : Nat} {s : mSt} {Q : mQ} {x1 : Int} {xt0 : Int} (h_1 : xt0 = 0 → Wp X d 289 31 [some (mR 407), some (mI x1)] [] s Q) (h_2 : ¬ xt0 = 0 → Wp X d 289 8 [some (mR 407), some (mI x1)] [] s Q) : Wp X d 289 5 [some (mR 407), some (mI x1)] [mI xt0] s Q := Wp_step k289 f289_5 ⟨h_1, h_2⟩
theorem b289_8 {X : (Nat → Int) × Nat} {d : Nat} {s : mSt} {Q : mQ} {x1 : Int} (h_1 : 0 ≤ (w32 (129 + x1)) ∧ (w32 (129 + x1)) < 166) (h_2 : Wp X d 289 32 [some (mR 407), some (mI x1)] [mI (w32 ((w32 (30 - (s 407 31))) + (w32 (2 * (s 417 (w32 (129 + x1)).toNat)))))] s Q) : Wp X d 289 8 [some (mR 407), some (mI x1)] [] s Q := Wp_step k289 f289_8 (Wp_step k289 f289_10 (Wp_step k289 f289_11 ⟨kf_407, Wp_step k289 f289_14 (Wp_step k289 f289_15 (Wp_step k289 f289_16 (Wp_step k289 f289_17 ⟨kf_407, 417, rf_407_20, Wp_step k289 f289_20 (Wp_step k289 f289_23 (Wp_step k289 f289_24 (Wp_step k289 f289_25 ⟨166, af_417, h_1, Wp_step k289 f289_26 (Wp_step k289 f289_27 (Wp_step k289 f289_28 (h_2)))⟩)))⟩)))⟩))
theorem b289_31 {X : (Nat → Int) × Nat} {d : Nat} {s : mSt} {Q : mQ} {x1 : Int} (h_1 : Wp X d 289 32 [some (mR 407), some (mI x1)] [mI 0] s Q) : Wp X d 289 31 [some (mR 407), some (mI x1)] [] s Q := Wp_step k289 f289_31 (h_1)
theorem b289_32 {X : (Nat → Int) × Nat} {d : Nat} {s : mSt} {Q : mQ} {x1 : Int} {xt0 : Int} (h_1 : Q (some (mI xt0)) s) : Wp X d 289 32 [some (mR 407), some (mI x1)] [mI xt0] s Q := Wp_step k289 f289_32 ⟨⟨rfl, trivial⟩, h_1⟩
theorem e289 {X : (Nat → Int) × Nat} {d : Nat} {s : mSt} {Q : mQ} {x1 : Int} (h : Wp X d 289 0 [some (mR 407), some (mI x1)] [] s Q) : Sp X d 289 [mR 407, mI x1] s Q := Sp_of (show mCe 289 = 0 by decide +kernel) (by rw [show mML 289 = 2 by decide +kernel]; rfl) (Nat.le_trans (Nat.le_of_ble_eq_true (show Nat.ble (mArgs _).length 2 = true from rfl)) (show 2 ≤ mML 289 by decide +kernel)) h
-- 290 ClashDayModel.fillsRests(II)V
theorem k290 : mRk 290 = 0 := by decide +kernel
theorem f290_0 : mFetch 290 0 = some (.aload_n 0, 1, 0, 0, 0, 0) := by decide +kernel
theorem f290_1 : mFetch 290 1 = some (.getfield 39, 3, 12, 20, 2, 1) := by decide +kernel
theorem f290_4 : mFetch 290 4 = some (.sipush 129, 3, 0, 0, 0, 0) := by decide +kernel
theorem f290_7 : mFetch 290 7 = some (.iload_n 1, 1, 0, 0, 0, 0) := by decide +kernel
theorem f290_8 : mFetch 290 8 = some (.iadd, 1, 0, 0, 0, 0) := by decide +kernel
theorem f290_9 : mFetch 290 9 = some (.iaload, 1, 0, 0, 0, 0) := by decide +kernel
theorem f290_10 : mFetch 290 10 = some (.istore_n 3, 1, 0, 0, 0, 0) := by decide +kernel
theorem f290_11 : mFetch 290 11 = some (.aload_n 0, 1, 0, 0, 0, 0) := by decide +kernel
theorem f290_12 : mFetch 290 12 = some (.getfield 39, 3, 12, 20, 2, 1) := by decide +kernel
theorem f290_15 : mFetch 290 15 = some (.sipush 129, 3, 0, 0, 0, 0) := by decide +kernel
theorem f290_18 : mFetch 290 18 = some (.iload_n 2, 1, 0, 0, 0, 0) := by decide +kernel
theorem f290_19 : mFetch 290 19 = some (.iadd, 1, 0, 0, 0, 0) := by decide +kernel
theorem f290_20 : mFetch 290 20 = some (.iaload, 1, 0, 0, 0, 0) := by decide +kernel
theorem f290_21 : mFetch 290 21 = some (.istore 4, 2, 0, 0, 0, 0) := by decide +kernel
theorem f290_23 : mFetch 290 23 = some (.aload_n 0, 1, 0, 0, 0, 0) := by decide +kernel
theorem f290_24 : mFetch 290 24 = some (.invokevirtual 502, 3, 277, 0, 1, 12) := by decide +kernel
theorem f290_27 : mFetch 290 27 = some (.iconst 0, 1, 0, 0, 0, 0) := by decide +kernel
theorem f290_28 : mFetch 290 28 = some (.istore 5, 2, 0, 0, 0, 0) := by decide +kernel
theorem f290_30 : mFetch 290 30 = some (.iload 5, 2, 0, 0, 0, 0) := by decide +kernel
theorem f290_32 : mFetch 290 32 = some (.bipush 16, 2, 0, 0, 0, 0) := by decide +kernel
theorem f290_34 : mFetch 290 34 = some (.if_icmp .ge 71, 3, 105, 0, 0, 0) := by decide +kernel
theorem f290_37 : mFetch 290 37 = some (.aload_n 0, 1, 0, 0, 0, 0) := by decide +kernel
theorem f290_38 : mFetch 290 38 = some (.getfield 39, 3, 12, 20, 2, 1) := by decide +kernel
theorem f290_41 : mFetch 290 41 = some (.sipush 129, 3, 0, 0, 0, 0) := by decide +kernel
theorem f290_44 : mFetch 290 44 = some (.iload_n 1, 1, 0, 0, 0, 0) := by decide +kernel
theorem f290_45 : mFetch 290 45 = some (.iadd, 1, 0, 0, 0, 0) := by decide +kernel
theorem f290_46 : mFetch 290 46 = some (.iload 5, 2, 0, 0, 0, 0) := by decide +kernel
theorem f290_48 : mFetch 290 48 = some (.iconst 4, 1, 0, 0, 0, 0) := by decide +kernel
theorem f290_49 : mFetch 290 49 = some (.idiv, 1, 0, 0, 0, 0) := by decide +kernel
theorem f290_50 : mFetch 290 50 = some (.iastore, 1, 0, 0, 0, 0) := by decide +kernel
theorem f290_51 : mFetch 290 51 = some (.aload_n 0, 1, 0, 0, 0, 0) := by decide +kernel
theorem f290_52 : mFetch 290 52 = some (.getfield 39, 3, 12, 20, 2, 1) := by decide +kernel
theorem f290_55 : mFetch 290 55 = some (.sipush 129, 3, 0, 0, 0, 0) := by decide +kernel
theorem f290_58 : mFetch 290 58 = some (.iload_n 2, 1, 0, 0, 0, 0) := by decide +kernel
theorem f290_59 : mFetch 290 59 = some (.iadd, 1, 0, 0, 0, 0) := by decide +kernel
theorem f290_60 : mFetch 290 60 = some (.iload 5, 2, 0, 0, 0, 0) := by decide +kernel
theorem f290_62 : mFetch 290 62 = some (.iconst 4, 1, 0, 0, 0, 0) := by decide +kernel
theorem f290_63 : mFetch 290 63 = some (.irem, 1, 0, 0, 0, 0) := by decide +kernel
theorem f290_64 : mFetch 290 64 = some (.iastore, 1, 0, 0, 0, 0) := by decide +kernel
theorem f290_65 : mFetch 290 65 = some (.aload_n 0, 1, 0, 0, 0, 0) := by decide +kernel
theorem f290_66 : mFetch 290 66 = some (.getfield 91, 3, 12, 50, 2, 1) := by decide +kernel
theorem f290_69 : mFetch 290 69 = some (.iconst 2, 1, 0, 0, 0, 0) := by decide +kernel
theorem f290_70 : mFetch 290 70 = some (.iload 5, 2, 0, 0, 0, 0) := by decide +kernel
theorem f290_72 : mFetch 290 72 = some (.imul, 1, 0, 0, 0, 0) := by decide +kernel
theorem f290_73 : mFetch 290 73 = some (.aload_n 0, 1, 0, 0, 0, 0) := by decide +kernel
theorem f290_74 : mFetch 290 74 = some (.iload_n 1, 1, 0, 0, 0, 0) := by decide +kernel
theorem f290_75 : mFetch 290 75 = some (.invokevirtual 528, 3, 289, 0, 2, 12) := by decide +kernel
theorem f290_78 : mFetch 290 78 = some (.iastore, 1, 0, 0, 0, 0) := by decide +kernel
theorem f290_79 : mFetch 290 79 = some (.aload_n 0, 1, 0, 0, 0, 0) := by decide +kernel
theorem f290_80 : mFetch 290 80 = some (.getfield 91, 3, 12, 50, 2, 1) := by decide +kernel
theorem f290_83 : mFetch 290 83 = some (.iconst 2, 1, 0, 0, 0, 0) := by decide +kernel
theorem f290_84 : mFetch 290 84 = some (.iload 5, 2, 0, 0, 0, 0) := by decide +kernel
theorem f290_86 : mFetch 290 86 = some (.imul, 1, 0, 0, 0, 0) := by decide +kernel
theorem f290_87 : mFetch 290 87 = some (.iconst 1, 1, 0, 0, 0, 0) := by decide +kernel
theorem f290_88 : mFetch 290 88 = some (.iadd, 1, 0, 0, 0, 0) := by decide +kernel
theorem f290_89 : mFetch 290 89 = some (.aload_n 0, 1, 0, 0, 0, 0) := by decide +kernel
theorem f290_90 : mFetch 290 90 = some (.iload_n 2, 1, 0, 0, 0, 0) := by decide +kernel
theorem f290_91 : mFetch 290 91 = some (.invokevirtual 528, 3, 289, 0, 2, 12) := by decide +kernel
theorem f290_94 : mFetch 290 94 = some (.iastore, 1, 0, 0, 0, 0) := by decide +kernel
theorem f290_95 : mFetch 290 95 = some (.aload_n 0, 1, 0, 0, 0, 0) := by decide +kernel
theorem f290_96 : mFetch 290 96 = some (.invokevirtual 491, 3, 278, 0, 1, 12) := by decide +kernel
theorem f290_99 : mFetch 290 99 = some (.iinc 5 1, 3, 0, 0, 0, 0) := by decide +kernel
theorem f290_102 : mFetch 290 102 = some (.goto (-72), 3, 30, 0, 0, 0) := by decide +kernel
theorem f290_105 : mFetch 290 105 = some (.aload_n 0, 1, 0, 0, 0, 0) := by decide +kernel
theorem f290_106 : mFetch 290 106 = some (.getfield 39, 3, 12, 20, 2, 1) := by decide +kernel
theorem f290_109 : mFetch 290 109 = some (.sipush 129, 3, 0, 0, 0, 0) := by decide +kernel
theorem f290_112 : mFetch 290 112 = some (.iload_n 1, 1, 0, 0, 0, 0) := by decide +kernel
theorem f290_113 : mFetch 290 113 = some (.iadd, 1, 0, 0, 0, 0) := by decide +kernel
theorem f290_114 : mFetch 290 114 = some (.iload_n 3, 1, 0, 0, 0, 0) := by decide +kernel
theorem f290_115 : mFetch 290 115 = some (.iastore, 1, 0, 0, 0, 0) := by decide +kernel
theorem f290_116 : mFetch 290 116 = some (.aload_n 0, 1, 0, 0, 0, 0) := by decide +kernel
theorem f290_117 : mFetch 290 117 = some (.getfield 39, 3, 12, 20, 2, 1) := by decide +kernel
theorem f290_120 : mFetch 290 120 = some (.sipush 129, 3, 0, 0, 0, 0) := by decide +kernel
theorem f290_123 : mFetch 290 123 = some (.iload_n 2, 1, 0, 0, 0, 0) := by decide +kernel
theorem f290_124 : mFetch 290 124 = some (.iadd, 1, 0, 0, 0, 0) := by decide +kernel
theorem f290_125 : mFetch 290 125 = some (.iload 4, 2, 0, 0, 0, 0) := by decide +kernel
theorem f290_127 : mFetch 290 127 = some (.iastore, 1, 0, 0, 0, 0) := by decide +kernel
theorem f290_128 : mFetch 290 128 = some (.return_, 1, 0, 0, 0, 0) := by decide +kernel
theorem b290_0 {X : (Nat → Int) × Nat} {d : Nat} {s : mSt} {Q : mQ} {x1 : Int} {x2 : Int} {l3 : Option mV} {l4 : Option mV} {l5 : Option mV} (h_1 : 0 ≤ (w32 (129 + x1)) ∧ (w32 (129 + x1)) < 166) (h_2 : 0 ≤ (w32 (129 + x2)) ∧ (w32 (129 + x2)) < 166) (h_3 : Sp X d 277 [mR 407] s (fun r s' => r = none ∧ Wp X (d + 1) 290 27 [some (mR 407), some (mI x1), some (mI x2), some (mI (s 417 (w32 (129 + x1)).toNat)), some (mI (s 417 (w32 (129 + x2)).toNat)), l5] [] s' Q)) : Wp X (d + 1) 290 0 [some (mR 407), some (mI x1), some (mI x2), l3, l4, l5] [] s Q := Wp_step k290 f290_0 (Wp_step k290 f290_1 ⟨kf_407, 417, rf_407_20, Wp_step k290 f290_4 (Wp_step k290 f290_7 (Wp_step k290 f290_8 (Wp_step k290 f290_9 ⟨166, af_417, h_1, Wp_step k290 f290_10 (Wp_step k290 f290_11 (Wp_step k290 f290_12 ⟨kf_407, 417, rf_407_20, Wp_step k290 f290_15 (Wp_step k290 f290_18 (Wp_step k290 f290_19 (Wp_step k290 f290_20 ⟨166, af_417, h_2, Wp_step k290 f290_21 (Wp_step k290 f290_23 (Wp_step k290 f290_24 ⟨⟨kf_407, Nat.le_of_ble_eq_true rfl⟩, Nat.le_refl _, _, rfl, Sp_V h_3⟩))⟩)))⟩))⟩)))⟩)
theorem b290_27 {X : (Nat → Int) × Nat} {d : Nat} {s : mSt} {Q : mQ} {x1 : Int} {x2 : Int} {x3 : Int} {x4 : Int} {l5 : Option mV} (h_1 : Wp X d 290 30 [some (mR 407), some (mI x1), some (mI x2), some (mI x3), some (mI x4), some (mI 0)] [] s Q) : Wp X d 290 27 [some (mR 407), some (mI x1), some (mI x2), some (mI x3), some (mI x4), l5] [] s Q := Wp_step k290 f290_27 (Wp_step k290 f290_28 (h_1))
theorem b290_30 {X : (Nat → Int) × Nat} {d : Nat} {s : mSt} {Q : mQ} {x1 : Int} {x2 : Int} {x3 : Int} {x4 : Int} {x5 : Int} (h_1 : 16 ≤ x5 → Wp X d 290 105 [some (mR 407), some (mI x1), some (mI x2), some (mI x3), some (mI x4), some (mI x5)] [] s Q) (h_2 : ¬ 16 ≤ x5 → Wp X d 290 37 [some (mR 407), some (mI x1), some (mI x2), some (mI x3), some (mI x4), some (mI x5)] [] s Q) : Wp X d 290 30 [some (mR 407), some (mI x1), some (mI x2), some (mI x3), some (mI x4), some (mI x5)] [] s Q := Wp_step k290 f290_30 (Wp_step k290 f290_32 (Wp_step k290 f290_34 ⟨h_1, h_2⟩))
theorem b290_37 {X : (Nat → Int) × Nat} {d : Nat} {s : mSt} {Q : mQ} {x1 : Int} {x2 : Int} {x3 : Int} {x4 : Int} {x5 : Int} (h_1 : 0 ≤ (w32 (129 + x1)) ∧ (w32 (129 + x1)) < 166) (h_2 : 0 ≤ (w32 (129 + x2)) ∧ (w32 (129 + x2)) < 166) (h_3 : Sp X d 289 [mR 407, mI x1] (uS (uS s 417 ((w32 (129 + x1)).toNat) (w32 (Int.tdiv x5 4))) 417 ((w32 (129 + x2)).toNat) (Int.tmod x5 4)) (fun r s' => ∃ v : Int, r = some (mI v) ∧ Wp X (d + 1) 290 78 [some (mR 407), some (mI x1), some (mI x2), some (mI x3), some (mI x4), some (mI x5)] [mI v, mI (w32 (2 * x5)), mR 433] s' Q)) : Wp X (d + 1) 290 37 [some (mR 407), some (mI x1), some (mI x2), some (mI x3), some (mI x4), some (mI x5)] [] s Q := Wp_step k290 f290_37 (Wp_step k290 f290_38 ⟨kf_407, 417, rf_407_20, Wp_step k290 f290_41 (Wp_step k290 f290_44 (Wp_step k290 f290_45 (Wp_step k290 f290_46 (Wp_step k290 f290_48 (Wp_step k290 f290_49 ⟨(by decide), Wp_step k290 f290_50 ⟨166, af_417, h_1, Wp_step k290 f290_51 (Wp_step k290 f290_52 ⟨kf_407, 417, rf_407_20, Wp_step k290 f290_55 (Wp_step k290 f290_58 (Wp_step k290 f290_59 (Wp_step k290 f290_60 (Wp_step k290 f290_62 (Wp_step k290 f290_63 ⟨(by decide), Wp_step k290 f290_64 ⟨166, af_417, h_2, Wp_step k290 f290_65 (Wp_step k290 f290_66 ⟨kf_407, 433, rf_407_50, Wp_step k290 f290_69 (Wp_step k290 f290_70 (Wp_step k290 f290_72 (Wp_step k290 f290_73 (Wp_step k290 f290_74 (Wp_step k290 f290_75 ⟨⟨kf_407, Nat.le_of_ble_eq_true rfl⟩, Nat.le_refl _, _, rfl, Sp_E h_3⟩)))))⟩)⟩⟩)))))⟩)⟩⟩)))))⟩)
theorem b290_78 {X : (Nat → Int) × Nat} {d : Nat} {s : mSt} {Q : mQ} {x1 : Int} {x2 : Int} {x3 : Int} {x4 : Int} {x5 : Int} {xt1 : Int} {xt2 : Int} (h_1 : 0 ≤ xt1 ∧ xt1 < 32) (h_2 : Sp X d 289 [mR 407, mI x2] (uS s 433 xt1.toNat xt2) (fun r s' => ∃ v : Int, r = some (mI v) ∧ Wp X (d + 1) 290 94 [some (mR 407), some (mI x1), some (mI x2), some (mI x3), some (mI x4), some (mI x5)] [mI v, mI (w32 ((w32 (2 * x5)) + 1)), mR 433] s' Q)) : Wp X (d + 1) 290 78 [some (mR 407), some (mI x1), some (mI x2), some (mI x3), some (mI x4), some (mI x5)] [mI xt2, mI xt1, mR 433] s Q := Wp_step k290 f290_78 ⟨32, af_433, h_1, Wp_step k290 f290_79 (Wp_step k290 f290_80 ⟨kf_407, 433, rf_407_50, Wp_step k290 f290_83 (Wp_step k290 f290_84 (Wp_step k290 f290_86 (Wp_step k290 f290_87 (Wp_step k290 f290_88 (Wp_step k290 f290_89 (Wp_step k290 f290_90 (Wp_step k290 f290_91 ⟨⟨kf_407, Nat.le_of_ble_eq_true rfl⟩, Nat.le_refl _, _, rfl, Sp_E h_2⟩)))))))⟩)⟩
theorem b290_94 {X : (Nat → Int) × Nat} {d : Nat} {s : mSt} {Q : mQ} {x1 : Int} {x2 : Int} {x3 : Int} {x4 : Int} {x5 : Int} {xt1 : Int} {xt2 : Int} (h_1 : 0 ≤ xt1 ∧ xt1 < 32) (h_2 : Sp X d 278 [mR 407] (uS s 433 xt1.toNat xt2) (fun r s' => r = none ∧ Wp X (d + 1) 290 99 [some (mR 407), some (mI x1), some (mI x2), some (mI x3), some (mI x4), some (mI x5)] [] s' Q)) : Wp X (d + 1) 290 94 [some (mR 407), some (mI x1), some (mI x2), some (mI x3), some (mI x4), some (mI x5)] [mI xt2, mI xt1, mR 433] s Q := Wp_step k290 f290_94 ⟨32, af_433, h_1, Wp_step k290 f290_95 (Wp_step k290 f290_96 ⟨⟨kf_407, Nat.le_of_ble_eq_true rfl⟩, Nat.le_refl _, _, rfl, Sp_V h_2⟩)⟩
theorem b290_99 {X : (Nat → Int) × Nat} {d : Nat} {s : mSt} {Q : mQ} {x1 : Int} {x2 : Int} {x3 : Int} {x4 : Int} {x5 : Int} (h_1 : Wp X d 290 30 [some (mR 407), some (mI x1), some (mI x2), some (mI x3), some (mI x4), some (mI (w32 (x5 + 1)))] [] s Q) : Wp X d 290 99 [some (mR 407), some (mI x1), some (mI x2), some (mI x3), some (mI x4), some (mI x5)] [] s Q := Wp_step k290 f290_99 (Wp_step k290 f290_102 (h_1))
theorem b290_105 {X : (Nat → Int) × Nat} {d : Nat} {s : mSt} {Q : mQ} {x1 : Int} {x2 : Int} {x3 : Int} {x4 : Int} {x5 : Int} (h_1 : 0 ≤ (w32 (129 + x1)) ∧ (w32 (129 + x1)) < 166) (h_2 : 0 ≤ (w32 (129 + x2)) ∧ (w32 (129 + x2)) < 166) (h_3 : Q none (uS (uS s 417 ((w32 (129 + x1)).toNat) x3) 417 ((w32 (129 + x2)).toNat) x4)) : Wp X d 290 105 [some (mR 407), some (mI x1), some (mI x2), some (mI x3), some (mI x4), some (mI x5)] [] s Q := Wp_step k290 f290_105 (Wp_step k290 f290_106 ⟨kf_407, 417, rf_407_20, Wp_step k290 f290_109 (Wp_step k290 f290_112 (Wp_step k290 f290_113 (Wp_step k290 f290_114 (Wp_step k290 f290_115 ⟨166, af_417, h_1, Wp_step k290 f290_116 (Wp_step k290 f290_117 ⟨kf_407, 417, rf_407_20, Wp_step k290 f290_120 (Wp_step k290 f290_123 (Wp_step k290 f290_124 (Wp_step k290 f290_125 (Wp_step k290 f290_127 ⟨166, af_417, h_2, Wp_step k290 f290_128 ⟨⟨rfl, Or.inl rfl⟩, h_3⟩⟩))))⟩)⟩))))⟩)
theorem e290 {X : (Nat → Int) × Nat} {d : Nat} {s : mSt} {Q : mQ} {x1 : Int} {x2 : Int} (h : Wp X d 290 0 [some (mR 407), some (mI x1), some (mI x2), none, none, none] [] s Q) : Sp X d 290 [mR 407, mI x1, mI x2] s Q := Sp_of (show mCe 290 = 0 by decide +kernel) (by rw [show mML 290 = 6 by decide +kernel]; rfl) (Nat.le_trans (Nat.le_of_ble_eq_true (show Nat.ble (mArgs _).length 6 = true from rfl)) (show 6 ≤ mML 290 by decide +kernel)) h
-- 291 ClashDayModel.rests(III)I
theorem k291 : mRk 291 = 1 := by decide +kernel
theorem f291_0 : mFetch 291 0 = some (.aload_n 0, 1, 0, 0, 0, 0) := by decide +kernel
theorem f291_1 : mFetch 291 1 = some (.iload_n 1, 1, 0, 0, 0, 0) := by decide +kernel
theorem f291_2 : mFetch 291 2 = some (.invokevirtual 328, 3, 215, 0, 2, 12) := by decide +kernel
theorem f291_5 : mFetch 291 5 = some (.ifCond .eq 28, 3, 33, 0, 0, 0) := by decide +kernel
theorem f291_8 : mFetch 291 8 = some (.aload_n 0, 1, 0, 0, 0, 0) := by decide +kernel
theorem f291_9 : mFetch 291 9 = some (.iload_n 2, 1, 0, 0, 0, 0) := by decide +kernel
theorem f291_10 : mFetch 291 10 = some (.invokevirtual 328, 3, 215, 0, 2, 12) := by decide +kernel
theorem f291_13 : mFetch 291 13 = some (.ifCond .eq 20, 3, 33, 0, 0, 0) := by decide +kernel
theorem f291_16 : mFetch 291 16 = some (.iload_n 1, 1, 0, 0, 0, 0) := by decide +kernel
theorem f291_17 : mFetch 291 17 = some (.iload_n 2, 1, 0, 0, 0, 0) := by decide +kernel
theorem f291_18 : mFetch 291 18 = some (.if_icmp .eq 15, 3, 33, 0, 0, 0) := by decide +kernel
theorem f291_21 : mFetch 291 21 = some (.iload_n 3, 1, 0, 0, 0, 0) := by decide +kernel
theorem f291_22 : mFetch 291 22 = some (.i2l, 1, 0, 0, 0, 0) := by decide +kernel
theorem f291_23 : mFetch 291 23 = some (.lconst 0, 1, 0, 0, 0, 0) := by decide +kernel
theorem f291_24 : mFetch 291 24 = some (.ldc2_w 352, 3, 2, 0, 0, 0) := by decide +kernel
theorem f291_27 : mFetch 291 27 = some (.invokestatic 151, 3, 167, 0, 3, 99) := by decide +kernel
theorem f291_30 : mFetch 291 30 = some (.ifCond .ne 5, 3, 35, 0, 0, 0) := by decide +kernel
theorem f291_33 : mFetch 291 33 = some (.iconst (-1), 1, 0, 0, 0, 0) := by decide +kernel
theorem f291_34 : mFetch 291 34 = some (.ireturn, 1, 0, 0, 0, 0) := by decide +kernel
theorem f291_35 : mFetch 291 35 = some (.aload_n 0, 1, 0, 0, 0, 0) := by decide +kernel
theorem f291_36 : mFetch 291 36 = some (.iload_n 1, 1, 0, 0, 0, 0) := by decide +kernel
theorem f291_37 : mFetch 291 37 = some (.iload_n 2, 1, 0, 0, 0, 0) := by decide +kernel
theorem f291_38 : mFetch 291 38 = some (.invokevirtual 531, 3, 290, 0, 3, 12) := by decide +kernel
theorem f291_41 : mFetch 291 41 = some (.iconst 0, 1, 0, 0, 0, 0) := by decide +kernel
theorem f291_42 : mFetch 291 42 = some (.istore 4, 2, 0, 0, 0, 0) := by decide +kernel
theorem f291_44 : mFetch 291 44 = some (.iconst (-1), 1, 0, 0, 0, 0) := by decide +kernel
theorem f291_45 : mFetch 291 45 = some (.istore 5, 2, 0, 0, 0, 0) := by decide +kernel
theorem f291_47 : mFetch 291 47 = some (.bipush 15, 2, 0, 0, 0, 0) := by decide +kernel
theorem f291_49 : mFetch 291 49 = some (.istore 6, 2, 0, 0, 0, 0) := by decide +kernel
theorem f291_51 : mFetch 291 51 = some (.iload 6, 2, 0, 0, 0, 0) := by decide +kernel
theorem f291_53 : mFetch 291 53 = some (.ifCond .lt 34, 3, 87, 0, 0, 0) := by decide +kernel
theorem f291_56 : mFetch 291 56 = some (.aload_n 0, 1, 0, 0, 0, 0) := by decide +kernel
theorem f291_57 : mFetch 291 57 = some (.iload 6, 2, 0, 0, 0, 0) := by decide +kernel
theorem f291_59 : mFetch 291 59 = some (.iconst 4, 1, 0, 0, 0, 0) := by decide +kernel
theorem f291_60 : mFetch 291 60 = some (.idiv, 1, 0, 0, 0, 0) := by decide +kernel
theorem f291_61 : mFetch 291 61 = some (.iload 6, 2, 0, 0, 0, 0) := by decide +kernel
theorem f291_63 : mFetch 291 63 = some (.iconst 4, 1, 0, 0, 0, 0) := by decide +kernel
theorem f291_64 : mFetch 291 64 = some (.irem, 1, 0, 0, 0, 0) := by decide +kernel
theorem f291_65 : mFetch 291 65 = some (.invokevirtual 534, 3, 288, 0, 3, 12) := by decide +kernel
theorem f291_68 : mFetch 291 68 = some (.ifCond .ne 6, 3, 74, 0, 0, 0) := by decide +kernel
theorem f291_71 : mFetch 291 71 = some (.goto 10, 3, 81, 0, 0, 0) := by decide +kernel
theorem f291_74 : mFetch 291 74 = some (.iload 6, 2, 0, 0, 0, 0) := by decide +kernel
theorem f291_76 : mFetch 291 76 = some (.istore 5, 2, 0, 0, 0, 0) := by decide +kernel
theorem f291_78 : mFetch 291 78 = some (.iinc 4 1, 3, 0, 0, 0, 0) := by decide +kernel
theorem f291_81 : mFetch 291 81 = some (.iinc 6 (-1), 3, 0, 0, 0, 0) := by decide +kernel
theorem f291_84 : mFetch 291 84 = some (.goto (-33), 3, 51, 0, 0, 0) := by decide +kernel
theorem f291_87 : mFetch 291 87 = some (.iload_n 3, 1, 0, 0, 0, 0) := by decide +kernel
theorem f291_88 : mFetch 291 88 = some (.ifCond .ne 6, 3, 94, 0, 0, 0) := by decide +kernel
theorem f291_91 : mFetch 291 91 = some (.iload 4, 2, 0, 0, 0, 0) := by decide +kernel
theorem f291_93 : mFetch 291 93 = some (.ireturn, 1, 0, 0, 0, 0) := by decide +kernel
theorem f291_94 : mFetch 291 94 = some (.iload 5, 2, 0, 0, 0, 0) := by decide +kernel
theorem f291_96 : mFetch 291 96 = some (.ifCond .ge 8, 3, 104, 0, 0, 0) := by decide +kernel
theorem f291_99 : mFetch 291 99 = some (.bipush (-2), 2, 0, 0, 0, 0) := by decide +kernel
theorem f291_101 : mFetch 291 101 = some (.goto 19, 3, 120, 0, 0, 0) := by decide +kernel
theorem f291_104 : mFetch 291 104 = some (.iload_n 3, 1, 0, 0, 0, 0) := by decide +kernel
theorem f291_105 : mFetch 291 105 = some (.iconst 1, 1, 0, 0, 0, 0) := by decide +kernel
theorem f291_106 : mFetch 291 106 = some (.if_icmp .ne 10, 3, 116, 0, 0, 0) := by decide +kernel
theorem f291_109 : mFetch 291 109 = some (.iload 5, 2, 0, 0, 0, 0) := by decide +kernel
theorem f291_111 : mFetch 291 111 = some (.iconst 4, 1, 0, 0, 0, 0) := by decide +kernel
theorem f291_112 : mFetch 291 112 = some (.idiv, 1, 0, 0, 0, 0) := by decide +kernel
theorem f291_113 : mFetch 291 113 = some (.goto 7, 3, 120, 0, 0, 0) := by decide +kernel
theorem f291_116 : mFetch 291 116 = some (.iload 5, 2, 0, 0, 0, 0) := by decide +kernel
theorem f291_118 : mFetch 291 118 = some (.iconst 4, 1, 0, 0, 0, 0) := by decide +kernel
theorem f291_119 : mFetch 291 119 = some (.irem, 1, 0, 0, 0, 0) := by decide +kernel
theorem f291_120 : mFetch 291 120 = some (.ireturn, 1, 0, 0, 0, 0) := by decide +kernel
theorem b291_0 {X : (Nat → Int) × Nat} {d : Nat} {s : mSt} {Q : mQ} {x1 : Int} {x2 : Int} {x3 : Int} {l4 : Option mV} {l5 : Option mV} {l6 : Option mV} (h_1 : Sp X d 215 [mR 407, mI x1] s (fun r s' => ∃ v : Int, r = some (mI v) ∧ Wp X (d + 1) 291 5 [some (mR 407), some (mI x1), some (mI x2), some (mI x3), l4, l5, l6] [mI v] s' Q)) : Wp X (d + 1) 291 0 [some (mR 407), some (mI x1), some (mI x2), some (mI x3), l4, l5, l6] [] s Q := Wp_step k291 f291_0 (Wp_step k291 f291_1 (Wp_step k291 f291_2 ⟨⟨kf_407, Nat.le_of_ble_eq_true rfl⟩, Nat.le_refl _, _, rfl, Sp_E h_1⟩))
theorem b291_5 {X : (Nat → Int) × Nat} {d : Nat} {s : mSt} {Q : mQ} {x1 : Int} {x2 : Int} {x3 : Int} {l4 : Option mV} {l5 : Option mV} {l6 : Option mV} {xt0 : Int} (h_1 : xt0 = 0 → Wp X d 291 33 [some (mR 407), some (mI x1), some (mI x2), some (mI x3), l4, l5, l6] [] s Q) (h_2 : ¬ xt0 = 0 → Wp X d 291 8 [some (mR 407), some (mI x1), some (mI x2), some (mI x3), l4, l5, l6] [] s Q) : Wp X d 291 5 [some (mR 407), some (mI x1), some (mI x2), some (mI x3), l4, l5, l6] [mI xt0] s Q := Wp_step k291 f291_5 ⟨h_1, h_2⟩
theorem b291_8 {X : (Nat → Int) × Nat} {d : Nat} {s : mSt} {Q : mQ} {x1 : Int} {x2 : Int} {x3 : Int} {l4 : Option mV} {l5 : Option mV} {l6 : Option mV} (h_1 : Sp X d 215 [mR 407, mI x2] s (fun r s' => ∃ v : Int, r = some (mI v) ∧ Wp X (d + 1) 291 13 [some (mR 407), some (mI x1), some (mI x2), some (mI x3), l4, l5, l6] [mI v] s' Q)) : Wp X (d + 1) 291 8 [some (mR 407), some (mI x1), some (mI x2), some (mI x3), l4, l5, l6] [] s Q := Wp_step k291 f291_8 (Wp_step k291 f291_9 (Wp_step k291 f291_10 ⟨⟨kf_407, Nat.le_of_ble_eq_true rfl⟩, Nat.le_refl _, _, rfl, Sp_E h_1⟩))
theorem b291_13 {X : (Nat → Int) × Nat} {d : Nat} {s : mSt} {Q : mQ} {x1 : Int} {x2 : Int} {x3 : Int} {l4 : Option mV} {l5 : Option mV} {l6 : Option mV} {xt0 : Int} (h_1 : xt0 = 0 → Wp X d 291 33 [some (mR 407), some (mI x1), some (mI x2), some (mI x3), l4, l5, l6] [] s Q) (h_2 : ¬ xt0 = 0 → Wp X d 291 16 [some (mR 407), some (mI x1), some (mI x2), some (mI x3), l4, l5, l6] [] s Q) : Wp X d 291 13 [some (mR 407), some (mI x1), some (mI x2), some (mI x3), l4, l5, l6] [mI xt0] s Q := Wp_step k291 f291_13 ⟨h_1, h_2⟩
theorem b291_16 {X : (Nat → Int) × Nat} {d : Nat} {s : mSt} {Q : mQ} {x1 : Int} {x2 : Int} {x3 : Int} {l4 : Option mV} {l5 : Option mV} {l6 : Option mV} (h_1 : x1 = x2 → Wp X d 291 33 [some (mR 407), some (mI x1), some (mI x2), some (mI x3), l4, l5, l6] [] s Q) (h_2 : ¬ x1 = x2 → Wp X d 291 21 [some (mR 407), some (mI x1), some (mI x2), some (mI x3), l4, l5, l6] [] s Q) : Wp X d 291 16 [some (mR 407), some (mI x1), some (mI x2), some (mI x3), l4, l5, l6] [] s Q := Wp_step k291 f291_16 (Wp_step k291 f291_17 (Wp_step k291 f291_18 ⟨h_1, h_2⟩))
theorem b291_21 {X : (Nat → Int) × Nat} {d : Nat} {s : mSt} {Q : mQ} {x1 : Int} {x2 : Int} {x3 : Int} {l4 : Option mV} {l5 : Option mV} {l6 : Option mV} (h_1 : Sp X d 167 [mJ x3, mJ 0, mJ 2] s (fun r s' => ∃ v : Int, r = some (mI v) ∧ Wp X (d + 1) 291 30 [some (mR 407), some (mI x1), some (mI x2), some (mI x3), l4, l5, l6] [mI v] s' Q)) : Wp X (d + 1) 291 21 [some (mR 407), some (mI x1), some (mI x2), some (mI x3), l4, l5, l6] [] s Q := Wp_step k291 f291_21 (Wp_step k291 f291_22 (Wp_step k291 f291_23 (Wp_step k291 f291_24 (Wp_step k291 f291_27 ⟨⟨Nat.le_of_ble_eq_true rfl, Nat.le_refl _⟩, _, rfl, Sp_E h_1⟩))))
theorem b291_30 {X : (Nat → Int) × Nat} {d : Nat} {s : mSt} {Q : mQ} {x1 : Int} {x2 : Int} {x3 : Int} {l4 : Option mV} {l5 : Option mV} {l6 : Option mV} {xt0 : Int} (h_1 : ¬ xt0 = 0 → Wp X d 291 35 [some (mR 407), some (mI x1), some (mI x2), some (mI x3), l4, l5, l6] [] s Q) (h_2 : xt0 = 0 → Wp X d 291 33 [some (mR 407), some (mI x1), some (mI x2), some (mI x3), l4, l5, l6] [] s Q) : Wp X d 291 30 [some (mR 407), some (mI x1), some (mI x2), some (mI x3), l4, l5, l6] [mI xt0] s Q := Wp_step k291 f291_30 ⟨h_1, h_2⟩
theorem b291_33 {X : (Nat → Int) × Nat} {d : Nat} {s : mSt} {Q : mQ} {x1 : Int} {x2 : Int} {x3 : Int} {l4 : Option mV} {l5 : Option mV} {l6 : Option mV} (h_1 : Q (some (mI (-1))) s) : Wp X d 291 33 [some (mR 407), some (mI x1), some (mI x2), some (mI x3), l4, l5, l6] [] s Q := Wp_step k291 f291_33 (Wp_step k291 f291_34 ⟨⟨rfl, trivial⟩, h_1⟩)
theorem b291_35 {X : (Nat → Int) × Nat} {d : Nat} {s : mSt} {Q : mQ} {x1 : Int} {x2 : Int} {x3 : Int} {l4 : Option mV} {l5 : Option mV} {l6 : Option mV} (h_1 : Sp X d 290 [mR 407, mI x1, mI x2] s (fun r s' => r = none ∧ Wp X (d + 1) 291 41 [some (mR 407), some (mI x1), some (mI x2), some (mI x3), l4, l5, l6] [] s' Q)) : Wp X (d + 1) 291 35 [some (mR 407), some (mI x1), some (mI x2), some (mI x3), l4, l5, l6] [] s Q := Wp_step k291 f291_35 (Wp_step k291 f291_36 (Wp_step k291 f291_37 (Wp_step k291 f291_38 ⟨⟨kf_407, Nat.le_of_ble_eq_true rfl⟩, Nat.le_refl _, _, rfl, Sp_V h_1⟩)))
theorem b291_41 {X : (Nat → Int) × Nat} {d : Nat} {s : mSt} {Q : mQ} {x1 : Int} {x2 : Int} {x3 : Int} {l4 : Option mV} {l5 : Option mV} {l6 : Option mV} (h_1 : Wp X d 291 51 [some (mR 407), some (mI x1), some (mI x2), some (mI x3), some (mI 0), some (mI (-1)), some (mI 15)] [] s Q) : Wp X d 291 41 [some (mR 407), some (mI x1), some (mI x2), some (mI x3), l4, l5, l6] [] s Q := Wp_step k291 f291_41 (Wp_step k291 f291_42 (Wp_step k291 f291_44 (Wp_step k291 f291_45 (Wp_step k291 f291_47 (Wp_step k291 f291_49 (h_1))))))
theorem b291_51 {X : (Nat → Int) × Nat} {d : Nat} {s : mSt} {Q : mQ} {x1 : Int} {x2 : Int} {x3 : Int} {x4 : Int} {x5 : Int} {x6 : Int} (h_1 : x6 < 0 → Wp X d 291 87 [some (mR 407), some (mI x1), some (mI x2), some (mI x3), some (mI x4), some (mI x5), some (mI x6)] [] s Q) (h_2 : ¬ x6 < 0 → Wp X d 291 56 [some (mR 407), some (mI x1), some (mI x2), some (mI x3), some (mI x4), some (mI x5), some (mI x6)] [] s Q) : Wp X d 291 51 [some (mR 407), some (mI x1), some (mI x2), some (mI x3), some (mI x4), some (mI x5), some (mI x6)] [] s Q := Wp_step k291 f291_51 (Wp_step k291 f291_53 ⟨h_1, h_2⟩)
theorem b291_56 {X : (Nat → Int) × Nat} {d : Nat} {s : mSt} {Q : mQ} {x1 : Int} {x2 : Int} {x3 : Int} {x4 : Int} {x5 : Int} {x6 : Int} (h_1 : Sp X d 288 [mR 407, mI (w32 (Int.tdiv x6 4)), mI (Int.tmod x6 4)] s (fun r s' => ∃ v : Int, r = some (mI v) ∧ Wp X (d + 1) 291 68 [some (mR 407), some (mI x1), some (mI x2), some (mI x3), some (mI x4), some (mI x5), some (mI x6)] [mI v] s' Q)) : Wp X (d + 1) 291 56 [some (mR 407), some (mI x1), some (mI x2), some (mI x3), some (mI x4), some (mI x5), some (mI x6)] [] s Q := Wp_step k291 f291_56 (Wp_step k291 f291_57 (Wp_step k291 f291_59 (Wp_step k291 f291_60 ⟨(by decide), Wp_step k291 f291_61 (Wp_step k291 f291_63 (Wp_step k291 f291_64 ⟨(by decide), Wp_step k291 f291_65 ⟨⟨kf_407, Nat.le_of_ble_eq_true rfl⟩, Nat.le_refl _, _, rfl, Sp_E h_1⟩⟩))⟩)))
theorem b291_68 {X : (Nat → Int) × Nat} {d : Nat} {s : mSt} {Q : mQ} {x1 : Int} {x2 : Int} {x3 : Int} {x4 : Int} {x5 : Int} {x6 : Int} {xt0 : Int} (h_1 : ¬ xt0 = 0 → Wp X d 291 74 [some (mR 407), some (mI x1), some (mI x2), some (mI x3), some (mI x4), some (mI x5), some (mI x6)] [] s Q) (h_2 : xt0 = 0 → Wp X d 291 71 [some (mR 407), some (mI x1), some (mI x2), some (mI x3), some (mI x4), some (mI x5), some (mI x6)] [] s Q) : Wp X d 291 68 [some (mR 407), some (mI x1), some (mI x2), some (mI x3), some (mI x4), some (mI x5), some (mI x6)] [mI xt0] s Q := Wp_step k291 f291_68 ⟨h_1, h_2⟩
theorem b291_71 {X : (Nat → Int) × Nat} {d : Nat} {s : mSt} {Q : mQ} {x1 : Int} {x2 : Int} {x3 : Int} {x4 : Int} {x5 : Int} {x6 : Int} (h_1 : Wp X d 291 81 [some (mR 407), some (mI x1), some (mI x2), some (mI x3), some (mI x4), some (mI x5), some (mI x6)] [] s Q) : Wp X d 291 71 [some (mR 407), some (mI x1), some (mI x2), some (mI x3), some (mI x4), some (mI x5), some (mI x6)] [] s Q := Wp_step k291 f291_71 (h_1)
theorem b291_74 {X : (Nat → Int) × Nat} {d : Nat} {s : mSt} {Q : mQ} {x1 : Int} {x2 : Int} {x3 : Int} {x4 : Int} {x5 : Int} {x6 : Int} (h_1 : Wp X d 291 81 [some (mR 407), some (mI x1), some (mI x2), some (mI x3), some (mI (w32 (x4 + 1))), some (mI x6), some (mI x6)] [] s Q) : Wp X d 291 74 [some (mR 407), some (mI x1), some (mI x2), some (mI x3), some (mI x4), some (mI x5), some (mI x6)] [] s Q := Wp_step k291 f291_74 (Wp_step k291 f291_76 (Wp_step k291 f291_78 (h_1)))
theorem b291_81 {X : (Nat → Int) × Nat} {d : Nat} {s : mSt} {Q : mQ} {x1 : Int} {x2 : Int} {x3 : Int} {x4 : Int} {x5 : Int} {x6 : Int} (h_1 : Wp X d 291 51 [some (mR 407), some (mI x1), some (mI x2), some (mI x3), some (mI x4), some (mI x5), some (mI (w32 (x6 + (-1))))] [] s Q) : Wp X d 291 81 [some (mR 407), some (mI x1), some (mI x2), some (mI x3), some (mI x4), some (mI x5), some (mI x6)] [] s Q := Wp_step k291 f291_81 (Wp_step k291 f291_84 (h_1))
theorem b291_87 {X : (Nat → Int) × Nat} {d : Nat} {s : mSt} {Q : mQ} {x1 : Int} {x2 : Int} {x3 : Int} {x4 : Int} {x5 : Int} {x6 : Int} (h_1 : ¬ x3 = 0 → Wp X d 291 94 [some (mR 407), some (mI x1), some (mI x2), some (mI x3), some (mI x4), some (mI x5), some (mI x6)] [] s Q) (h_2 : x3 = 0 → Wp X d 291 91 [some (mR 407), some (mI x1), some (mI x2), some (mI x3), some (mI x4), some (mI x5), some (mI x6)] [] s Q) : Wp X d 291 87 [some (mR 407), some (mI x1), some (mI x2), some (mI x3), some (mI x4), some (mI x5), some (mI x6)] [] s Q := Wp_step k291 f291_87 (Wp_step k291 f291_88 ⟨h_1, h_2⟩)
theorem b291_91 {X : (Nat → Int) × Nat} {d : Nat} {s : mSt} {Q : mQ} {x1 : Int} {x2 : Int} {x3 : Int} {x4 : Int} {x5 : Int} {x6 : Int} (h_1 : Q (some (mI x4)) s) : Wp X d 291 91 [some (mR 407), some (mI x1), some (mI x2), some (mI x3), some (mI x4), some (mI x5), some (mI x6)] [] s Q := Wp_step k291 f291_91 (Wp_step k291 f291_93 ⟨⟨rfl, trivial⟩, h_1⟩)
theorem b291_94 {X : (Nat → Int) × Nat} {d : Nat} {s : mSt} {Q : mQ} {x1 : Int} {x2 : Int} {x3 : Int} {x4 : Int} {x5 : Int} {x6 : Int} (h_1 : 0 ≤ x5 → Wp X d 291 104 [some (mR 407), some (mI x1), some (mI x2), some (mI x3), some (mI x4), some (mI x5), some (mI x6)] [] s Q) (h_2 : ¬ 0 ≤ x5 → Wp X d 291 99 [some (mR 407), some (mI x1), some (mI x2), some (mI x3), some (mI x4), some (mI x5), some (mI x6)] [] s Q) : Wp X d 291 94 [some (mR 407), some (mI x1), some (mI x2), some (mI x3), some (mI x4), some (mI x5), some (mI x6)] [] s Q := Wp_step k291 f291_94 (Wp_step k291 f291_96 ⟨h_1, h_2⟩)
theorem b291_99 {X : (Nat → Int) × Nat} {d : Nat} {s : mSt} {Q : mQ} {x1 : Int} {x2 : Int} {x3 : Int} {x4 : Int} {x5 : Int} {x6 : Int} (h_1 : Wp X d 291 120 [some (mR 407), some (mI x1), some (mI x2), some (mI x3), some (mI x4), some (mI x5), some (mI x6)] [mI (-2)] s Q) : Wp X d 291 99 [some (mR 407), some (mI x1), some (mI x2), some (mI x3), some (mI x4), some (mI x5), some (mI x6)] [] s Q := Wp_step k291 f291_99 (Wp_step k291 f291_101 (h_1))
theorem b291_104 {X : (Nat → Int) × Nat} {d : Nat} {s : mSt} {Q : mQ} {x1 : Int} {x2 : Int} {x3 : Int} {x4 : Int} {x5 : Int} {x6 : Int} (h_1 : ¬ x3 = 1 → Wp X d 291 116 [some (mR 407), some (mI x1), some (mI x2), some (mI x3), some (mI x4), some (mI x5), some (mI x6)] [] s Q) (h_2 : x3 = 1 → Wp X d 291 109 [some (mR 407), some (mI x1), some (mI x2), some (mI x3), some (mI x4), some (mI x5), some (mI x6)] [] s Q) : Wp X d 291 104 [some (mR 407), some (mI x1), some (mI x2), some (mI x3), some (mI x4), some (mI x5), some (mI x6)] [] s Q := Wp_step k291 f291_104 (Wp_step k291 f291_105 (Wp_step k291 f291_106 ⟨h_1, h_2⟩))
theorem b291_109 {X : (Nat → Int) × Nat} {d : Nat} {s : mSt} {Q : mQ} {x1 : Int} {x2 : Int} {x3 : Int} {x4 : Int} {x5 : Int} {x6 : Int} (h_1 : Wp X d 291 120 [some (mR 407), some (mI x1), some (mI x2), some (mI x3), some (mI x4), some (mI x5), some (mI x6)] [mI (w32 (Int.tdiv x5 4))] s Q) : Wp X d 291 109 [some (mR 407), some (mI x1), some (mI x2), some (mI x3), some (mI x4), some (mI x5), some (mI x6)] [] s Q := Wp_step k291 f291_109 (Wp_step k291 f291_111 (Wp_step k291 f291_112 ⟨(by decide), Wp_step k291 f291_113 (h_1)⟩))
theorem b291_116 {X : (Nat → Int) × Nat} {d : Nat} {s : mSt} {Q : mQ} {x1 : Int} {x2 : Int} {x3 : Int} {x4 : Int} {x5 : Int} {x6 : Int} (h_1 : Wp X d 291 120 [some (mR 407), some (mI x1), some (mI x2), some (mI x3), some (mI x4), some (mI x5), some (mI x6)] [mI (Int.tmod x5 4)] s Q) : Wp X d 291 116 [some (mR 407), some (mI x1), some (mI x2), some (mI x3), some (mI x4), some (mI x5), some (mI x6)] [] s Q := Wp_step k291 f291_116 (Wp_step k291 f291_118 (Wp_step k291 f291_119 ⟨(by decide), h_1⟩))
theorem b291_120 {X : (Nat → Int) × Nat} {d : Nat} {s : mSt} {Q : mQ} {x1 : Int} {x2 : Int} {x3 : Int} {x4 : Int} {x5 : Int} {x6 : Int} {xt0 : Int} (h_1 : Q (some (mI xt0)) s) : Wp X d 291 120 [some (mR 407), some (mI x1), some (mI x2), some (mI x3), some (mI x4), some (mI x5), some (mI x6)] [mI xt0] s Q := Wp_step k291 f291_120 ⟨⟨rfl, trivial⟩, h_1⟩
theorem e291 {X : (Nat → Int) × Nat} {d : Nat} {s : mSt} {Q : mQ} {x1 : Int} {x2 : Int} {x3 : Int} (h : Wp X d 291 0 [some (mR 407), some (mI x1), some (mI x2), some (mI x3), none, none, none] [] s Q) : Sp X d 291 [mR 407, mI x1, mI x2, mI x3] s Q := Sp_of (show mCe 291 = 0 by decide +kernel) (by rw [show mML 291 = 7 by decide +kernel]; rfl) (Nat.le_trans (Nat.le_of_ble_eq_true (show Nat.ble (mArgs _).length 7 = true from rfl)) (show 7 ≤ mML 291 by decide +kernel)) h
