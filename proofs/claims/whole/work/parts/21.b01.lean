-- 2 ClashDay$Board.clear()V
theorem k2 : mRk 2 = 0 := by decide +kernel
theorem f2_0 : mFetch 2 0 = some (.aload_n 0, 1, 0, 0, 0, 0) := by decide +kernel
theorem f2_1 : mFetch 2 1 = some (.iconst 0, 1, 0, 0, 0, 0) := by decide +kernel
theorem f2_2 : mFetch 2 2 = some (.putfield 39, 3, 0, 0, 0, 1) := by decide +kernel
theorem f2_5 : mFetch 2 5 = some (.aload_n 0, 1, 0, 0, 0, 0) := by decide +kernel
theorem f2_6 : mFetch 2 6 = some (.iconst 0, 1, 0, 0, 0, 0) := by decide +kernel
theorem f2_7 : mFetch 2 7 = some (.putfield 43, 3, 0, 1, 0, 1) := by decide +kernel
theorem f2_10 : mFetch 2 10 = some (.aload_n 0, 1, 0, 0, 0, 0) := by decide +kernel
theorem f2_11 : mFetch 2 11 = some (.iconst 0, 1, 0, 0, 0, 0) := by decide +kernel
theorem f2_12 : mFetch 2 12 = some (.putfield 46, 3, 0, 2, 0, 1) := by decide +kernel
theorem f2_15 : mFetch 2 15 = some (.aload_n 0, 1, 0, 0, 0, 0) := by decide +kernel
theorem f2_16 : mFetch 2 16 = some (.iconst 0, 1, 0, 0, 0, 0) := by decide +kernel
theorem f2_17 : mFetch 2 17 = some (.putfield 49, 3, 0, 3, 0, 1) := by decide +kernel
theorem f2_20 : mFetch 2 20 = some (.aload_n 0, 1, 0, 0, 0, 0) := by decide +kernel
theorem f2_21 : mFetch 2 21 = some (.iconst 0, 1, 0, 0, 0, 0) := by decide +kernel
theorem f2_22 : mFetch 2 22 = some (.putfield 52, 3, 0, 4, 0, 1) := by decide +kernel
theorem f2_25 : mFetch 2 25 = some (.aload_n 0, 1, 0, 0, 0, 0) := by decide +kernel
theorem f2_26 : mFetch 2 26 = some (.iconst 0, 1, 0, 0, 0, 0) := by decide +kernel
theorem f2_27 : mFetch 2 27 = some (.putfield 55, 3, 0, 5, 0, 1) := by decide +kernel
theorem f2_30 : mFetch 2 30 = some (.iconst 0, 1, 0, 0, 0, 0) := by decide +kernel
theorem f2_31 : mFetch 2 31 = some (.istore_n 1, 1, 0, 0, 0, 0) := by decide +kernel
theorem f2_32 : mFetch 2 32 = some (.iload_n 1, 1, 0, 0, 0, 0) := by decide +kernel
theorem f2_33 : mFetch 2 33 = some (.bipush 30, 2, 0, 0, 0, 0) := by decide +kernel
theorem f2_35 : mFetch 2 35 = some (.if_icmp .ge 16, 3, 51, 0, 0, 0) := by decide +kernel
theorem f2_38 : mFetch 2 38 = some (.aload_n 0, 1, 0, 0, 0, 0) := by decide +kernel
theorem f2_39 : mFetch 2 39 = some (.getfield 27, 3, 0, 11, 2, 1) := by decide +kernel
theorem f2_42 : mFetch 2 42 = some (.iload_n 1, 1, 0, 0, 0, 0) := by decide +kernel
theorem f2_43 : mFetch 2 43 = some (.iconst 0, 1, 0, 0, 0, 0) := by decide +kernel
theorem f2_44 : mFetch 2 44 = some (.iastore, 1, 0, 0, 0, 0) := by decide +kernel
theorem f2_45 : mFetch 2 45 = some (.iinc 1 1, 3, 0, 0, 0, 0) := by decide +kernel
theorem f2_48 : mFetch 2 48 = some (.goto (-16), 3, 32, 0, 0, 0) := by decide +kernel
theorem f2_51 : mFetch 2 51 = some (.iconst 0, 1, 0, 0, 0, 0) := by decide +kernel
theorem f2_52 : mFetch 2 52 = some (.istore_n 1, 1, 0, 0, 0, 0) := by decide +kernel
theorem f2_53 : mFetch 2 53 = some (.iload_n 1, 1, 0, 0, 0, 0) := by decide +kernel
theorem f2_54 : mFetch 2 54 = some (.bipush 6, 2, 0, 0, 0, 0) := by decide +kernel
theorem f2_56 : mFetch 2 56 = some (.if_icmp .ge 23, 3, 79, 0, 0, 0) := by decide +kernel
theorem f2_59 : mFetch 2 59 = some (.aload_n 0, 1, 0, 0, 0, 0) := by decide +kernel
theorem f2_60 : mFetch 2 60 = some (.getfield 33, 3, 0, 13, 2, 1) := by decide +kernel
theorem f2_63 : mFetch 2 63 = some (.iload_n 1, 1, 0, 0, 0, 0) := by decide +kernel
theorem f2_64 : mFetch 2 64 = some (.iconst 0, 1, 0, 0, 0, 0) := by decide +kernel
theorem f2_65 : mFetch 2 65 = some (.iastore, 1, 0, 0, 0, 0) := by decide +kernel
theorem f2_66 : mFetch 2 66 = some (.aload_n 0, 1, 0, 0, 0, 0) := by decide +kernel
theorem f2_67 : mFetch 2 67 = some (.getfield 36, 3, 0, 14, 2, 1) := by decide +kernel
theorem f2_70 : mFetch 2 70 = some (.iload_n 1, 1, 0, 0, 0, 0) := by decide +kernel
theorem f2_71 : mFetch 2 71 = some (.iconst 0, 1, 0, 0, 0, 0) := by decide +kernel
theorem f2_72 : mFetch 2 72 = some (.iastore, 1, 0, 0, 0, 0) := by decide +kernel
theorem f2_73 : mFetch 2 73 = some (.iinc 1 1, 3, 0, 0, 0, 0) := by decide +kernel
theorem f2_76 : mFetch 2 76 = some (.goto (-23), 3, 53, 0, 0, 0) := by decide +kernel
theorem f2_79 : mFetch 2 79 = some (.return_, 1, 0, 0, 0, 0) := by decide +kernel
theorem b2_0 {X : (Nat → Int) × Nat} {d : Nat} {s : mSt} {Q : mQ} {a0 : Nat} {l1 : Option mV} (h0 : isBd a0) (h_1 : Wp X d 2 32 [some (mR a0), some (mI 0)] [] (uS (uS (uS (uS (uS (uS s a0 0 0) a0 1 0) a0 2 0) a0 3 0) a0 4 0) a0 5 0) Q) : Wp X d 2 0 [some (mR a0), l1] [] s Q := Wp_step k2 f2_0 (Wp_step k2 f2_1 (Wp_step k2 f2_2 ⟨(bd_k h0), Wp_step k2 f2_5 (Wp_step k2 f2_6 (Wp_step k2 f2_7 ⟨(bd_k h0), Wp_step k2 f2_10 (Wp_step k2 f2_11 (Wp_step k2 f2_12 ⟨(bd_k h0), Wp_step k2 f2_15 (Wp_step k2 f2_16 (Wp_step k2 f2_17 ⟨(bd_k h0), Wp_step k2 f2_20 (Wp_step k2 f2_21 (Wp_step k2 f2_22 ⟨(bd_k h0), Wp_step k2 f2_25 (Wp_step k2 f2_26 (Wp_step k2 f2_27 ⟨(bd_k h0), Wp_step k2 f2_30 (Wp_step k2 f2_31 (h_1))⟩))⟩))⟩))⟩))⟩))⟩))
theorem b2_32 {X : (Nat → Int) × Nat} {d : Nat} {s : mSt} {Q : mQ} {a0 : Nat} {x1 : Int} (h0 : isBd a0) (h_1 : 30 ≤ x1 → Wp X d 2 51 [some (mR a0), some (mI x1)] [] s Q) (h_2 : ¬ 30 ≤ x1 → Wp X d 2 38 [some (mR a0), some (mI x1)] [] s Q) : Wp X d 2 32 [some (mR a0), some (mI x1)] [] s Q := Wp_step k2 f2_32 (Wp_step k2 f2_33 (Wp_step k2 f2_35 ⟨h_1, h_2⟩))
theorem b2_38 {X : (Nat → Int) × Nat} {d : Nat} {s : mSt} {Q : mQ} {a0 : Nat} {x1 : Int} (h0 : isBd a0) (h_1 : 0 ≤ x1 ∧ x1 < 30) (h_2 : Wp X d 2 32 [some (mR a0), some (mI (w32 (x1 + 1)))] [] (uS s (a0 + 6) x1.toNat 0) Q) : Wp X d 2 38 [some (mR a0), some (mI x1)] [] s Q := Wp_step k2 f2_38 (Wp_step k2 f2_39 ⟨(bd_k h0), (a0 + 6), (bd_r11 h0), Wp_step k2 f2_42 (Wp_step k2 f2_43 (Wp_step k2 f2_44 ⟨30, (bd_a11 h0), h_1, Wp_step k2 f2_45 (Wp_step k2 f2_48 (h_2))⟩))⟩)
theorem b2_51 {X : (Nat → Int) × Nat} {d : Nat} {s : mSt} {Q : mQ} {a0 : Nat} {x1 : Int} (h0 : isBd a0) (h_1 : Wp X d 2 53 [some (mR a0), some (mI 0)] [] s Q) : Wp X d 2 51 [some (mR a0), some (mI x1)] [] s Q := Wp_step k2 f2_51 (Wp_step k2 f2_52 (h_1))
theorem b2_53 {X : (Nat → Int) × Nat} {d : Nat} {s : mSt} {Q : mQ} {a0 : Nat} {x1 : Int} (h0 : isBd a0) (h_1 : 6 ≤ x1 → Wp X d 2 79 [some (mR a0), some (mI x1)] [] s Q) (h_2 : ¬ 6 ≤ x1 → Wp X d 2 59 [some (mR a0), some (mI x1)] [] s Q) : Wp X d 2 53 [some (mR a0), some (mI x1)] [] s Q := Wp_step k2 f2_53 (Wp_step k2 f2_54 (Wp_step k2 f2_56 ⟨h_1, h_2⟩))
theorem b2_59 {X : (Nat → Int) × Nat} {d : Nat} {s : mSt} {Q : mQ} {a0 : Nat} {x1 : Int} (h0 : isBd a0) (h_1 : 0 ≤ x1 ∧ x1 < 6) (h_2 : 0 ≤ x1 ∧ x1 < 6) (h_3 : Wp X d 2 53 [some (mR a0), some (mI (w32 (x1 + 1)))] [] (uS (uS s (a0 + 8) x1.toNat 0) (a0 + 9) x1.toNat 0) Q) : Wp X d 2 59 [some (mR a0), some (mI x1)] [] s Q := Wp_step k2 f2_59 (Wp_step k2 f2_60 ⟨(bd_k h0), (a0 + 8), (bd_r13 h0), Wp_step k2 f2_63 (Wp_step k2 f2_64 (Wp_step k2 f2_65 ⟨6, (bd_a13 h0), h_1, Wp_step k2 f2_66 (Wp_step k2 f2_67 ⟨(bd_k h0), (a0 + 9), (bd_r14 h0), Wp_step k2 f2_70 (Wp_step k2 f2_71 (Wp_step k2 f2_72 ⟨6, (bd_a14 h0), h_2, Wp_step k2 f2_73 (Wp_step k2 f2_76 (h_3))⟩))⟩)⟩))⟩)
theorem b2_79 {X : (Nat → Int) × Nat} {d : Nat} {s : mSt} {Q : mQ} {a0 : Nat} {x1 : Int} (h0 : isBd a0) (h_1 : Q none s) : Wp X d 2 79 [some (mR a0), some (mI x1)] [] s Q := Wp_step k2 f2_79 ⟨⟨rfl, Or.inl rfl⟩, h_1⟩
theorem e2 {X : (Nat → Int) × Nat} {d : Nat} {s : mSt} {Q : mQ} {a0 : Nat} (h : Wp X d 2 0 [some (mR a0), none] [] s Q) : Sp X d 2 [mR a0] s Q := Sp_of (show mCe 2 = 0 by decide +kernel) (by rw [show mML 2 = 2 by decide +kernel]; rfl) (Nat.le_trans (Nat.le_of_ble_eq_true (show Nat.ble (mArgs _).length 2 = true from rfl)) (show 2 ≤ mML 2 by decide +kernel)) h
-- 3 ClashDay$Board.copyFrom(LClashDay$Board;)V
theorem k3 : mRk 3 = 0 := by decide +kernel
theorem f3_0 : mFetch 3 0 = some (.aload_n 0, 1, 0, 0, 0, 0) := by decide +kernel
theorem f3_1 : mFetch 3 1 = some (.aload_n 1, 1, 0, 0, 0, 0) := by decide +kernel
theorem f3_2 : mFetch 3 2 = some (.getfield 39, 3, 0, 0, 0, 1) := by decide +kernel
theorem f3_5 : mFetch 3 5 = some (.putfield 39, 3, 0, 0, 0, 1) := by decide +kernel
theorem f3_8 : mFetch 3 8 = some (.aload_n 0, 1, 0, 0, 0, 0) := by decide +kernel
theorem f3_9 : mFetch 3 9 = some (.aload_n 1, 1, 0, 0, 0, 0) := by decide +kernel
theorem f3_10 : mFetch 3 10 = some (.getfield 43, 3, 0, 1, 0, 1) := by decide +kernel
theorem f3_13 : mFetch 3 13 = some (.putfield 43, 3, 0, 1, 0, 1) := by decide +kernel
theorem f3_16 : mFetch 3 16 = some (.aload_n 0, 1, 0, 0, 0, 0) := by decide +kernel
theorem f3_17 : mFetch 3 17 = some (.aload_n 1, 1, 0, 0, 0, 0) := by decide +kernel
theorem f3_18 : mFetch 3 18 = some (.getfield 46, 3, 0, 2, 0, 1) := by decide +kernel
theorem f3_21 : mFetch 3 21 = some (.putfield 46, 3, 0, 2, 0, 1) := by decide +kernel
theorem f3_24 : mFetch 3 24 = some (.aload_n 0, 1, 0, 0, 0, 0) := by decide +kernel
theorem f3_25 : mFetch 3 25 = some (.aload_n 1, 1, 0, 0, 0, 0) := by decide +kernel
theorem f3_26 : mFetch 3 26 = some (.getfield 49, 3, 0, 3, 0, 1) := by decide +kernel
theorem f3_29 : mFetch 3 29 = some (.putfield 49, 3, 0, 3, 0, 1) := by decide +kernel
theorem f3_32 : mFetch 3 32 = some (.aload_n 0, 1, 0, 0, 0, 0) := by decide +kernel
theorem f3_33 : mFetch 3 33 = some (.aload_n 1, 1, 0, 0, 0, 0) := by decide +kernel
theorem f3_34 : mFetch 3 34 = some (.getfield 52, 3, 0, 4, 0, 1) := by decide +kernel
theorem f3_37 : mFetch 3 37 = some (.putfield 52, 3, 0, 4, 0, 1) := by decide +kernel
theorem f3_40 : mFetch 3 40 = some (.aload_n 0, 1, 0, 0, 0, 0) := by decide +kernel
theorem f3_41 : mFetch 3 41 = some (.aload_n 1, 1, 0, 0, 0, 0) := by decide +kernel
theorem f3_42 : mFetch 3 42 = some (.getfield 55, 3, 0, 5, 0, 1) := by decide +kernel
theorem f3_45 : mFetch 3 45 = some (.putfield 55, 3, 0, 5, 0, 1) := by decide +kernel
theorem f3_48 : mFetch 3 48 = some (.aload_n 1, 1, 0, 0, 0, 0) := by decide +kernel
theorem f3_49 : mFetch 3 49 = some (.getfield 9, 3, 0, 6, 2, 1) := by decide +kernel
theorem f3_52 : mFetch 3 52 = some (.iconst 0, 1, 0, 0, 0, 0) := by decide +kernel
theorem f3_53 : mFetch 3 53 = some (.aload_n 0, 1, 0, 0, 0, 0) := by decide +kernel
theorem f3_54 : mFetch 3 54 = some (.getfield 9, 3, 0, 6, 2, 1) := by decide +kernel
theorem f3_57 : mFetch 3 57 = some (.iconst 0, 1, 0, 0, 0, 0) := by decide +kernel
theorem f3_58 : mFetch 3 58 = some (.iconst 5, 1, 0, 0, 0, 0) := by decide +kernel
theorem f3_59 : mFetch 3 59 = some (.invokestatic 58, 3, (-2), 0, 0, 0) := by decide +kernel
theorem f3_62 : mFetch 3 62 = some (.aload_n 1, 1, 0, 0, 0, 0) := by decide +kernel
theorem f3_63 : mFetch 3 63 = some (.getfield 15, 3, 0, 7, 2, 1) := by decide +kernel
theorem f3_66 : mFetch 3 66 = some (.iconst 0, 1, 0, 0, 0, 0) := by decide +kernel
theorem f3_67 : mFetch 3 67 = some (.aload_n 0, 1, 0, 0, 0, 0) := by decide +kernel
theorem f3_68 : mFetch 3 68 = some (.getfield 15, 3, 0, 7, 2, 1) := by decide +kernel
theorem f3_71 : mFetch 3 71 = some (.iconst 0, 1, 0, 0, 0, 0) := by decide +kernel
theorem f3_72 : mFetch 3 72 = some (.iconst 5, 1, 0, 0, 0, 0) := by decide +kernel
theorem f3_73 : mFetch 3 73 = some (.invokestatic 58, 3, (-2), 0, 0, 0) := by decide +kernel
theorem f3_76 : mFetch 3 76 = some (.aload_n 1, 1, 0, 0, 0, 0) := by decide +kernel
theorem f3_77 : mFetch 3 77 = some (.getfield 18, 3, 0, 8, 2, 1) := by decide +kernel
theorem f3_80 : mFetch 3 80 = some (.iconst 0, 1, 0, 0, 0, 0) := by decide +kernel
theorem f3_81 : mFetch 3 81 = some (.aload_n 0, 1, 0, 0, 0, 0) := by decide +kernel
theorem f3_82 : mFetch 3 82 = some (.getfield 18, 3, 0, 8, 2, 1) := by decide +kernel
theorem f3_85 : mFetch 3 85 = some (.iconst 0, 1, 0, 0, 0, 0) := by decide +kernel
theorem f3_86 : mFetch 3 86 = some (.bipush 6, 2, 0, 0, 0, 0) := by decide +kernel
theorem f3_88 : mFetch 3 88 = some (.invokestatic 58, 3, (-2), 0, 0, 0) := by decide +kernel
theorem f3_91 : mFetch 3 91 = some (.aload_n 1, 1, 0, 0, 0, 0) := by decide +kernel
theorem f3_92 : mFetch 3 92 = some (.getfield 21, 3, 0, 9, 2, 1) := by decide +kernel
theorem f3_95 : mFetch 3 95 = some (.iconst 0, 1, 0, 0, 0, 0) := by decide +kernel
theorem f3_96 : mFetch 3 96 = some (.aload_n 0, 1, 0, 0, 0, 0) := by decide +kernel
theorem f3_97 : mFetch 3 97 = some (.getfield 21, 3, 0, 9, 2, 1) := by decide +kernel
theorem f3_100 : mFetch 3 100 = some (.iconst 0, 1, 0, 0, 0, 0) := by decide +kernel
theorem f3_101 : mFetch 3 101 = some (.bipush 6, 2, 0, 0, 0, 0) := by decide +kernel
theorem f3_103 : mFetch 3 103 = some (.invokestatic 58, 3, (-2), 0, 0, 0) := by decide +kernel
theorem f3_106 : mFetch 3 106 = some (.aload_n 1, 1, 0, 0, 0, 0) := by decide +kernel
theorem f3_107 : mFetch 3 107 = some (.getfield 24, 3, 0, 10, 2, 1) := by decide +kernel
theorem f3_110 : mFetch 3 110 = some (.iconst 0, 1, 0, 0, 0, 0) := by decide +kernel
theorem f3_111 : mFetch 3 111 = some (.aload_n 0, 1, 0, 0, 0, 0) := by decide +kernel
theorem f3_112 : mFetch 3 112 = some (.getfield 24, 3, 0, 10, 2, 1) := by decide +kernel
theorem f3_115 : mFetch 3 115 = some (.iconst 0, 1, 0, 0, 0, 0) := by decide +kernel
theorem f3_116 : mFetch 3 116 = some (.bipush 6, 2, 0, 0, 0, 0) := by decide +kernel
theorem f3_118 : mFetch 3 118 = some (.invokestatic 58, 3, (-2), 0, 0, 0) := by decide +kernel
theorem f3_121 : mFetch 3 121 = some (.aload_n 1, 1, 0, 0, 0, 0) := by decide +kernel
theorem f3_122 : mFetch 3 122 = some (.getfield 27, 3, 0, 11, 2, 1) := by decide +kernel
theorem f3_125 : mFetch 3 125 = some (.iconst 0, 1, 0, 0, 0, 0) := by decide +kernel
theorem f3_126 : mFetch 3 126 = some (.aload_n 0, 1, 0, 0, 0, 0) := by decide +kernel
theorem f3_127 : mFetch 3 127 = some (.getfield 27, 3, 0, 11, 2, 1) := by decide +kernel
theorem f3_130 : mFetch 3 130 = some (.iconst 0, 1, 0, 0, 0, 0) := by decide +kernel
theorem f3_131 : mFetch 3 131 = some (.bipush 30, 2, 0, 0, 0, 0) := by decide +kernel
theorem f3_133 : mFetch 3 133 = some (.invokestatic 58, 3, (-2), 0, 0, 0) := by decide +kernel
theorem f3_136 : mFetch 3 136 = some (.aload_n 1, 1, 0, 0, 0, 0) := by decide +kernel
theorem f3_137 : mFetch 3 137 = some (.getfield 30, 3, 0, 12, 2, 1) := by decide +kernel
theorem f3_140 : mFetch 3 140 = some (.iconst 0, 1, 0, 0, 0, 0) := by decide +kernel
theorem f3_141 : mFetch 3 141 = some (.aload_n 0, 1, 0, 0, 0, 0) := by decide +kernel
theorem f3_142 : mFetch 3 142 = some (.getfield 30, 3, 0, 12, 2, 1) := by decide +kernel
theorem f3_145 : mFetch 3 145 = some (.iconst 0, 1, 0, 0, 0, 0) := by decide +kernel
theorem f3_146 : mFetch 3 146 = some (.bipush 30, 2, 0, 0, 0, 0) := by decide +kernel
theorem f3_148 : mFetch 3 148 = some (.invokestatic 58, 3, (-2), 0, 0, 0) := by decide +kernel
theorem f3_151 : mFetch 3 151 = some (.aload_n 1, 1, 0, 0, 0, 0) := by decide +kernel
theorem f3_152 : mFetch 3 152 = some (.getfield 33, 3, 0, 13, 2, 1) := by decide +kernel
theorem f3_155 : mFetch 3 155 = some (.iconst 0, 1, 0, 0, 0, 0) := by decide +kernel
theorem f3_156 : mFetch 3 156 = some (.aload_n 0, 1, 0, 0, 0, 0) := by decide +kernel
theorem f3_157 : mFetch 3 157 = some (.getfield 33, 3, 0, 13, 2, 1) := by decide +kernel
theorem f3_160 : mFetch 3 160 = some (.iconst 0, 1, 0, 0, 0, 0) := by decide +kernel
theorem f3_161 : mFetch 3 161 = some (.bipush 6, 2, 0, 0, 0, 0) := by decide +kernel
theorem f3_163 : mFetch 3 163 = some (.invokestatic 58, 3, (-2), 0, 0, 0) := by decide +kernel
theorem f3_166 : mFetch 3 166 = some (.aload_n 1, 1, 0, 0, 0, 0) := by decide +kernel
theorem f3_167 : mFetch 3 167 = some (.getfield 36, 3, 0, 14, 2, 1) := by decide +kernel
theorem f3_170 : mFetch 3 170 = some (.iconst 0, 1, 0, 0, 0, 0) := by decide +kernel
theorem f3_171 : mFetch 3 171 = some (.aload_n 0, 1, 0, 0, 0, 0) := by decide +kernel
theorem f3_172 : mFetch 3 172 = some (.getfield 36, 3, 0, 14, 2, 1) := by decide +kernel
theorem f3_175 : mFetch 3 175 = some (.iconst 0, 1, 0, 0, 0, 0) := by decide +kernel
theorem f3_176 : mFetch 3 176 = some (.bipush 6, 2, 0, 0, 0, 0) := by decide +kernel
theorem f3_178 : mFetch 3 178 = some (.invokestatic 58, 3, (-2), 0, 0, 0) := by decide +kernel
theorem f3_181 : mFetch 3 181 = some (.return_, 1, 0, 0, 0, 0) := by decide +kernel
theorem b3_0 {X : (Nat → Int) × Nat} {d : Nat} {s : mSt} {Q : mQ} {a0 : Nat} {a1 : Nat} (h0 : isBd a0) (h1 : isBd a1) (h_1 : Q none (cS (cS (cS (cS (cS (cS (cS (cS (cS (uS (uS (uS (uS (uS (uS s a0 0 (s a1 0)) a0 1 ((uS s a0 0 (s a1 0)) a1 1)) a0 2 ((uS (uS s a0 0 (s a1 0)) a0 1 ((uS s a0 0 (s a1 0)) a1 1)) a1 2)) a0 3 ((uS (uS (uS s a0 0 (s a1 0)) a0 1 ((uS s a0 0 (s a1 0)) a1 1)) a0 2 ((uS (uS s a0 0 (s a1 0)) a0 1 ((uS s a0 0 (s a1 0)) a1 1)) a1 2)) a1 3)) a0 4 ((uS (uS (uS (uS s a0 0 (s a1 0)) a0 1 ((uS s a0 0 (s a1 0)) a1 1)) a0 2 ((uS (uS s a0 0 (s a1 0)) a0 1 ((uS s a0 0 (s a1 0)) a1 1)) a1 2)) a0 3 ((uS (uS (uS s a0 0 (s a1 0)) a0 1 ((uS s a0 0 (s a1 0)) a1 1)) a0 2 ((uS (uS s a0 0 (s a1 0)) a0 1 ((uS s a0 0 (s a1 0)) a1 1)) a1 2)) a1 3)) a1 4)) a0 5 ((uS (uS (uS (uS (uS s a0 0 (s a1 0)) a0 1 ((uS s a0 0 (s a1 0)) a1 1)) a0 2 ((uS (uS s a0 0 (s a1 0)) a0 1 ((uS s a0 0 (s a1 0)) a1 1)) a1 2)) a0 3 ((uS (uS (uS s a0 0 (s a1 0)) a0 1 ((uS s a0 0 (s a1 0)) a1 1)) a0 2 ((uS (uS s a0 0 (s a1 0)) a0 1 ((uS s a0 0 (s a1 0)) a1 1)) a1 2)) a1 3)) a0 4 ((uS (uS (uS (uS s a0 0 (s a1 0)) a0 1 ((uS s a0 0 (s a1 0)) a1 1)) a0 2 ((uS (uS s a0 0 (s a1 0)) a0 1 ((uS s a0 0 (s a1 0)) a1 1)) a1 2)) a0 3 ((uS (uS (uS s a0 0 (s a1 0)) a0 1 ((uS s a0 0 (s a1 0)) a1 1)) a0 2 ((uS (uS s a0 0 (s a1 0)) a0 1 ((uS s a0 0 (s a1 0)) a1 1)) a1 2)) a1 3)) a1 4)) a1 5)) (a1 + 1) 0 (a0 + 1) 0 5) (a1 + 2) 0 (a0 + 2) 0 5) (a1 + 3) 0 (a0 + 3) 0 6) (a1 + 4) 0 (a0 + 4) 0 6) (a1 + 5) 0 (a0 + 5) 0 6) (a1 + 6) 0 (a0 + 6) 0 30) (a1 + 7) 0 (a0 + 7) 0 30) (a1 + 8) 0 (a0 + 8) 0 6) (a1 + 9) 0 (a0 + 9) 0 6)) : Wp X (d + 1) 3 0 [some (mR a0), some (mR a1)] [] s Q := Wp_step k3 f3_0 (Wp_step k3 f3_1 (Wp_step k3 f3_2 ⟨(bd_k h1), Wp_step k3 f3_5 ⟨(bd_k h0), Wp_step k3 f3_8 (Wp_step k3 f3_9 (Wp_step k3 f3_10 ⟨(bd_k h1), Wp_step k3 f3_13 ⟨(bd_k h0), Wp_step k3 f3_16 (Wp_step k3 f3_17 (Wp_step k3 f3_18 ⟨(bd_k h1), Wp_step k3 f3_21 ⟨(bd_k h0), Wp_step k3 f3_24 (Wp_step k3 f3_25 (Wp_step k3 f3_26 ⟨(bd_k h1), Wp_step k3 f3_29 ⟨(bd_k h0), Wp_step k3 f3_32 (Wp_step k3 f3_33 (Wp_step k3 f3_34 ⟨(bd_k h1), Wp_step k3 f3_37 ⟨(bd_k h0), Wp_step k3 f3_40 (Wp_step k3 f3_41 (Wp_step k3 f3_42 ⟨(bd_k h1), Wp_step k3 f3_45 ⟨(bd_k h0), Wp_step k3 f3_48 (Wp_step k3 f3_49 ⟨(bd_k h1), (a1 + 1), (bd_r6 h1), Wp_step k3 f3_52 (Wp_step k3 f3_53 (Wp_step k3 f3_54 ⟨(bd_k h0), (a0 + 1), (bd_r6 h0), Wp_step k3 f3_57 (Wp_step k3 f3_58 (Wp_step k3 f3_59 ⟨⟨Nat.succ_pos _, Nat.le_of_ble_eq_true rfl⟩, ⟨5, (bd_a6 h1), ⟨by decide, by decide, by decide⟩⟩, ⟨5, (bd_a6 h0), ⟨by decide, by decide⟩⟩, Wp_step k3 f3_62 (Wp_step k3 f3_63 ⟨(bd_k h1), (a1 + 2), (bd_r7 h1), Wp_step k3 f3_66 (Wp_step k3 f3_67 (Wp_step k3 f3_68 ⟨(bd_k h0), (a0 + 2), (bd_r7 h0), Wp_step k3 f3_71 (Wp_step k3 f3_72 (Wp_step k3 f3_73 ⟨⟨Nat.succ_pos _, Nat.le_of_ble_eq_true rfl⟩, ⟨5, (bd_a7 h1), ⟨by decide, by decide, by decide⟩⟩, ⟨5, (bd_a7 h0), ⟨by decide, by decide⟩⟩, Wp_step k3 f3_76 (Wp_step k3 f3_77 ⟨(bd_k h1), (a1 + 3), (bd_r8 h1), Wp_step k3 f3_80 (Wp_step k3 f3_81 (Wp_step k3 f3_82 ⟨(bd_k h0), (a0 + 3), (bd_r8 h0), Wp_step k3 f3_85 (Wp_step k3 f3_86 (Wp_step k3 f3_88 ⟨⟨Nat.succ_pos _, Nat.le_of_ble_eq_true rfl⟩, ⟨6, (bd_a8 h1), ⟨by decide, by decide, by decide⟩⟩, ⟨6, (bd_a8 h0), ⟨by decide, by decide⟩⟩, Wp_step k3 f3_91 (Wp_step k3 f3_92 ⟨(bd_k h1), (a1 + 4), (bd_r9 h1), Wp_step k3 f3_95 (Wp_step k3 f3_96 (Wp_step k3 f3_97 ⟨(bd_k h0), (a0 + 4), (bd_r9 h0), Wp_step k3 f3_100 (Wp_step k3 f3_101 (Wp_step k3 f3_103 ⟨⟨Nat.succ_pos _, Nat.le_of_ble_eq_true rfl⟩, ⟨6, (bd_a9 h1), ⟨by decide, by decide, by decide⟩⟩, ⟨6, (bd_a9 h0), ⟨by decide, by decide⟩⟩, Wp_step k3 f3_106 (Wp_step k3 f3_107 ⟨(bd_k h1), (a1 + 5), (bd_r10 h1), Wp_step k3 f3_110 (Wp_step k3 f3_111 (Wp_step k3 f3_112 ⟨(bd_k h0), (a0 + 5), (bd_r10 h0), Wp_step k3 f3_115 (Wp_step k3 f3_116 (Wp_step k3 f3_118 ⟨⟨Nat.succ_pos _, Nat.le_of_ble_eq_true rfl⟩, ⟨6, (bd_a10 h1), ⟨by decide, by decide, by decide⟩⟩, ⟨6, (bd_a10 h0), ⟨by decide, by decide⟩⟩, Wp_step k3 f3_121 (Wp_step k3 f3_122 ⟨(bd_k h1), (a1 + 6), (bd_r11 h1), Wp_step k3 f3_125 (Wp_step k3 f3_126 (Wp_step k3 f3_127 ⟨(bd_k h0), (a0 + 6), (bd_r11 h0), Wp_step k3 f3_130 (Wp_step k3 f3_131 (Wp_step k3 f3_133 ⟨⟨Nat.succ_pos _, Nat.le_of_ble_eq_true rfl⟩, ⟨30, (bd_a11 h1), ⟨by decide, by decide, by decide⟩⟩, ⟨30, (bd_a11 h0), ⟨by decide, by decide⟩⟩, Wp_step k3 f3_136 (Wp_step k3 f3_137 ⟨(bd_k h1), (a1 + 7), (bd_r12 h1), Wp_step k3 f3_140 (Wp_step k3 f3_141 (Wp_step k3 f3_142 ⟨(bd_k h0), (a0 + 7), (bd_r12 h0), Wp_step k3 f3_145 (Wp_step k3 f3_146 (Wp_step k3 f3_148 ⟨⟨Nat.succ_pos _, Nat.le_of_ble_eq_true rfl⟩, ⟨30, (bd_a12 h1), ⟨by decide, by decide, by decide⟩⟩, ⟨30, (bd_a12 h0), ⟨by decide, by decide⟩⟩, Wp_step k3 f3_151 (Wp_step k3 f3_152 ⟨(bd_k h1), (a1 + 8), (bd_r13 h1), Wp_step k3 f3_155 (Wp_step k3 f3_156 (Wp_step k3 f3_157 ⟨(bd_k h0), (a0 + 8), (bd_r13 h0), Wp_step k3 f3_160 (Wp_step k3 f3_161 (Wp_step k3 f3_163 ⟨⟨Nat.succ_pos _, Nat.le_of_ble_eq_true rfl⟩, ⟨6, (bd_a13 h1), ⟨by decide, by decide, by decide⟩⟩, ⟨6, (bd_a13 h0), ⟨by decide, by decide⟩⟩, Wp_step k3 f3_166 (Wp_step k3 f3_167 ⟨(bd_k h1), (a1 + 9), (bd_r14 h1), Wp_step k3 f3_170 (Wp_step k3 f3_171 (Wp_step k3 f3_172 ⟨(bd_k h0), (a0 + 9), (bd_r14 h0), Wp_step k3 f3_175 (Wp_step k3 f3_176 (Wp_step k3 f3_178 ⟨⟨Nat.succ_pos _, Nat.le_of_ble_eq_true rfl⟩, ⟨6, (bd_a14 h1), ⟨by decide, by decide, by decide⟩⟩, ⟨6, (bd_a14 h0), ⟨by decide, by decide⟩⟩, Wp_step k3 f3_181 ⟨⟨rfl, Or.inl rfl⟩, h_1⟩⟩))⟩))⟩)⟩))⟩))⟩)⟩))⟩))⟩)⟩))⟩))⟩)⟩))⟩))⟩)⟩))⟩))⟩)⟩))⟩))⟩)⟩))⟩))⟩)⟩))⟩))⟩)⟩⟩))⟩⟩))⟩⟩))⟩⟩))⟩⟩))⟩⟩))
theorem e3 {X : (Nat → Int) × Nat} {d : Nat} {s : mSt} {Q : mQ} {a0 : Nat} {a1 : Nat} (h : Wp X d 3 0 [some (mR a0), some (mR a1)] [] s Q) : Sp X d 3 [mR a0, mR a1] s Q := Sp_of (show mCe 3 = 0 by decide +kernel) (by rw [show mML 3 = 2 by decide +kernel]; rfl) (Nat.le_trans (Nat.le_of_ble_eq_true (show Nat.ble (mArgs _).length 2 = true from rfl)) (show 2 ≤ mML 3 by decide +kernel)) h
-- 4 ClashDay$Board.addPaper(II)V
theorem k4 : mRk 4 = 0 := by decide +kernel
theorem f4_0 : mFetch 4 0 = some (.aload_n 0, 1, 0, 0, 0, 0) := by decide +kernel
theorem f4_1 : mFetch 4 1 = some (.getfield 46, 3, 0, 2, 0, 1) := by decide +kernel
theorem f4_4 : mFetch 4 4 = some (.iconst 5, 1, 0, 0, 0, 0) := by decide +kernel
theorem f4_5 : mFetch 4 5 = some (.if_icmp .ge 33, 3, 38, 0, 0, 0) := by decide +kernel
theorem f4_8 : mFetch 4 8 = some (.aload_n 0, 1, 0, 0, 0, 0) := by decide +kernel
theorem f4_9 : mFetch 4 9 = some (.getfield 9, 3, 0, 6, 2, 1) := by decide +kernel
theorem f4_12 : mFetch 4 12 = some (.aload_n 0, 1, 0, 0, 0, 0) := by decide +kernel
theorem f4_13 : mFetch 4 13 = some (.getfield 46, 3, 0, 2, 0, 1) := by decide +kernel
theorem f4_16 : mFetch 4 16 = some (.iload_n 1, 1, 0, 0, 0, 0) := by decide +kernel
theorem f4_17 : mFetch 4 17 = some (.iastore, 1, 0, 0, 0, 0) := by decide +kernel
theorem f4_18 : mFetch 4 18 = some (.aload_n 0, 1, 0, 0, 0, 0) := by decide +kernel
theorem f4_19 : mFetch 4 19 = some (.getfield 15, 3, 0, 7, 2, 1) := by decide +kernel
theorem f4_22 : mFetch 4 22 = some (.aload_n 0, 1, 0, 0, 0, 0) := by decide +kernel
theorem f4_23 : mFetch 4 23 = some (.getfield 46, 3, 0, 2, 0, 1) := by decide +kernel
theorem f4_26 : mFetch 4 26 = some (.iload_n 2, 1, 0, 0, 0, 0) := by decide +kernel
theorem f4_27 : mFetch 4 27 = some (.iastore, 1, 0, 0, 0, 0) := by decide +kernel
theorem f4_28 : mFetch 4 28 = some (.aload_n 0, 1, 0, 0, 0, 0) := by decide +kernel
theorem f4_29 : mFetch 4 29 = some (.dup, 1, 0, 0, 0, 0) := by decide +kernel
theorem f4_30 : mFetch 4 30 = some (.getfield 46, 3, 0, 2, 0, 1) := by decide +kernel
theorem f4_33 : mFetch 4 33 = some (.iconst 1, 1, 0, 0, 0, 0) := by decide +kernel
theorem f4_34 : mFetch 4 34 = some (.iadd, 1, 0, 0, 0, 0) := by decide +kernel
theorem f4_35 : mFetch 4 35 = some (.putfield 46, 3, 0, 2, 0, 1) := by decide +kernel
theorem f4_38 : mFetch 4 38 = some (.return_, 1, 0, 0, 0, 0) := by decide +kernel
theorem b4_0 {X : (Nat → Int) × Nat} {d : Nat} {s : mSt} {Q : mQ} {a0 : Nat} {x1 : Int} {x2 : Int} (h0 : isBd a0) (h_1 : 5 ≤ (s a0 2) → Wp X d 4 38 [some (mR a0), some (mI x1), some (mI x2)] [] s Q) (h_2 : ¬ 5 ≤ (s a0 2) → Wp X d 4 8 [some (mR a0), some (mI x1), some (mI x2)] [] s Q) : Wp X d 4 0 [some (mR a0), some (mI x1), some (mI x2)] [] s Q := Wp_step k4 f4_0 (Wp_step k4 f4_1 ⟨(bd_k h0), Wp_step k4 f4_4 (Wp_step k4 f4_5 ⟨h_1, h_2⟩)⟩)
theorem b4_8 {X : (Nat → Int) × Nat} {d : Nat} {s : mSt} {Q : mQ} {a0 : Nat} {x1 : Int} {x2 : Int} (h0 : isBd a0) (h_1 : 0 ≤ (s a0 2) ∧ (s a0 2) < 5) (h_2 : 0 ≤ ((uS s (a0 + 1) ((s a0 2).toNat) x1) a0 2) ∧ ((uS s (a0 + 1) ((s a0 2).toNat) x1) a0 2) < 5) (h_3 : Wp X d 4 38 [some (mR a0), some (mI x1), some (mI x2)] [] (uS (uS (uS s (a0 + 1) ((s a0 2).toNat) x1) (a0 + 2) (((uS s (a0 + 1) ((s a0 2).toNat) x1) a0 2).toNat) x2) a0 2 (w32 (((uS (uS s (a0 + 1) ((s a0 2).toNat) x1) (a0 + 2) (((uS s (a0 + 1) ((s a0 2).toNat) x1) a0 2).toNat) x2) a0 2) + 1))) Q) : Wp X d 4 8 [some (mR a0), some (mI x1), some (mI x2)] [] s Q := Wp_step k4 f4_8 (Wp_step k4 f4_9 ⟨(bd_k h0), (a0 + 1), (bd_r6 h0), Wp_step k4 f4_12 (Wp_step k4 f4_13 ⟨(bd_k h0), Wp_step k4 f4_16 (Wp_step k4 f4_17 ⟨5, (bd_a6 h0), h_1, Wp_step k4 f4_18 (Wp_step k4 f4_19 ⟨(bd_k h0), (a0 + 2), (bd_r7 h0), Wp_step k4 f4_22 (Wp_step k4 f4_23 ⟨(bd_k h0), Wp_step k4 f4_26 (Wp_step k4 f4_27 ⟨5, (bd_a7 h0), h_2, Wp_step k4 f4_28 (Wp_step k4 f4_29 (Wp_step k4 f4_30 ⟨(bd_k h0), Wp_step k4 f4_33 (Wp_step k4 f4_34 (Wp_step k4 f4_35 ⟨(bd_k h0), h_3⟩))⟩))⟩)⟩)⟩)⟩)⟩)⟩)
theorem b4_38 {X : (Nat → Int) × Nat} {d : Nat} {s : mSt} {Q : mQ} {a0 : Nat} {x1 : Int} {x2 : Int} (h0 : isBd a0) (h_1 : Q none s) : Wp X d 4 38 [some (mR a0), some (mI x1), some (mI x2)] [] s Q := Wp_step k4 f4_38 ⟨⟨rfl, Or.inl rfl⟩, h_1⟩
theorem e4 {X : (Nat → Int) × Nat} {d : Nat} {s : mSt} {Q : mQ} {a0 : Nat} {x1 : Int} {x2 : Int} (h : Wp X d 4 0 [some (mR a0), some (mI x1), some (mI x2)] [] s Q) : Sp X d 4 [mR a0, mI x1, mI x2] s Q := Sp_of (show mCe 4 = 0 by decide +kernel) (by rw [show mML 4 = 3 by decide +kernel]; rfl) (Nat.le_trans (Nat.le_of_ble_eq_true (show Nat.ble (mArgs _).length 3 = true from rfl)) (show 3 ≤ mML 4 by decide +kernel)) h
-- 5 ClashDay$Board.addCandidate(III)V
theorem k5 : mRk 5 = 0 := by decide +kernel
theorem f5_0 : mFetch 5 0 = some (.aload_n 0, 1, 0, 0, 0, 0) := by decide +kernel
theorem f5_1 : mFetch 5 1 = some (.getfield 49, 3, 0, 3, 0, 1) := by decide +kernel
theorem f5_4 : mFetch 5 4 = some (.bipush 6, 2, 0, 0, 0, 0) := by decide +kernel
theorem f5_6 : mFetch 5 6 = some (.if_icmp .ge 43, 3, 49, 0, 0, 0) := by decide +kernel
theorem f5_9 : mFetch 5 9 = some (.aload_n 0, 1, 0, 0, 0, 0) := by decide +kernel
theorem f5_10 : mFetch 5 10 = some (.getfield 18, 3, 0, 8, 2, 1) := by decide +kernel
theorem f5_13 : mFetch 5 13 = some (.aload_n 0, 1, 0, 0, 0, 0) := by decide +kernel
theorem f5_14 : mFetch 5 14 = some (.getfield 49, 3, 0, 3, 0, 1) := by decide +kernel
theorem f5_17 : mFetch 5 17 = some (.iload_n 1, 1, 0, 0, 0, 0) := by decide +kernel
theorem f5_18 : mFetch 5 18 = some (.iastore, 1, 0, 0, 0, 0) := by decide +kernel
theorem f5_19 : mFetch 5 19 = some (.aload_n 0, 1, 0, 0, 0, 0) := by decide +kernel
theorem f5_20 : mFetch 5 20 = some (.getfield 21, 3, 0, 9, 2, 1) := by decide +kernel
theorem f5_23 : mFetch 5 23 = some (.aload_n 0, 1, 0, 0, 0, 0) := by decide +kernel
theorem f5_24 : mFetch 5 24 = some (.getfield 49, 3, 0, 3, 0, 1) := by decide +kernel
theorem f5_27 : mFetch 5 27 = some (.iload_n 2, 1, 0, 0, 0, 0) := by decide +kernel
theorem f5_28 : mFetch 5 28 = some (.iastore, 1, 0, 0, 0, 0) := by decide +kernel
theorem f5_29 : mFetch 5 29 = some (.aload_n 0, 1, 0, 0, 0, 0) := by decide +kernel
theorem f5_30 : mFetch 5 30 = some (.getfield 24, 3, 0, 10, 2, 1) := by decide +kernel
theorem f5_33 : mFetch 5 33 = some (.aload_n 0, 1, 0, 0, 0, 0) := by decide +kernel
theorem f5_34 : mFetch 5 34 = some (.getfield 49, 3, 0, 3, 0, 1) := by decide +kernel
theorem f5_37 : mFetch 5 37 = some (.iload_n 3, 1, 0, 0, 0, 0) := by decide +kernel
theorem f5_38 : mFetch 5 38 = some (.iastore, 1, 0, 0, 0, 0) := by decide +kernel
theorem f5_39 : mFetch 5 39 = some (.aload_n 0, 1, 0, 0, 0, 0) := by decide +kernel
theorem f5_40 : mFetch 5 40 = some (.dup, 1, 0, 0, 0, 0) := by decide +kernel
theorem f5_41 : mFetch 5 41 = some (.getfield 49, 3, 0, 3, 0, 1) := by decide +kernel
theorem f5_44 : mFetch 5 44 = some (.iconst 1, 1, 0, 0, 0, 0) := by decide +kernel
theorem f5_45 : mFetch 5 45 = some (.iadd, 1, 0, 0, 0, 0) := by decide +kernel
theorem f5_46 : mFetch 5 46 = some (.putfield 49, 3, 0, 3, 0, 1) := by decide +kernel
theorem f5_49 : mFetch 5 49 = some (.return_, 1, 0, 0, 0, 0) := by decide +kernel
theorem b5_0 {X : (Nat → Int) × Nat} {d : Nat} {s : mSt} {Q : mQ} {a0 : Nat} {x1 : Int} {x2 : Int} {x3 : Int} (h0 : isBd a0) (h_1 : 6 ≤ (s a0 3) → Wp X d 5 49 [some (mR a0), some (mI x1), some (mI x2), some (mI x3)] [] s Q) (h_2 : ¬ 6 ≤ (s a0 3) → Wp X d 5 9 [some (mR a0), some (mI x1), some (mI x2), some (mI x3)] [] s Q) : Wp X d 5 0 [some (mR a0), some (mI x1), some (mI x2), some (mI x3)] [] s Q := Wp_step k5 f5_0 (Wp_step k5 f5_1 ⟨(bd_k h0), Wp_step k5 f5_4 (Wp_step k5 f5_6 ⟨h_1, h_2⟩)⟩)
theorem b5_9 {X : (Nat → Int) × Nat} {d : Nat} {s : mSt} {Q : mQ} {a0 : Nat} {x1 : Int} {x2 : Int} {x3 : Int} (h0 : isBd a0) (h_1 : 0 ≤ (s a0 3) ∧ (s a0 3) < 6) (h_2 : 0 ≤ ((uS s (a0 + 3) ((s a0 3).toNat) x1) a0 3) ∧ ((uS s (a0 + 3) ((s a0 3).toNat) x1) a0 3) < 6) (h_3 : 0 ≤ ((uS (uS s (a0 + 3) ((s a0 3).toNat) x1) (a0 + 4) (((uS s (a0 + 3) ((s a0 3).toNat) x1) a0 3).toNat) x2) a0 3) ∧ ((uS (uS s (a0 + 3) ((s a0 3).toNat) x1) (a0 + 4) (((uS s (a0 + 3) ((s a0 3).toNat) x1) a0 3).toNat) x2) a0 3) < 6) (h_4 : Wp X d 5 49 [some (mR a0), some (mI x1), some (mI x2), some (mI x3)] [] (uS (uS (uS (uS s (a0 + 3) ((s a0 3).toNat) x1) (a0 + 4) (((uS s (a0 + 3) ((s a0 3).toNat) x1) a0 3).toNat) x2) (a0 + 5) (((uS (uS s (a0 + 3) ((s a0 3).toNat) x1) (a0 + 4) (((uS s (a0 + 3) ((s a0 3).toNat) x1) a0 3).toNat) x2) a0 3).toNat) x3) a0 3 (w32 (((uS (uS (uS s (a0 + 3) ((s a0 3).toNat) x1) (a0 + 4) (((uS s (a0 + 3) ((s a0 3).toNat) x1) a0 3).toNat) x2) (a0 + 5) (((uS (uS s (a0 + 3) ((s a0 3).toNat) x1) (a0 + 4) (((uS s (a0 + 3) ((s a0 3).toNat) x1) a0 3).toNat) x2) a0 3).toNat) x3) a0 3) + 1))) Q) : Wp X d 5 9 [some (mR a0), some (mI x1), some (mI x2), some (mI x3)] [] s Q := Wp_step k5 f5_9 (Wp_step k5 f5_10 ⟨(bd_k h0), (a0 + 3), (bd_r8 h0), Wp_step k5 f5_13 (Wp_step k5 f5_14 ⟨(bd_k h0), Wp_step k5 f5_17 (Wp_step k5 f5_18 ⟨6, (bd_a8 h0), h_1, Wp_step k5 f5_19 (Wp_step k5 f5_20 ⟨(bd_k h0), (a0 + 4), (bd_r9 h0), Wp_step k5 f5_23 (Wp_step k5 f5_24 ⟨(bd_k h0), Wp_step k5 f5_27 (Wp_step k5 f5_28 ⟨6, (bd_a9 h0), h_2, Wp_step k5 f5_29 (Wp_step k5 f5_30 ⟨(bd_k h0), (a0 + 5), (bd_r10 h0), Wp_step k5 f5_33 (Wp_step k5 f5_34 ⟨(bd_k h0), Wp_step k5 f5_37 (Wp_step k5 f5_38 ⟨6, (bd_a10 h0), h_3, Wp_step k5 f5_39 (Wp_step k5 f5_40 (Wp_step k5 f5_41 ⟨(bd_k h0), Wp_step k5 f5_44 (Wp_step k5 f5_45 (Wp_step k5 f5_46 ⟨(bd_k h0), h_4⟩))⟩))⟩)⟩)⟩)⟩)⟩)⟩)⟩)⟩)⟩)
theorem b5_49 {X : (Nat → Int) × Nat} {d : Nat} {s : mSt} {Q : mQ} {a0 : Nat} {x1 : Int} {x2 : Int} {x3 : Int} (h0 : isBd a0) (h_1 : Q none s) : Wp X d 5 49 [some (mR a0), some (mI x1), some (mI x2), some (mI x3)] [] s Q := Wp_step k5 f5_49 ⟨⟨rfl, Or.inl rfl⟩, h_1⟩
theorem e5 {X : (Nat → Int) × Nat} {d : Nat} {s : mSt} {Q : mQ} {a0 : Nat} {x1 : Int} {x2 : Int} {x3 : Int} (h : Wp X d 5 0 [some (mR a0), some (mI x1), some (mI x2), some (mI x3)] [] s Q) : Sp X d 5 [mR a0, mI x1, mI x2, mI x3] s Q := Sp_of (show mCe 5 = 0 by decide +kernel) (by rw [show mML 5 = 4 by decide +kernel]; rfl) (Nat.le_trans (Nat.le_of_ble_eq_true (show Nat.ble (mArgs _).length 4 = true from rfl)) (show 4 ≤ mML 5 by decide +kernel)) h
-- 6 ClashDay$Board.isDay()Z
theorem k6 : mRk 6 = 2 := by decide +kernel
theorem f6_0 : mFetch 6 0 = some (.aload_n 0, 1, 0, 0, 0, 0) := by decide +kernel
theorem f6_1 : mFetch 6 1 = some (.getfield 39, 3, 0, 0, 0, 1) := by decide +kernel
theorem f6_4 : mFetch 6 4 = some (.ifCond .le 7, 3, 11, 0, 0, 0) := by decide +kernel
theorem f6_7 : mFetch 6 7 = some (.iconst 1, 1, 0, 0, 0, 0) := by decide +kernel
theorem f6_8 : mFetch 6 8 = some (.goto 4, 3, 12, 0, 0, 0) := by decide +kernel
theorem f6_11 : mFetch 6 11 = some (.iconst 0, 1, 0, 0, 0, 0) := by decide +kernel
theorem f6_12 : mFetch 6 12 = some (.ireturn, 1, 0, 0, 0, 0) := by decide +kernel
theorem b6_0 {X : (Nat → Int) × Nat} {d : Nat} {s : mSt} {Q : mQ} {a0 : Nat} (h0 : isBd a0) (h_1 : (s a0 0) ≤ 0 → Wp X d 6 11 [some (mR a0)] [] s Q) (h_2 : ¬ (s a0 0) ≤ 0 → Wp X d 6 7 [some (mR a0)] [] s Q) : Wp X d 6 0 [some (mR a0)] [] s Q := Wp_step k6 f6_0 (Wp_step k6 f6_1 ⟨(bd_k h0), Wp_step k6 f6_4 ⟨h_1, h_2⟩⟩)
theorem b6_7 {X : (Nat → Int) × Nat} {d : Nat} {s : mSt} {Q : mQ} {a0 : Nat} (h0 : isBd a0) (h_1 : Wp X d 6 12 [some (mR a0)] [mI 1] s Q) : Wp X d 6 7 [some (mR a0)] [] s Q := Wp_step k6 f6_7 (Wp_step k6 f6_8 (h_1))
theorem b6_11 {X : (Nat → Int) × Nat} {d : Nat} {s : mSt} {Q : mQ} {a0 : Nat} (h0 : isBd a0) (h_1 : Wp X d 6 12 [some (mR a0)] [mI 0] s Q) : Wp X d 6 11 [some (mR a0)] [] s Q := Wp_step k6 f6_11 (h_1)
theorem b6_12 {X : (Nat → Int) × Nat} {d : Nat} {s : mSt} {Q : mQ} {a0 : Nat} {xt0 : Int} (h0 : isBd a0) (h_1 : Q (some (mI xt0)) s) (h_2 : xt0 = 0 ∨ xt0 = 1) : Wp X d 6 12 [some (mR a0)] [mI xt0] s Q := Wp_step k6 f6_12 ⟨⟨rfl, h_2⟩, h_1⟩
theorem e6 {X : (Nat → Int) × Nat} {d : Nat} {s : mSt} {Q : mQ} {a0 : Nat} (h : Wp X d 6 0 [some (mR a0)] [] s Q) : Sp X d 6 [mR a0] s Q := Sp_of (show mCe 6 = 0 by decide +kernel) (by rw [show mML 6 = 1 by decide +kernel]; rfl) (Nat.le_trans (Nat.le_of_ble_eq_true (show Nat.ble (mArgs _).length 1 = true from rfl)) (show 1 ≤ mML 6 by decide +kernel)) h
-- 7 ClashDay$Board.hasPaper(I)Z
theorem k7 : mRk 7 = 2 := by decide +kernel
theorem f7_0 : mFetch 7 0 = some (.iload_n 1, 1, 0, 0, 0, 0) := by decide +kernel
theorem f7_1 : mFetch 7 1 = some (.ifCond .lt 15, 3, 16, 0, 0, 0) := by decide +kernel
theorem f7_4 : mFetch 7 4 = some (.iload_n 1, 1, 0, 0, 0, 0) := by decide +kernel
theorem f7_5 : mFetch 7 5 = some (.aload_n 0, 1, 0, 0, 0, 0) := by decide +kernel
theorem f7_6 : mFetch 7 6 = some (.getfield 46, 3, 0, 2, 0, 1) := by decide +kernel
theorem f7_9 : mFetch 7 9 = some (.if_icmp .ge 7, 3, 16, 0, 0, 0) := by decide +kernel
theorem f7_12 : mFetch 7 12 = some (.iconst 1, 1, 0, 0, 0, 0) := by decide +kernel
theorem f7_13 : mFetch 7 13 = some (.goto 4, 3, 17, 0, 0, 0) := by decide +kernel
theorem f7_16 : mFetch 7 16 = some (.iconst 0, 1, 0, 0, 0, 0) := by decide +kernel
theorem f7_17 : mFetch 7 17 = some (.ireturn, 1, 0, 0, 0, 0) := by decide +kernel
theorem b7_0 {X : (Nat → Int) × Nat} {d : Nat} {s : mSt} {Q : mQ} {a0 : Nat} {x1 : Int} (h0 : isBd a0) (h_1 : x1 < 0 → Wp X d 7 16 [some (mR a0), some (mI x1)] [] s Q) (h_2 : ¬ x1 < 0 → Wp X d 7 4 [some (mR a0), some (mI x1)] [] s Q) : Wp X d 7 0 [some (mR a0), some (mI x1)] [] s Q := Wp_step k7 f7_0 (Wp_step k7 f7_1 ⟨h_1, h_2⟩)
theorem b7_4 {X : (Nat → Int) × Nat} {d : Nat} {s : mSt} {Q : mQ} {a0 : Nat} {x1 : Int} (h0 : isBd a0) (h_1 : (s a0 2) ≤ x1 → Wp X d 7 16 [some (mR a0), some (mI x1)] [] s Q) (h_2 : ¬ (s a0 2) ≤ x1 → Wp X d 7 12 [some (mR a0), some (mI x1)] [] s Q) : Wp X d 7 4 [some (mR a0), some (mI x1)] [] s Q := Wp_step k7 f7_4 (Wp_step k7 f7_5 (Wp_step k7 f7_6 ⟨(bd_k h0), Wp_step k7 f7_9 ⟨h_1, h_2⟩⟩))
theorem b7_12 {X : (Nat → Int) × Nat} {d : Nat} {s : mSt} {Q : mQ} {a0 : Nat} {x1 : Int} (h0 : isBd a0) (h_1 : Wp X d 7 17 [some (mR a0), some (mI x1)] [mI 1] s Q) : Wp X d 7 12 [some (mR a0), some (mI x1)] [] s Q := Wp_step k7 f7_12 (Wp_step k7 f7_13 (h_1))
theorem b7_16 {X : (Nat → Int) × Nat} {d : Nat} {s : mSt} {Q : mQ} {a0 : Nat} {x1 : Int} (h0 : isBd a0) (h_1 : Wp X d 7 17 [some (mR a0), some (mI x1)] [mI 0] s Q) : Wp X d 7 16 [some (mR a0), some (mI x1)] [] s Q := Wp_step k7 f7_16 (h_1)
theorem b7_17 {X : (Nat → Int) × Nat} {d : Nat} {s : mSt} {Q : mQ} {a0 : Nat} {x1 : Int} {xt0 : Int} (h0 : isBd a0) (h_1 : Q (some (mI xt0)) s) (h_2 : xt0 = 0 ∨ xt0 = 1) : Wp X d 7 17 [some (mR a0), some (mI x1)] [mI xt0] s Q := Wp_step k7 f7_17 ⟨⟨rfl, h_2⟩, h_1⟩
theorem e7 {X : (Nat → Int) × Nat} {d : Nat} {s : mSt} {Q : mQ} {a0 : Nat} {x1 : Int} (h : Wp X d 7 0 [some (mR a0), some (mI x1)] [] s Q) : Sp X d 7 [mR a0, mI x1] s Q := Sp_of (show mCe 7 = 0 by decide +kernel) (by rw [show mML 7 = 2 by decide +kernel]; rfl) (Nat.le_trans (Nat.le_of_ble_eq_true (show Nat.ble (mArgs _).length 2 = true from rfl)) (show 2 ≤ mML 7 by decide +kernel)) h
-- 8 ClashDay$Board.hasCandidate(I)Z
theorem k8 : mRk 8 = 2 := by decide +kernel
theorem f8_0 : mFetch 8 0 = some (.iload_n 1, 1, 0, 0, 0, 0) := by decide +kernel
theorem f8_1 : mFetch 8 1 = some (.ifCond .lt 15, 3, 16, 0, 0, 0) := by decide +kernel
theorem f8_4 : mFetch 8 4 = some (.iload_n 1, 1, 0, 0, 0, 0) := by decide +kernel
theorem f8_5 : mFetch 8 5 = some (.aload_n 0, 1, 0, 0, 0, 0) := by decide +kernel
theorem f8_6 : mFetch 8 6 = some (.getfield 49, 3, 0, 3, 0, 1) := by decide +kernel
theorem f8_9 : mFetch 8 9 = some (.if_icmp .ge 7, 3, 16, 0, 0, 0) := by decide +kernel
theorem f8_12 : mFetch 8 12 = some (.iconst 1, 1, 0, 0, 0, 0) := by decide +kernel
theorem f8_13 : mFetch 8 13 = some (.goto 4, 3, 17, 0, 0, 0) := by decide +kernel
theorem f8_16 : mFetch 8 16 = some (.iconst 0, 1, 0, 0, 0, 0) := by decide +kernel
theorem f8_17 : mFetch 8 17 = some (.ireturn, 1, 0, 0, 0, 0) := by decide +kernel
theorem b8_0 {X : (Nat → Int) × Nat} {d : Nat} {s : mSt} {Q : mQ} {a0 : Nat} {x1 : Int} (h0 : isBd a0) (h_1 : x1 < 0 → Wp X d 8 16 [some (mR a0), some (mI x1)] [] s Q) (h_2 : ¬ x1 < 0 → Wp X d 8 4 [some (mR a0), some (mI x1)] [] s Q) : Wp X d 8 0 [some (mR a0), some (mI x1)] [] s Q := Wp_step k8 f8_0 (Wp_step k8 f8_1 ⟨h_1, h_2⟩)
theorem b8_4 {X : (Nat → Int) × Nat} {d : Nat} {s : mSt} {Q : mQ} {a0 : Nat} {x1 : Int} (h0 : isBd a0) (h_1 : (s a0 3) ≤ x1 → Wp X d 8 16 [some (mR a0), some (mI x1)] [] s Q) (h_2 : ¬ (s a0 3) ≤ x1 → Wp X d 8 12 [some (mR a0), some (mI x1)] [] s Q) : Wp X d 8 4 [some (mR a0), some (mI x1)] [] s Q := Wp_step k8 f8_4 (Wp_step k8 f8_5 (Wp_step k8 f8_6 ⟨(bd_k h0), Wp_step k8 f8_9 ⟨h_1, h_2⟩⟩))
theorem b8_12 {X : (Nat → Int) × Nat} {d : Nat} {s : mSt} {Q : mQ} {a0 : Nat} {x1 : Int} (h0 : isBd a0) (h_1 : Wp X d 8 17 [some (mR a0), some (mI x1)] [mI 1] s Q) : Wp X d 8 12 [some (mR a0), some (mI x1)] [] s Q := Wp_step k8 f8_12 (Wp_step k8 f8_13 (h_1))
theorem b8_16 {X : (Nat → Int) × Nat} {d : Nat} {s : mSt} {Q : mQ} {a0 : Nat} {x1 : Int} (h0 : isBd a0) (h_1 : Wp X d 8 17 [some (mR a0), some (mI x1)] [mI 0] s Q) : Wp X d 8 16 [some (mR a0), some (mI x1)] [] s Q := Wp_step k8 f8_16 (h_1)
theorem b8_17 {X : (Nat → Int) × Nat} {d : Nat} {s : mSt} {Q : mQ} {a0 : Nat} {x1 : Int} {xt0 : Int} (h0 : isBd a0) (h_1 : Q (some (mI xt0)) s) (h_2 : xt0 = 0 ∨ xt0 = 1) : Wp X d 8 17 [some (mR a0), some (mI x1)] [mI xt0] s Q := Wp_step k8 f8_17 ⟨⟨rfl, h_2⟩, h_1⟩
theorem e8 {X : (Nat → Int) × Nat} {d : Nat} {s : mSt} {Q : mQ} {a0 : Nat} {x1 : Int} (h : Wp X d 8 0 [some (mR a0), some (mI x1)] [] s Q) : Sp X d 8 [mR a0, mI x1] s Q := Sp_of (show mCe 8 = 0 by decide +kernel) (by rw [show mML 8 = 2 by decide +kernel]; rfl) (Nat.le_trans (Nat.le_of_ble_eq_true (show Nat.ble (mArgs _).length 2 = true from rfl)) (show 2 ≤ mML 8 by decide +kernel)) h
-- 9 ClashDay$Board.isPlanned(I)Z
theorem k9 : mRk 9 = 2 := by decide +kernel
theorem f9_0 : mFetch 9 0 = some (.aload_n 0, 1, 0, 0, 0, 0) := by decide +kernel
theorem f9_1 : mFetch 9 1 = some (.iload_n 1, 1, 0, 0, 0, 0) := by decide +kernel
theorem f9_2 : mFetch 9 2 = some (.invokevirtual 64, 3, 8, 0, 2, 0) := by decide +kernel
theorem f9_5 : mFetch 9 5 = some (.ifCond .eq 19, 3, 24, 0, 0, 0) := by decide +kernel
theorem f9_8 : mFetch 9 8 = some (.aload_n 0, 1, 0, 0, 0, 0) := by decide +kernel
theorem f9_9 : mFetch 9 9 = some (.getfield 55, 3, 0, 5, 0, 1) := by decide +kernel
theorem f9_12 : mFetch 9 12 = some (.iload_n 1, 1, 0, 0, 0, 0) := by decide +kernel
theorem f9_13 : mFetch 9 13 = some (.ishr, 1, 0, 0, 0, 0) := by decide +kernel
theorem f9_14 : mFetch 9 14 = some (.iconst 1, 1, 0, 0, 0, 0) := by decide +kernel
theorem f9_15 : mFetch 9 15 = some (.iand, 1, 0, 0, 0, 0) := by decide +kernel
theorem f9_16 : mFetch 9 16 = some (.iconst 1, 1, 0, 0, 0, 0) := by decide +kernel
theorem f9_17 : mFetch 9 17 = some (.if_icmp .ne 7, 3, 24, 0, 0, 0) := by decide +kernel
theorem f9_20 : mFetch 9 20 = some (.iconst 1, 1, 0, 0, 0, 0) := by decide +kernel
theorem f9_21 : mFetch 9 21 = some (.goto 4, 3, 25, 0, 0, 0) := by decide +kernel
theorem f9_24 : mFetch 9 24 = some (.iconst 0, 1, 0, 0, 0, 0) := by decide +kernel
theorem f9_25 : mFetch 9 25 = some (.ireturn, 1, 0, 0, 0, 0) := by decide +kernel
theorem b9_0 {X : (Nat → Int) × Nat} {d : Nat} {s : mSt} {Q : mQ} {a0 : Nat} {x1 : Int} (h0 : isBd a0) (h_1 : Sp X d 8 [mR a0, mI x1] s (fun r s' => ∃ v : Int, r = some (mI v) ∧ Wp X (d + 1) 9 5 [some (mR a0), some (mI x1)] [mI v] s' Q)) : Wp X (d + 1) 9 0 [some (mR a0), some (mI x1)] [] s Q := Wp_step k9 f9_0 (Wp_step k9 f9_1 (Wp_step k9 f9_2 ⟨⟨(bd_k h0), Nat.le_of_ble_eq_true rfl⟩, Nat.le_refl _, _, rfl, Sp_E h_1⟩))
theorem b9_5 {X : (Nat → Int) × Nat} {d : Nat} {s : mSt} {Q : mQ} {a0 : Nat} {x1 : Int} {xt0 : Int} (h0 : isBd a0) (h_1 : xt0 = 0 → Wp X d 9 24 [some (mR a0), some (mI x1)] [] s Q) (h_2 : ¬ xt0 = 0 → Wp X d 9 8 [some (mR a0), some (mI x1)] [] s Q) : Wp X d 9 5 [some (mR a0), some (mI x1)] [mI xt0] s Q := Wp_step k9 f9_5 ⟨h_1, h_2⟩
theorem b9_8 {X : (Nat → Int) × Nat} {d : Nat} {s : mSt} {Q : mQ} {a0 : Nat} {x1 : Int} (h0 : isBd a0) (h_1 : ¬ (iAnd (iShr (s a0 5) x1) 1) = 1 → Wp X d 9 24 [some (mR a0), some (mI x1)] [] s Q) (h_2 : (iAnd (iShr (s a0 5) x1) 1) = 1 → Wp X d 9 20 [some (mR a0), some (mI x1)] [] s Q) : Wp X d 9 8 [some (mR a0), some (mI x1)] [] s Q := Wp_step k9 f9_8 (Wp_step k9 f9_9 ⟨(bd_k h0), Wp_step k9 f9_12 (Wp_step k9 f9_13 (Wp_step k9 f9_14 (Wp_step k9 f9_15 (Wp_step k9 f9_16 (Wp_step k9 f9_17 ⟨h_1, h_2⟩)))))⟩)
theorem b9_20 {X : (Nat → Int) × Nat} {d : Nat} {s : mSt} {Q : mQ} {a0 : Nat} {x1 : Int} (h0 : isBd a0) (h_1 : Wp X d 9 25 [some (mR a0), some (mI x1)] [mI 1] s Q) : Wp X d 9 20 [some (mR a0), some (mI x1)] [] s Q := Wp_step k9 f9_20 (Wp_step k9 f9_21 (h_1))
theorem b9_24 {X : (Nat → Int) × Nat} {d : Nat} {s : mSt} {Q : mQ} {a0 : Nat} {x1 : Int} (h0 : isBd a0) (h_1 : Wp X d 9 25 [some (mR a0), some (mI x1)] [mI 0] s Q) : Wp X d 9 24 [some (mR a0), some (mI x1)] [] s Q := Wp_step k9 f9_24 (h_1)
theorem b9_25 {X : (Nat → Int) × Nat} {d : Nat} {s : mSt} {Q : mQ} {a0 : Nat} {x1 : Int} {xt0 : Int} (h0 : isBd a0) (h_1 : Q (some (mI xt0)) s) (h_2 : xt0 = 0 ∨ xt0 = 1) : Wp X d 9 25 [some (mR a0), some (mI x1)] [mI xt0] s Q := Wp_step k9 f9_25 ⟨⟨rfl, h_2⟩, h_1⟩
theorem e9 {X : (Nat → Int) × Nat} {d : Nat} {s : mSt} {Q : mQ} {a0 : Nat} {x1 : Int} (h : Wp X d 9 0 [some (mR a0), some (mI x1)] [] s Q) : Sp X d 9 [mR a0, mI x1] s Q := Sp_of (show mCe 9 = 0 by decide +kernel) (by rw [show mML 9 = 2 by decide +kernel]; rfl) (Nat.le_trans (Nat.le_of_ble_eq_true (show Nat.ble (mArgs _).length 2 = true from rfl)) (show 2 ≤ mML 9 by decide +kernel)) h
-- 10 ClashDay$Board.waits(I)Z
theorem k10 : mRk 10 = 2 := by decide +kernel
theorem f10_0 : mFetch 10 0 = some (.aload_n 0, 1, 0, 0, 0, 0) := by decide +kernel
theorem f10_1 : mFetch 10 1 = some (.iload_n 1, 1, 0, 0, 0, 0) := by decide +kernel
theorem f10_2 : mFetch 10 2 = some (.invokevirtual 64, 3, 8, 0, 2, 0) := by decide +kernel
theorem f10_5 : mFetch 10 5 = some (.ifCond .eq 18, 3, 23, 0, 0, 0) := by decide +kernel
theorem f10_8 : mFetch 10 8 = some (.aload_n 0, 1, 0, 0, 0, 0) := by decide +kernel
theorem f10_9 : mFetch 10 9 = some (.getfield 55, 3, 0, 5, 0, 1) := by decide +kernel
theorem f10_12 : mFetch 10 12 = some (.iload_n 1, 1, 0, 0, 0, 0) := by decide +kernel
theorem f10_13 : mFetch 10 13 = some (.ishr, 1, 0, 0, 0, 0) := by decide +kernel
theorem f10_14 : mFetch 10 14 = some (.iconst 1, 1, 0, 0, 0, 0) := by decide +kernel
theorem f10_15 : mFetch 10 15 = some (.iand, 1, 0, 0, 0, 0) := by decide +kernel
theorem f10_16 : mFetch 10 16 = some (.ifCond .ne 7, 3, 23, 0, 0, 0) := by decide +kernel
theorem f10_19 : mFetch 10 19 = some (.iconst 1, 1, 0, 0, 0, 0) := by decide +kernel
theorem f10_20 : mFetch 10 20 = some (.goto 4, 3, 24, 0, 0, 0) := by decide +kernel
theorem f10_23 : mFetch 10 23 = some (.iconst 0, 1, 0, 0, 0, 0) := by decide +kernel
theorem f10_24 : mFetch 10 24 = some (.ireturn, 1, 0, 0, 0, 0) := by decide +kernel
theorem b10_0 {X : (Nat → Int) × Nat} {d : Nat} {s : mSt} {Q : mQ} {a0 : Nat} {x1 : Int} (h0 : isBd a0) (h_1 : Sp X d 8 [mR a0, mI x1] s (fun r s' => ∃ v : Int, r = some (mI v) ∧ Wp X (d + 1) 10 5 [some (mR a0), some (mI x1)] [mI v] s' Q)) : Wp X (d + 1) 10 0 [some (mR a0), some (mI x1)] [] s Q := Wp_step k10 f10_0 (Wp_step k10 f10_1 (Wp_step k10 f10_2 ⟨⟨(bd_k h0), Nat.le_of_ble_eq_true rfl⟩, Nat.le_refl _, _, rfl, Sp_E h_1⟩))
theorem b10_5 {X : (Nat → Int) × Nat} {d : Nat} {s : mSt} {Q : mQ} {a0 : Nat} {x1 : Int} {xt0 : Int} (h0 : isBd a0) (h_1 : xt0 = 0 → Wp X d 10 23 [some (mR a0), some (mI x1)] [] s Q) (h_2 : ¬ xt0 = 0 → Wp X d 10 8 [some (mR a0), some (mI x1)] [] s Q) : Wp X d 10 5 [some (mR a0), some (mI x1)] [mI xt0] s Q := Wp_step k10 f10_5 ⟨h_1, h_2⟩
theorem b10_8 {X : (Nat → Int) × Nat} {d : Nat} {s : mSt} {Q : mQ} {a0 : Nat} {x1 : Int} (h0 : isBd a0) (h_1 : ¬ (iAnd (iShr (s a0 5) x1) 1) = 0 → Wp X d 10 23 [some (mR a0), some (mI x1)] [] s Q) (h_2 : (iAnd (iShr (s a0 5) x1) 1) = 0 → Wp X d 10 19 [some (mR a0), some (mI x1)] [] s Q) : Wp X d 10 8 [some (mR a0), some (mI x1)] [] s Q := Wp_step k10 f10_8 (Wp_step k10 f10_9 ⟨(bd_k h0), Wp_step k10 f10_12 (Wp_step k10 f10_13 (Wp_step k10 f10_14 (Wp_step k10 f10_15 (Wp_step k10 f10_16 ⟨h_1, h_2⟩))))⟩)
theorem b10_19 {X : (Nat → Int) × Nat} {d : Nat} {s : mSt} {Q : mQ} {a0 : Nat} {x1 : Int} (h0 : isBd a0) (h_1 : Wp X d 10 24 [some (mR a0), some (mI x1)] [mI 1] s Q) : Wp X d 10 19 [some (mR a0), some (mI x1)] [] s Q := Wp_step k10 f10_19 (Wp_step k10 f10_20 (h_1))
theorem b10_23 {X : (Nat → Int) × Nat} {d : Nat} {s : mSt} {Q : mQ} {a0 : Nat} {x1 : Int} (h0 : isBd a0) (h_1 : Wp X d 10 24 [some (mR a0), some (mI x1)] [mI 0] s Q) : Wp X d 10 23 [some (mR a0), some (mI x1)] [] s Q := Wp_step k10 f10_23 (h_1)
theorem b10_24 {X : (Nat → Int) × Nat} {d : Nat} {s : mSt} {Q : mQ} {a0 : Nat} {x1 : Int} {xt0 : Int} (h0 : isBd a0) (h_1 : Q (some (mI xt0)) s) (h_2 : xt0 = 0 ∨ xt0 = 1) : Wp X d 10 24 [some (mR a0), some (mI x1)] [mI xt0] s Q := Wp_step k10 f10_24 ⟨⟨rfl, h_2⟩, h_1⟩
theorem e10 {X : (Nat → Int) × Nat} {d : Nat} {s : mSt} {Q : mQ} {a0 : Nat} {x1 : Int} (h : Wp X d 10 0 [some (mR a0), some (mI x1)] [] s Q) : Sp X d 10 [mR a0, mI x1] s Q := Sp_of (show mCe 10 = 0 by decide +kernel) (by rw [show mML 10 = 2 by decide +kernel]; rfl) (Nat.le_trans (Nat.le_of_ble_eq_true (show Nat.ble (mArgs _).length 2 = true from rfl)) (show 2 ≤ mML 10 by decide +kernel)) h
-- 11 ClashDay$Board.waiting()I
theorem k11 : mRk 11 = 1 := by decide +kernel
theorem f11_0 : mFetch 11 0 = some (.iconst 1, 1, 0, 0, 0, 0) := by decide +kernel
theorem f11_1 : mFetch 11 1 = some (.aload_n 0, 1, 0, 0, 0, 0) := by decide +kernel
theorem f11_2 : mFetch 11 2 = some (.getfield 49, 3, 0, 3, 0, 1) := by decide +kernel
theorem f11_5 : mFetch 11 5 = some (.ishl, 1, 0, 0, 0, 0) := by decide +kernel
theorem f11_6 : mFetch 11 6 = some (.iconst 1, 1, 0, 0, 0, 0) := by decide +kernel
theorem f11_7 : mFetch 11 7 = some (.isub, 1, 0, 0, 0, 0) := by decide +kernel
theorem f11_8 : mFetch 11 8 = some (.aload_n 0, 1, 0, 0, 0, 0) := by decide +kernel
theorem f11_9 : mFetch 11 9 = some (.getfield 55, 3, 0, 5, 0, 1) := by decide +kernel
theorem f11_12 : mFetch 11 12 = some (.iconst (-1), 1, 0, 0, 0, 0) := by decide +kernel
theorem f11_13 : mFetch 11 13 = some (.ixor, 1, 0, 0, 0, 0) := by decide +kernel
theorem f11_14 : mFetch 11 14 = some (.iand, 1, 0, 0, 0, 0) := by decide +kernel
theorem f11_15 : mFetch 11 15 = some (.ireturn, 1, 0, 0, 0, 0) := by decide +kernel
theorem b11_0 {X : (Nat → Int) × Nat} {d : Nat} {s : mSt} {Q : mQ} {a0 : Nat} (h0 : isBd a0) (h_1 : Q (some (mI (iAnd (w32 ((iShl 1 (s a0 3)) - 1)) (iXor (s a0 5) (-1))))) s) : Wp X d 11 0 [some (mR a0)] [] s Q := Wp_step k11 f11_0 (Wp_step k11 f11_1 (Wp_step k11 f11_2 ⟨(bd_k h0), Wp_step k11 f11_5 (Wp_step k11 f11_6 (Wp_step k11 f11_7 (Wp_step k11 f11_8 (Wp_step k11 f11_9 ⟨(bd_k h0), Wp_step k11 f11_12 (Wp_step k11 f11_13 (Wp_step k11 f11_14 (Wp_step k11 f11_15 ⟨⟨rfl, trivial⟩, h_1⟩)))⟩))))⟩))
theorem e11 {X : (Nat → Int) × Nat} {d : Nat} {s : mSt} {Q : mQ} {a0 : Nat} (h : Wp X d 11 0 [some (mR a0)] [] s Q) : Sp X d 11 [mR a0] s Q := Sp_of (show mCe 11 = 0 by decide +kernel) (by rw [show mML 11 = 1 by decide +kernel]; rfl) (Nat.le_trans (Nat.le_of_ble_eq_true (show Nat.ble (mArgs _).length 1 = true from rfl)) (show 1 ≤ mML 11 by decide +kernel)) h
-- 12 ClashDay$Board.sitsIn(II)Z
theorem k12 : mRk 12 = 2 := by decide +kernel
theorem f12_0 : mFetch 12 0 = some (.aload_n 0, 1, 0, 0, 0, 0) := by decide +kernel
theorem f12_1 : mFetch 12 1 = some (.getfield 18, 3, 0, 8, 2, 1) := by decide +kernel
theorem f12_4 : mFetch 12 4 = some (.iload_n 1, 1, 0, 0, 0, 0) := by decide +kernel
theorem f12_5 : mFetch 12 5 = some (.iaload, 1, 0, 0, 0, 0) := by decide +kernel
theorem f12_6 : mFetch 12 6 = some (.iload_n 2, 1, 0, 0, 0, 0) := by decide +kernel
theorem f12_7 : mFetch 12 7 = some (.ishr, 1, 0, 0, 0, 0) := by decide +kernel
theorem f12_8 : mFetch 12 8 = some (.iconst 1, 1, 0, 0, 0, 0) := by decide +kernel
theorem f12_9 : mFetch 12 9 = some (.iand, 1, 0, 0, 0, 0) := by decide +kernel
theorem f12_10 : mFetch 12 10 = some (.iconst 1, 1, 0, 0, 0, 0) := by decide +kernel
theorem f12_11 : mFetch 12 11 = some (.if_icmp .ne 7, 3, 18, 0, 0, 0) := by decide +kernel
theorem f12_14 : mFetch 12 14 = some (.iconst 1, 1, 0, 0, 0, 0) := by decide +kernel
theorem f12_15 : mFetch 12 15 = some (.goto 4, 3, 19, 0, 0, 0) := by decide +kernel
theorem f12_18 : mFetch 12 18 = some (.iconst 0, 1, 0, 0, 0, 0) := by decide +kernel
theorem f12_19 : mFetch 12 19 = some (.ireturn, 1, 0, 0, 0, 0) := by decide +kernel
theorem b12_0 {X : (Nat → Int) × Nat} {d : Nat} {s : mSt} {Q : mQ} {a0 : Nat} {x1 : Int} {x2 : Int} (h0 : isBd a0) (h_1 : 0 ≤ x1 ∧ x1 < 6) (h_2 : ¬ (iAnd (iShr (s (a0 + 3) x1.toNat) x2) 1) = 1 → Wp X d 12 18 [some (mR a0), some (mI x1), some (mI x2)] [] s Q) (h_3 : (iAnd (iShr (s (a0 + 3) x1.toNat) x2) 1) = 1 → Wp X d 12 14 [some (mR a0), some (mI x1), some (mI x2)] [] s Q) : Wp X d 12 0 [some (mR a0), some (mI x1), some (mI x2)] [] s Q := Wp_step k12 f12_0 (Wp_step k12 f12_1 ⟨(bd_k h0), (a0 + 3), (bd_r8 h0), Wp_step k12 f12_4 (Wp_step k12 f12_5 ⟨6, (bd_a8 h0), h_1, Wp_step k12 f12_6 (Wp_step k12 f12_7 (Wp_step k12 f12_8 (Wp_step k12 f12_9 (Wp_step k12 f12_10 (Wp_step k12 f12_11 ⟨h_2, h_3⟩)))))⟩)⟩)
theorem b12_14 {X : (Nat → Int) × Nat} {d : Nat} {s : mSt} {Q : mQ} {a0 : Nat} {x1 : Int} {x2 : Int} (h0 : isBd a0) (h_1 : Wp X d 12 19 [some (mR a0), some (mI x1), some (mI x2)] [mI 1] s Q) : Wp X d 12 14 [some (mR a0), some (mI x1), some (mI x2)] [] s Q := Wp_step k12 f12_14 (Wp_step k12 f12_15 (h_1))
theorem b12_18 {X : (Nat → Int) × Nat} {d : Nat} {s : mSt} {Q : mQ} {a0 : Nat} {x1 : Int} {x2 : Int} (h0 : isBd a0) (h_1 : Wp X d 12 19 [some (mR a0), some (mI x1), some (mI x2)] [mI 0] s Q) : Wp X d 12 18 [some (mR a0), some (mI x1), some (mI x2)] [] s Q := Wp_step k12 f12_18 (h_1)
theorem b12_19 {X : (Nat → Int) × Nat} {d : Nat} {s : mSt} {Q : mQ} {a0 : Nat} {x1 : Int} {x2 : Int} {xt0 : Int} (h0 : isBd a0) (h_1 : Q (some (mI xt0)) s) (h_2 : xt0 = 0 ∨ xt0 = 1) : Wp X d 12 19 [some (mR a0), some (mI x1), some (mI x2)] [mI xt0] s Q := Wp_step k12 f12_19 ⟨⟨rfl, h_2⟩, h_1⟩
theorem e12 {X : (Nat → Int) × Nat} {d : Nat} {s : mSt} {Q : mQ} {a0 : Nat} {x1 : Int} {x2 : Int} (h : Wp X d 12 0 [some (mR a0), some (mI x1), some (mI x2)] [] s Q) : Sp X d 12 [mR a0, mI x1, mI x2] s Q := Sp_of (show mCe 12 = 0 by decide +kernel) (by rw [show mML 12 = 3 by decide +kernel]; rfl) (Nat.le_trans (Nat.le_of_ble_eq_true (show Nat.ble (mArgs _).length 3 = true from rfl)) (show 3 ≤ mML 12 by decide +kernel)) h
-- 13 ClashDay$Board.sittersOf(I)I
theorem k13 : mRk 13 = 1 := by decide +kernel
theorem f13_0 : mFetch 13 0 = some (.iconst 0, 1, 0, 0, 0, 0) := by decide +kernel
theorem f13_1 : mFetch 13 1 = some (.istore_n 2, 1, 0, 0, 0, 0) := by decide +kernel
theorem f13_2 : mFetch 13 2 = some (.iconst 0, 1, 0, 0, 0, 0) := by decide +kernel
theorem f13_3 : mFetch 13 3 = some (.istore_n 3, 1, 0, 0, 0, 0) := by decide +kernel
theorem f13_4 : mFetch 13 4 = some (.iload_n 3, 1, 0, 0, 0, 0) := by decide +kernel
theorem f13_5 : mFetch 13 5 = some (.aload_n 0, 1, 0, 0, 0, 0) := by decide +kernel
theorem f13_6 : mFetch 13 6 = some (.getfield 49, 3, 0, 3, 0, 1) := by decide +kernel
theorem f13_9 : mFetch 13 9 = some (.if_icmp .ge 24, 3, 33, 0, 0, 0) := by decide +kernel
theorem f13_12 : mFetch 13 12 = some (.aload_n 0, 1, 0, 0, 0, 0) := by decide +kernel
theorem f13_13 : mFetch 13 13 = some (.iload_n 3, 1, 0, 0, 0, 0) := by decide +kernel
theorem f13_14 : mFetch 13 14 = some (.iload_n 1, 1, 0, 0, 0, 0) := by decide +kernel
theorem f13_15 : mFetch 13 15 = some (.invokevirtual 68, 3, 12, 0, 3, 0) := by decide +kernel
theorem f13_18 : mFetch 13 18 = some (.ifCond .eq 9, 3, 27, 0, 0, 0) := by decide +kernel
theorem f13_21 : mFetch 13 21 = some (.iload_n 2, 1, 0, 0, 0, 0) := by decide +kernel
theorem f13_22 : mFetch 13 22 = some (.iconst 1, 1, 0, 0, 0, 0) := by decide +kernel
theorem f13_23 : mFetch 13 23 = some (.iload_n 3, 1, 0, 0, 0, 0) := by decide +kernel
theorem f13_24 : mFetch 13 24 = some (.ishl, 1, 0, 0, 0, 0) := by decide +kernel
theorem f13_25 : mFetch 13 25 = some (.ior, 1, 0, 0, 0, 0) := by decide +kernel
theorem f13_26 : mFetch 13 26 = some (.istore_n 2, 1, 0, 0, 0, 0) := by decide +kernel
theorem f13_27 : mFetch 13 27 = some (.iinc 3 1, 3, 0, 0, 0, 0) := by decide +kernel
theorem f13_30 : mFetch 13 30 = some (.goto (-26), 3, 4, 0, 0, 0) := by decide +kernel
theorem f13_33 : mFetch 13 33 = some (.iload_n 2, 1, 0, 0, 0, 0) := by decide +kernel
theorem f13_34 : mFetch 13 34 = some (.ireturn, 1, 0, 0, 0, 0) := by decide +kernel
theorem b13_0 {X : (Nat → Int) × Nat} {d : Nat} {s : mSt} {Q : mQ} {a0 : Nat} {x1 : Int} {l2 : Option mV} {l3 : Option mV} (h0 : isBd a0) (h_1 : Wp X d 13 4 [some (mR a0), some (mI x1), some (mI 0), some (mI 0)] [] s Q) : Wp X d 13 0 [some (mR a0), some (mI x1), l2, l3] [] s Q := Wp_step k13 f13_0 (Wp_step k13 f13_1 (Wp_step k13 f13_2 (Wp_step k13 f13_3 (h_1))))
theorem b13_4 {X : (Nat → Int) × Nat} {d : Nat} {s : mSt} {Q : mQ} {a0 : Nat} {x1 : Int} {x2 : Int} {x3 : Int} (h0 : isBd a0) (h_1 : (s a0 3) ≤ x3 → Wp X d 13 33 [some (mR a0), some (mI x1), some (mI x2), some (mI x3)] [] s Q) (h_2 : ¬ (s a0 3) ≤ x3 → Wp X d 13 12 [some (mR a0), some (mI x1), some (mI x2), some (mI x3)] [] s Q) : Wp X d 13 4 [some (mR a0), some (mI x1), some (mI x2), some (mI x3)] [] s Q := Wp_step k13 f13_4 (Wp_step k13 f13_5 (Wp_step k13 f13_6 ⟨(bd_k h0), Wp_step k13 f13_9 ⟨h_1, h_2⟩⟩))
theorem b13_12 {X : (Nat → Int) × Nat} {d : Nat} {s : mSt} {Q : mQ} {a0 : Nat} {x1 : Int} {x2 : Int} {x3 : Int} (h0 : isBd a0) (h_1 : Sp X d 12 [mR a0, mI x3, mI x1] s (fun r s' => ∃ v : Int, r = some (mI v) ∧ Wp X (d + 1) 13 18 [some (mR a0), some (mI x1), some (mI x2), some (mI x3)] [mI v] s' Q)) : Wp X (d + 1) 13 12 [some (mR a0), some (mI x1), some (mI x2), some (mI x3)] [] s Q := Wp_step k13 f13_12 (Wp_step k13 f13_13 (Wp_step k13 f13_14 (Wp_step k13 f13_15 ⟨⟨(bd_k h0), Nat.le_of_ble_eq_true rfl⟩, Nat.le_refl _, _, rfl, Sp_E h_1⟩)))
theorem b13_18 {X : (Nat → Int) × Nat} {d : Nat} {s : mSt} {Q : mQ} {a0 : Nat} {x1 : Int} {x2 : Int} {x3 : Int} {xt0 : Int} (h0 : isBd a0) (h_1 : xt0 = 0 → Wp X d 13 27 [some (mR a0), some (mI x1), some (mI x2), some (mI x3)] [] s Q) (h_2 : ¬ xt0 = 0 → Wp X d 13 21 [some (mR a0), some (mI x1), some (mI x2), some (mI x3)] [] s Q) : Wp X d 13 18 [some (mR a0), some (mI x1), some (mI x2), some (mI x3)] [mI xt0] s Q := Wp_step k13 f13_18 ⟨h_1, h_2⟩
theorem b13_21 {X : (Nat → Int) × Nat} {d : Nat} {s : mSt} {Q : mQ} {a0 : Nat} {x1 : Int} {x2 : Int} {x3 : Int} (h0 : isBd a0) (h_1 : Wp X d 13 27 [some (mR a0), some (mI x1), some (mI (iOr x2 (iShl 1 x3))), some (mI x3)] [] s Q) : Wp X d 13 21 [some (mR a0), some (mI x1), some (mI x2), some (mI x3)] [] s Q := Wp_step k13 f13_21 (Wp_step k13 f13_22 (Wp_step k13 f13_23 (Wp_step k13 f13_24 (Wp_step k13 f13_25 (Wp_step k13 f13_26 (h_1))))))
theorem b13_27 {X : (Nat → Int) × Nat} {d : Nat} {s : mSt} {Q : mQ} {a0 : Nat} {x1 : Int} {x2 : Int} {x3 : Int} (h0 : isBd a0) (h_1 : Wp X d 13 4 [some (mR a0), some (mI x1), some (mI x2), some (mI (w32 (x3 + 1)))] [] s Q) : Wp X d 13 27 [some (mR a0), some (mI x1), some (mI x2), some (mI x3)] [] s Q := Wp_step k13 f13_27 (Wp_step k13 f13_30 (h_1))
theorem b13_33 {X : (Nat → Int) × Nat} {d : Nat} {s : mSt} {Q : mQ} {a0 : Nat} {x1 : Int} {x2 : Int} {x3 : Int} (h0 : isBd a0) (h_1 : Q (some (mI x2)) s) : Wp X d 13 33 [some (mR a0), some (mI x1), some (mI x2), some (mI x3)] [] s Q := Wp_step k13 f13_33 (Wp_step k13 f13_34 ⟨⟨rfl, trivial⟩, h_1⟩)
theorem e13 {X : (Nat → Int) × Nat} {d : Nat} {s : mSt} {Q : mQ} {a0 : Nat} {x1 : Int} (h : Wp X d 13 0 [some (mR a0), some (mI x1), none, none] [] s Q) : Sp X d 13 [mR a0, mI x1] s Q := Sp_of (show mCe 13 = 0 by decide +kernel) (by rw [show mML 13 = 4 by decide +kernel]; rfl) (Nat.le_trans (Nat.le_of_ble_eq_true (show Nat.ble (mArgs _).length 4 = true from rfl)) (show 4 ≤ mML 13 by decide +kernel)) h
-- 14 ClashDay$Board.timeOf(II)I
theorem k14 : mRk 14 = 1 := by decide +kernel
theorem f14_0 : mFetch 14 0 = some (.aload_n 0, 1, 0, 0, 0, 0) := by decide +kernel
theorem f14_1 : mFetch 14 1 = some (.getfield 15, 3, 0, 7, 2, 1) := by decide +kernel
theorem f14_4 : mFetch 14 4 = some (.iload_n 2, 1, 0, 0, 0, 0) := by decide +kernel
theorem f14_5 : mFetch 14 5 = some (.iaload, 1, 0, 0, 0, 0) := by decide +kernel
theorem f14_6 : mFetch 14 6 = some (.bipush 100, 2, 0, 0, 0, 0) := by decide +kernel
theorem f14_8 : mFetch 14 8 = some (.aload_n 0, 1, 0, 0, 0, 0) := by decide +kernel
theorem f14_9 : mFetch 14 9 = some (.getfield 21, 3, 0, 9, 2, 1) := by decide +kernel
theorem f14_12 : mFetch 14 12 = some (.iload_n 1, 1, 0, 0, 0, 0) := by decide +kernel
theorem f14_13 : mFetch 14 13 = some (.iaload, 1, 0, 0, 0, 0) := by decide +kernel
theorem f14_14 : mFetch 14 14 = some (.iadd, 1, 0, 0, 0, 0) := by decide +kernel
theorem f14_15 : mFetch 14 15 = some (.imul, 1, 0, 0, 0, 0) := by decide +kernel
theorem f14_16 : mFetch 14 16 = some (.bipush 99, 2, 0, 0, 0, 0) := by decide +kernel
theorem f14_18 : mFetch 14 18 = some (.iadd, 1, 0, 0, 0, 0) := by decide +kernel
theorem f14_19 : mFetch 14 19 = some (.bipush 100, 2, 0, 0, 0, 0) := by decide +kernel
theorem f14_21 : mFetch 14 21 = some (.idiv, 1, 0, 0, 0, 0) := by decide +kernel
theorem f14_22 : mFetch 14 22 = some (.ireturn, 1, 0, 0, 0, 0) := by decide +kernel
theorem b14_0 {X : (Nat → Int) × Nat} {d : Nat} {s : mSt} {Q : mQ} {a0 : Nat} {x1 : Int} {x2 : Int} (h0 : isBd a0) (h_1 : 0 ≤ x2 ∧ x2 < 5) (h_2 : 0 ≤ x1 ∧ x1 < 6) (h_3 : Q (some (mI (w32 (Int.tdiv (w32 ((w32 ((s (a0 + 2) x2.toNat) * (w32 (100 + (s (a0 + 4) x1.toNat))))) + 99)) 100)))) s) : Wp X d 14 0 [some (mR a0), some (mI x1), some (mI x2)] [] s Q := Wp_step k14 f14_0 (Wp_step k14 f14_1 ⟨(bd_k h0), (a0 + 2), (bd_r7 h0), Wp_step k14 f14_4 (Wp_step k14 f14_5 ⟨5, (bd_a7 h0), h_1, Wp_step k14 f14_6 (Wp_step k14 f14_8 (Wp_step k14 f14_9 ⟨(bd_k h0), (a0 + 4), (bd_r9 h0), Wp_step k14 f14_12 (Wp_step k14 f14_13 ⟨6, (bd_a9 h0), h_2, Wp_step k14 f14_14 (Wp_step k14 f14_15 (Wp_step k14 f14_16 (Wp_step k14 f14_18 (Wp_step k14 f14_19 (Wp_step k14 f14_21 ⟨(by decide), Wp_step k14 f14_22 ⟨⟨rfl, trivial⟩, h_3⟩⟩)))))⟩)⟩))⟩)⟩)
theorem e14 {X : (Nat → Int) × Nat} {d : Nat} {s : mSt} {Q : mQ} {a0 : Nat} {x1 : Int} {x2 : Int} (h : Wp X d 14 0 [some (mR a0), some (mI x1), some (mI x2)] [] s Q) : Sp X d 14 [mR a0, mI x1, mI x2] s Q := Sp_of (show mCe 14 = 0 by decide +kernel) (by rw [show mML 14 = 3 by decide +kernel]; rfl) (Nat.le_trans (Nat.le_of_ble_eq_true (show Nat.ble (mArgs _).length 3 = true from rfl)) (show 3 ≤ mML 14 by decide +kernel)) h
-- 15 ClashDay$Board.workOf(I)I
theorem k15 : mRk 15 = 1 := by decide +kernel
theorem f15_0 : mFetch 15 0 = some (.iconst 0, 1, 0, 0, 0, 0) := by decide +kernel
theorem f15_1 : mFetch 15 1 = some (.istore_n 2, 1, 0, 0, 0, 0) := by decide +kernel
theorem f15_2 : mFetch 15 2 = some (.iconst 0, 1, 0, 0, 0, 0) := by decide +kernel
theorem f15_3 : mFetch 15 3 = some (.istore_n 3, 1, 0, 0, 0, 0) := by decide +kernel
theorem f15_4 : mFetch 15 4 = some (.iload_n 3, 1, 0, 0, 0, 0) := by decide +kernel
theorem f15_5 : mFetch 15 5 = some (.aload_n 0, 1, 0, 0, 0, 0) := by decide +kernel
theorem f15_6 : mFetch 15 6 = some (.getfield 46, 3, 0, 2, 0, 1) := by decide +kernel
theorem f15_9 : mFetch 15 9 = some (.if_icmp .ge 27, 3, 36, 0, 0, 0) := by decide +kernel
theorem f15_12 : mFetch 15 12 = some (.aload_n 0, 1, 0, 0, 0, 0) := by decide +kernel
theorem f15_13 : mFetch 15 13 = some (.iload_n 1, 1, 0, 0, 0, 0) := by decide +kernel
theorem f15_14 : mFetch 15 14 = some (.iload_n 3, 1, 0, 0, 0, 0) := by decide +kernel
theorem f15_15 : mFetch 15 15 = some (.invokevirtual 68, 3, 12, 0, 3, 0) := by decide +kernel
theorem f15_18 : mFetch 15 18 = some (.ifCond .eq 12, 3, 30, 0, 0, 0) := by decide +kernel
theorem f15_21 : mFetch 15 21 = some (.iload_n 2, 1, 0, 0, 0, 0) := by decide +kernel
theorem f15_22 : mFetch 15 22 = some (.aload_n 0, 1, 0, 0, 0, 0) := by decide +kernel
theorem f15_23 : mFetch 15 23 = some (.iload_n 1, 1, 0, 0, 0, 0) := by decide +kernel
theorem f15_24 : mFetch 15 24 = some (.iload_n 3, 1, 0, 0, 0, 0) := by decide +kernel
theorem f15_25 : mFetch 15 25 = some (.invokevirtual 72, 3, 14, 0, 3, 0) := by decide +kernel
theorem f15_28 : mFetch 15 28 = some (.iadd, 1, 0, 0, 0, 0) := by decide +kernel
theorem f15_29 : mFetch 15 29 = some (.istore_n 2, 1, 0, 0, 0, 0) := by decide +kernel
theorem f15_30 : mFetch 15 30 = some (.iinc 3 1, 3, 0, 0, 0, 0) := by decide +kernel
theorem f15_33 : mFetch 15 33 = some (.goto (-29), 3, 4, 0, 0, 0) := by decide +kernel
theorem f15_36 : mFetch 15 36 = some (.iload_n 2, 1, 0, 0, 0, 0) := by decide +kernel
theorem f15_37 : mFetch 15 37 = some (.ireturn, 1, 0, 0, 0, 0) := by decide +kernel
theorem b15_0 {X : (Nat → Int) × Nat} {d : Nat} {s : mSt} {Q : mQ} {a0 : Nat} {x1 : Int} {l2 : Option mV} {l3 : Option mV} (h0 : isBd a0) (h_1 : Wp X d 15 4 [some (mR a0), some (mI x1), some (mI 0), some (mI 0)] [] s Q) : Wp X d 15 0 [some (mR a0), some (mI x1), l2, l3] [] s Q := Wp_step k15 f15_0 (Wp_step k15 f15_1 (Wp_step k15 f15_2 (Wp_step k15 f15_3 (h_1))))
theorem b15_4 {X : (Nat → Int) × Nat} {d : Nat} {s : mSt} {Q : mQ} {a0 : Nat} {x1 : Int} {x2 : Int} {x3 : Int} (h0 : isBd a0) (h_1 : (s a0 2) ≤ x3 → Wp X d 15 36 [some (mR a0), some (mI x1), some (mI x2), some (mI x3)] [] s Q) (h_2 : ¬ (s a0 2) ≤ x3 → Wp X d 15 12 [some (mR a0), some (mI x1), some (mI x2), some (mI x3)] [] s Q) : Wp X d 15 4 [some (mR a0), some (mI x1), some (mI x2), some (mI x3)] [] s Q := Wp_step k15 f15_4 (Wp_step k15 f15_5 (Wp_step k15 f15_6 ⟨(bd_k h0), Wp_step k15 f15_9 ⟨h_1, h_2⟩⟩))
theorem b15_12 {X : (Nat → Int) × Nat} {d : Nat} {s : mSt} {Q : mQ} {a0 : Nat} {x1 : Int} {x2 : Int} {x3 : Int} (h0 : isBd a0) (h_1 : Sp X d 12 [mR a0, mI x1, mI x3] s (fun r s' => ∃ v : Int, r = some (mI v) ∧ Wp X (d + 1) 15 18 [some (mR a0), some (mI x1), some (mI x2), some (mI x3)] [mI v] s' Q)) : Wp X (d + 1) 15 12 [some (mR a0), some (mI x1), some (mI x2), some (mI x3)] [] s Q := Wp_step k15 f15_12 (Wp_step k15 f15_13 (Wp_step k15 f15_14 (Wp_step k15 f15_15 ⟨⟨(bd_k h0), Nat.le_of_ble_eq_true rfl⟩, Nat.le_refl _, _, rfl, Sp_E h_1⟩)))
theorem b15_18 {X : (Nat → Int) × Nat} {d : Nat} {s : mSt} {Q : mQ} {a0 : Nat} {x1 : Int} {x2 : Int} {x3 : Int} {xt0 : Int} (h0 : isBd a0) (h_1 : xt0 = 0 → Wp X d 15 30 [some (mR a0), some (mI x1), some (mI x2), some (mI x3)] [] s Q) (h_2 : ¬ xt0 = 0 → Wp X d 15 21 [some (mR a0), some (mI x1), some (mI x2), some (mI x3)] [] s Q) : Wp X d 15 18 [some (mR a0), some (mI x1), some (mI x2), some (mI x3)] [mI xt0] s Q := Wp_step k15 f15_18 ⟨h_1, h_2⟩
theorem b15_21 {X : (Nat → Int) × Nat} {d : Nat} {s : mSt} {Q : mQ} {a0 : Nat} {x1 : Int} {x2 : Int} {x3 : Int} (h0 : isBd a0) (h_1 : Sp X d 14 [mR a0, mI x1, mI x3] s (fun r s' => ∃ v : Int, r = some (mI v) ∧ Wp X (d + 1) 15 28 [some (mR a0), some (mI x1), some (mI x2), some (mI x3)] [mI v, mI x2] s' Q)) : Wp X (d + 1) 15 21 [some (mR a0), some (mI x1), some (mI x2), some (mI x3)] [] s Q := Wp_step k15 f15_21 (Wp_step k15 f15_22 (Wp_step k15 f15_23 (Wp_step k15 f15_24 (Wp_step k15 f15_25 ⟨⟨(bd_k h0), Nat.le_of_ble_eq_true rfl⟩, Nat.le_refl _, _, rfl, Sp_E h_1⟩))))
theorem b15_28 {X : (Nat → Int) × Nat} {d : Nat} {s : mSt} {Q : mQ} {a0 : Nat} {x1 : Int} {x2 : Int} {x3 : Int} {xt0 : Int} {xt1 : Int} (h0 : isBd a0) (h_1 : Wp X d 15 30 [some (mR a0), some (mI x1), some (mI (w32 (xt0 + xt1))), some (mI x3)] [] s Q) : Wp X d 15 28 [some (mR a0), some (mI x1), some (mI x2), some (mI x3)] [mI xt1, mI xt0] s Q := Wp_step k15 f15_28 (Wp_step k15 f15_29 (h_1))
theorem b15_30 {X : (Nat → Int) × Nat} {d : Nat} {s : mSt} {Q : mQ} {a0 : Nat} {x1 : Int} {x2 : Int} {x3 : Int} (h0 : isBd a0) (h_1 : Wp X d 15 4 [some (mR a0), some (mI x1), some (mI x2), some (mI (w32 (x3 + 1)))] [] s Q) : Wp X d 15 30 [some (mR a0), some (mI x1), some (mI x2), some (mI x3)] [] s Q := Wp_step k15 f15_30 (Wp_step k15 f15_33 (h_1))
theorem b15_36 {X : (Nat → Int) × Nat} {d : Nat} {s : mSt} {Q : mQ} {a0 : Nat} {x1 : Int} {x2 : Int} {x3 : Int} (h0 : isBd a0) (h_1 : Q (some (mI x2)) s) : Wp X d 15 36 [some (mR a0), some (mI x1), some (mI x2), some (mI x3)] [] s Q := Wp_step k15 f15_36 (Wp_step k15 f15_37 ⟨⟨rfl, trivial⟩, h_1⟩)
theorem e15 {X : (Nat → Int) × Nat} {d : Nat} {s : mSt} {Q : mQ} {a0 : Nat} {x1 : Int} (h : Wp X d 15 0 [some (mR a0), some (mI x1), none, none] [] s Q) : Sp X d 15 [mR a0, mI x1] s Q := Sp_of (show mCe 15 = 0 by decide +kernel) (by rw [show mML 15 = 4 by decide +kernel]; rfl) (Nat.le_trans (Nat.le_of_ble_eq_true (show Nat.ble (mArgs _).length 4 = true from rfl)) (show 4 ≤ mML 15 by decide +kernel)) h
-- 16 ClashDay$Board.beginOf(II)I
theorem k16 : mRk 16 = 1 := by decide +kernel
theorem f16_0 : mFetch 16 0 = some (.aload_n 0, 1, 0, 0, 0, 0) := by decide +kernel
theorem f16_1 : mFetch 16 1 = some (.getfield 30, 3, 0, 12, 2, 1) := by decide +kernel
theorem f16_4 : mFetch 16 4 = some (.iload_n 1, 1, 0, 0, 0, 0) := by decide +kernel
theorem f16_5 : mFetch 16 5 = some (.iconst 5, 1, 0, 0, 0, 0) := by decide +kernel
theorem f16_6 : mFetch 16 6 = some (.imul, 1, 0, 0, 0, 0) := by decide +kernel
theorem f16_7 : mFetch 16 7 = some (.iload_n 2, 1, 0, 0, 0, 0) := by decide +kernel
theorem f16_8 : mFetch 16 8 = some (.iadd, 1, 0, 0, 0, 0) := by decide +kernel
theorem f16_9 : mFetch 16 9 = some (.iaload, 1, 0, 0, 0, 0) := by decide +kernel
theorem f16_10 : mFetch 16 10 = some (.ireturn, 1, 0, 0, 0, 0) := by decide +kernel
theorem b16_0 {X : (Nat → Int) × Nat} {d : Nat} {s : mSt} {Q : mQ} {a0 : Nat} {x1 : Int} {x2 : Int} (h0 : isBd a0) (h_1 : 0 ≤ (w32 ((w32 (x1 * 5)) + x2)) ∧ (w32 ((w32 (x1 * 5)) + x2)) < 30) (h_2 : Q (some (mI (s (a0 + 7) (w32 ((w32 (x1 * 5)) + x2)).toNat))) s) : Wp X d 16 0 [some (mR a0), some (mI x1), some (mI x2)] [] s Q := Wp_step k16 f16_0 (Wp_step k16 f16_1 ⟨(bd_k h0), (a0 + 7), (bd_r12 h0), Wp_step k16 f16_4 (Wp_step k16 f16_5 (Wp_step k16 f16_6 (Wp_step k16 f16_7 (Wp_step k16 f16_8 (Wp_step k16 f16_9 ⟨30, (bd_a12 h0), h_1, Wp_step k16 f16_10 ⟨⟨rfl, trivial⟩, h_2⟩⟩)))))⟩)
theorem e16 {X : (Nat → Int) × Nat} {d : Nat} {s : mSt} {Q : mQ} {a0 : Nat} {x1 : Int} {x2 : Int} (h : Wp X d 16 0 [some (mR a0), some (mI x1), some (mI x2)] [] s Q) : Sp X d 16 [mR a0, mI x1, mI x2] s Q := Sp_of (show mCe 16 = 0 by decide +kernel) (by rw [show mML 16 = 3 by decide +kernel]; rfl) (Nat.le_trans (Nat.le_of_ble_eq_true (show Nat.ble (mArgs _).length 3 = true from rfl)) (show 3 ≤ mML 16 by decide +kernel)) h
-- 17 ClashDay$Board.freeSeats(I)I
theorem k17 : mRk 17 = 1 := by decide +kernel
theorem f17_0 : mFetch 17 0 = some (.aload_n 0, 1, 0, 0, 0, 0) := by decide +kernel
theorem f17_1 : mFetch 17 1 = some (.getfield 39, 3, 0, 0, 0, 1) := by decide +kernel
theorem f17_4 : mFetch 17 4 = some (.aload_n 0, 1, 0, 0, 0, 0) := by decide +kernel
theorem f17_5 : mFetch 17 5 = some (.getfield 27, 3, 0, 11, 2, 1) := by decide +kernel
theorem f17_8 : mFetch 17 8 = some (.iload_n 1, 1, 0, 0, 0, 0) := by decide +kernel
theorem f17_9 : mFetch 17 9 = some (.iaload, 1, 0, 0, 0, 0) := by decide +kernel
theorem f17_10 : mFetch 17 10 = some (.isub, 1, 0, 0, 0, 0) := by decide +kernel
theorem f17_11 : mFetch 17 11 = some (.istore_n 2, 1, 0, 0, 0, 0) := by decide +kernel
theorem f17_12 : mFetch 17 12 = some (.iconst 0, 1, 0, 0, 0, 0) := by decide +kernel
theorem f17_13 : mFetch 17 13 = some (.istore_n 3, 1, 0, 0, 0, 0) := by decide +kernel
theorem f17_14 : mFetch 17 14 = some (.iload_n 3, 1, 0, 0, 0, 0) := by decide +kernel
theorem f17_15 : mFetch 17 15 = some (.aload_n 0, 1, 0, 0, 0, 0) := by decide +kernel
theorem f17_16 : mFetch 17 16 = some (.getfield 49, 3, 0, 3, 0, 1) := by decide +kernel
theorem f17_19 : mFetch 17 19 = some (.if_icmp .ge 22, 3, 41, 0, 0, 0) := by decide +kernel
theorem f17_22 : mFetch 17 22 = some (.iload_n 2, 1, 0, 0, 0, 0) := by decide +kernel
theorem f17_23 : mFetch 17 23 = some (.aload_n 0, 1, 0, 0, 0, 0) := by decide +kernel
theorem f17_24 : mFetch 17 24 = some (.getfield 33, 3, 0, 13, 2, 1) := by decide +kernel
theorem f17_27 : mFetch 17 27 = some (.iload_n 3, 1, 0, 0, 0, 0) := by decide +kernel
theorem f17_28 : mFetch 17 28 = some (.iaload, 1, 0, 0, 0, 0) := by decide +kernel
theorem f17_29 : mFetch 17 29 = some (.iload_n 1, 1, 0, 0, 0, 0) := by decide +kernel
theorem f17_30 : mFetch 17 30 = some (.ishr, 1, 0, 0, 0, 0) := by decide +kernel
theorem f17_31 : mFetch 17 31 = some (.iconst 1, 1, 0, 0, 0, 0) := by decide +kernel
theorem f17_32 : mFetch 17 32 = some (.iand, 1, 0, 0, 0, 0) := by decide +kernel
theorem f17_33 : mFetch 17 33 = some (.isub, 1, 0, 0, 0, 0) := by decide +kernel
theorem f17_34 : mFetch 17 34 = some (.istore_n 2, 1, 0, 0, 0, 0) := by decide +kernel
theorem f17_35 : mFetch 17 35 = some (.iinc 3 1, 3, 0, 0, 0, 0) := by decide +kernel
theorem f17_38 : mFetch 17 38 = some (.goto (-24), 3, 14, 0, 0, 0) := by decide +kernel
theorem f17_41 : mFetch 17 41 = some (.iload_n 2, 1, 0, 0, 0, 0) := by decide +kernel
theorem f17_42 : mFetch 17 42 = some (.iconst 0, 1, 0, 0, 0, 0) := by decide +kernel
theorem f17_43 : mFetch 17 43 = some (.invokestatic 76, 3, (-5), 0, 0, 0) := by decide +kernel
theorem f17_46 : mFetch 17 46 = some (.ireturn, 1, 0, 0, 0, 0) := by decide +kernel
theorem b17_0 {X : (Nat → Int) × Nat} {d : Nat} {s : mSt} {Q : mQ} {a0 : Nat} {x1 : Int} {l2 : Option mV} {l3 : Option mV} (h0 : isBd a0) (h_1 : 0 ≤ x1 ∧ x1 < 30) (h_2 : Wp X d 17 14 [some (mR a0), some (mI x1), some (mI (w32 ((s a0 0) - (s (a0 + 6) x1.toNat)))), some (mI 0)] [] s Q) : Wp X d 17 0 [some (mR a0), some (mI x1), l2, l3] [] s Q := Wp_step k17 f17_0 (Wp_step k17 f17_1 ⟨(bd_k h0), Wp_step k17 f17_4 (Wp_step k17 f17_5 ⟨(bd_k h0), (a0 + 6), (bd_r11 h0), Wp_step k17 f17_8 (Wp_step k17 f17_9 ⟨30, (bd_a11 h0), h_1, Wp_step k17 f17_10 (Wp_step k17 f17_11 (Wp_step k17 f17_12 (Wp_step k17 f17_13 (h_2))))⟩)⟩)⟩)
theorem b17_14 {X : (Nat → Int) × Nat} {d : Nat} {s : mSt} {Q : mQ} {a0 : Nat} {x1 : Int} {x2 : Int} {x3 : Int} (h0 : isBd a0) (h_1 : (s a0 3) ≤ x3 → Wp X d 17 41 [some (mR a0), some (mI x1), some (mI x2), some (mI x3)] [] s Q) (h_2 : ¬ (s a0 3) ≤ x3 → Wp X d 17 22 [some (mR a0), some (mI x1), some (mI x2), some (mI x3)] [] s Q) : Wp X d 17 14 [some (mR a0), some (mI x1), some (mI x2), some (mI x3)] [] s Q := Wp_step k17 f17_14 (Wp_step k17 f17_15 (Wp_step k17 f17_16 ⟨(bd_k h0), Wp_step k17 f17_19 ⟨h_1, h_2⟩⟩))
theorem b17_22 {X : (Nat → Int) × Nat} {d : Nat} {s : mSt} {Q : mQ} {a0 : Nat} {x1 : Int} {x2 : Int} {x3 : Int} (h0 : isBd a0) (h_1 : 0 ≤ x3 ∧ x3 < 6) (h_2 : Wp X d 17 14 [some (mR a0), some (mI x1), some (mI (w32 (x2 - (iAnd (iShr (s (a0 + 8) x3.toNat) x1) 1)))), some (mI (w32 (x3 + 1)))] [] s Q) : Wp X d 17 22 [some (mR a0), some (mI x1), some (mI x2), some (mI x3)] [] s Q := Wp_step k17 f17_22 (Wp_step k17 f17_23 (Wp_step k17 f17_24 ⟨(bd_k h0), (a0 + 8), (bd_r13 h0), Wp_step k17 f17_27 (Wp_step k17 f17_28 ⟨6, (bd_a13 h0), h_1, Wp_step k17 f17_29 (Wp_step k17 f17_30 (Wp_step k17 f17_31 (Wp_step k17 f17_32 (Wp_step k17 f17_33 (Wp_step k17 f17_34 (Wp_step k17 f17_35 (Wp_step k17 f17_38 (h_2))))))))⟩)⟩))
theorem b17_41 {X : (Nat → Int) × Nat} {d : Nat} {s : mSt} {Q : mQ} {a0 : Nat} {x1 : Int} {x2 : Int} {x3 : Int} (h0 : isBd a0) (h_1 : Q (some (mI (iMax x2 0))) s) : Wp X (d + 1) 17 41 [some (mR a0), some (mI x1), some (mI x2), some (mI x3)] [] s Q := Wp_step k17 f17_41 (Wp_step k17 f17_42 (Wp_step k17 f17_43 ⟨⟨Nat.succ_pos _, Nat.le_of_ble_eq_true rfl⟩, Wp_step k17 f17_46 ⟨⟨rfl, trivial⟩, h_1⟩⟩))
theorem e17 {X : (Nat → Int) × Nat} {d : Nat} {s : mSt} {Q : mQ} {a0 : Nat} {x1 : Int} (h : Wp X d 17 0 [some (mR a0), some (mI x1), none, none] [] s Q) : Sp X d 17 [mR a0, mI x1] s Q := Sp_of (show mCe 17 = 0 by decide +kernel) (by rw [show mML 17 = 4 by decide +kernel]; rfl) (Nat.le_trans (Nat.le_of_ble_eq_true (show Nat.ble (mArgs _).length 4 = true from rfl)) (show 4 ≤ mML 17 by decide +kernel)) h
-- 18 ClashDay$Board.openSlots()I
theorem k18 : mRk 18 = 1 := by decide +kernel
theorem f18_0 : mFetch 18 0 = some (.iconst 0, 1, 0, 0, 0, 0) := by decide +kernel
theorem f18_1 : mFetch 18 1 = some (.istore_n 1, 1, 0, 0, 0, 0) := by decide +kernel
theorem f18_2 : mFetch 18 2 = some (.iconst 0, 1, 0, 0, 0, 0) := by decide +kernel
theorem f18_3 : mFetch 18 3 = some (.istore_n 2, 1, 0, 0, 0, 0) := by decide +kernel
theorem f18_4 : mFetch 18 4 = some (.iload_n 2, 1, 0, 0, 0, 0) := by decide +kernel
theorem f18_5 : mFetch 18 5 = some (.bipush 30, 2, 0, 0, 0, 0) := by decide +kernel
theorem f18_7 : mFetch 18 7 = some (.if_icmp .ge 63, 3, 70, 0, 0, 0) := by decide +kernel
theorem f18_10 : mFetch 18 10 = some (.aload_n 0, 1, 0, 0, 0, 0) := by decide +kernel
theorem f18_11 : mFetch 18 11 = some (.getfield 39, 3, 0, 0, 0, 1) := by decide +kernel
theorem f18_14 : mFetch 18 14 = some (.aload_n 0, 1, 0, 0, 0, 0) := by decide +kernel
theorem f18_15 : mFetch 18 15 = some (.getfield 27, 3, 0, 11, 2, 1) := by decide +kernel
theorem f18_18 : mFetch 18 18 = some (.iload_n 2, 1, 0, 0, 0, 0) := by decide +kernel
theorem f18_19 : mFetch 18 19 = some (.iaload, 1, 0, 0, 0, 0) := by decide +kernel
theorem f18_20 : mFetch 18 20 = some (.isub, 1, 0, 0, 0, 0) := by decide +kernel
theorem f18_21 : mFetch 18 21 = some (.istore_n 3, 1, 0, 0, 0, 0) := by decide +kernel
theorem f18_22 : mFetch 18 22 = some (.iconst 0, 1, 0, 0, 0, 0) := by decide +kernel
theorem f18_23 : mFetch 18 23 = some (.istore 4, 2, 0, 0, 0, 0) := by decide +kernel
theorem f18_25 : mFetch 18 25 = some (.iload 4, 2, 0, 0, 0, 0) := by decide +kernel
theorem f18_27 : mFetch 18 27 = some (.aload_n 0, 1, 0, 0, 0, 0) := by decide +kernel
theorem f18_28 : mFetch 18 28 = some (.getfield 49, 3, 0, 3, 0, 1) := by decide +kernel
theorem f18_31 : mFetch 18 31 = some (.if_icmp .ge 23, 3, 54, 0, 0, 0) := by decide +kernel
theorem f18_34 : mFetch 18 34 = some (.iload_n 3, 1, 0, 0, 0, 0) := by decide +kernel
theorem f18_35 : mFetch 18 35 = some (.aload_n 0, 1, 0, 0, 0, 0) := by decide +kernel
theorem f18_36 : mFetch 18 36 = some (.getfield 33, 3, 0, 13, 2, 1) := by decide +kernel
theorem f18_39 : mFetch 18 39 = some (.iload 4, 2, 0, 0, 0, 0) := by decide +kernel
theorem f18_41 : mFetch 18 41 = some (.iaload, 1, 0, 0, 0, 0) := by decide +kernel
theorem f18_42 : mFetch 18 42 = some (.iload_n 2, 1, 0, 0, 0, 0) := by decide +kernel
theorem f18_43 : mFetch 18 43 = some (.ishr, 1, 0, 0, 0, 0) := by decide +kernel
theorem f18_44 : mFetch 18 44 = some (.iconst 1, 1, 0, 0, 0, 0) := by decide +kernel
theorem f18_45 : mFetch 18 45 = some (.iand, 1, 0, 0, 0, 0) := by decide +kernel
theorem f18_46 : mFetch 18 46 = some (.isub, 1, 0, 0, 0, 0) := by decide +kernel
theorem f18_47 : mFetch 18 47 = some (.istore_n 3, 1, 0, 0, 0, 0) := by decide +kernel
theorem f18_48 : mFetch 18 48 = some (.iinc 4 1, 3, 0, 0, 0, 0) := by decide +kernel
theorem f18_51 : mFetch 18 51 = some (.goto (-26), 3, 25, 0, 0, 0) := by decide +kernel
theorem f18_54 : mFetch 18 54 = some (.iload_n 3, 1, 0, 0, 0, 0) := by decide +kernel
theorem f18_55 : mFetch 18 55 = some (.ifCond .le 9, 3, 64, 0, 0, 0) := by decide +kernel
theorem f18_58 : mFetch 18 58 = some (.iload_n 1, 1, 0, 0, 0, 0) := by decide +kernel
theorem f18_59 : mFetch 18 59 = some (.iconst 1, 1, 0, 0, 0, 0) := by decide +kernel
theorem f18_60 : mFetch 18 60 = some (.iload_n 2, 1, 0, 0, 0, 0) := by decide +kernel
theorem f18_61 : mFetch 18 61 = some (.ishl, 1, 0, 0, 0, 0) := by decide +kernel
theorem f18_62 : mFetch 18 62 = some (.ior, 1, 0, 0, 0, 0) := by decide +kernel
theorem f18_63 : mFetch 18 63 = some (.istore_n 1, 1, 0, 0, 0, 0) := by decide +kernel
theorem f18_64 : mFetch 18 64 = some (.iinc 2 1, 3, 0, 0, 0, 0) := by decide +kernel
theorem f18_67 : mFetch 18 67 = some (.goto (-63), 3, 4, 0, 0, 0) := by decide +kernel
theorem f18_70 : mFetch 18 70 = some (.iload_n 1, 1, 0, 0, 0, 0) := by decide +kernel
theorem f18_71 : mFetch 18 71 = some (.ireturn, 1, 0, 0, 0, 0) := by decide +kernel
theorem b18_0 {X : (Nat → Int) × Nat} {d : Nat} {s : mSt} {Q : mQ} {a0 : Nat} {l1 : Option mV} {l2 : Option mV} {l3 : Option mV} {l4 : Option mV} (h0 : isBd a0) (h_1 : Wp X d 18 4 [some (mR a0), some (mI 0), some (mI 0), l3, l4] [] s Q) : Wp X d 18 0 [some (mR a0), l1, l2, l3, l4] [] s Q := Wp_step k18 f18_0 (Wp_step k18 f18_1 (Wp_step k18 f18_2 (Wp_step k18 f18_3 (h_1))))
theorem b18_4 {X : (Nat → Int) × Nat} {d : Nat} {s : mSt} {Q : mQ} {a0 : Nat} {x1 : Int} {x2 : Int} {l3 : Option mV} {l4 : Option mV} (h0 : isBd a0) (h_1 : 30 ≤ x2 → Wp X d 18 70 [some (mR a0), some (mI x1), some (mI x2), l3, l4] [] s Q) (h_2 : ¬ 30 ≤ x2 → Wp X d 18 10 [some (mR a0), some (mI x1), some (mI x2), l3, l4] [] s Q) : Wp X d 18 4 [some (mR a0), some (mI x1), some (mI x2), l3, l4] [] s Q := Wp_step k18 f18_4 (Wp_step k18 f18_5 (Wp_step k18 f18_7 ⟨h_1, h_2⟩))
theorem b18_10 {X : (Nat → Int) × Nat} {d : Nat} {s : mSt} {Q : mQ} {a0 : Nat} {x1 : Int} {x2 : Int} {l3 : Option mV} {l4 : Option mV} (h0 : isBd a0) (h_1 : 0 ≤ x2 ∧ x2 < 30) (h_2 : Wp X d 18 25 [some (mR a0), some (mI x1), some (mI x2), some (mI (w32 ((s a0 0) - (s (a0 + 6) x2.toNat)))), some (mI 0)] [] s Q) : Wp X d 18 10 [some (mR a0), some (mI x1), some (mI x2), l3, l4] [] s Q := Wp_step k18 f18_10 (Wp_step k18 f18_11 ⟨(bd_k h0), Wp_step k18 f18_14 (Wp_step k18 f18_15 ⟨(bd_k h0), (a0 + 6), (bd_r11 h0), Wp_step k18 f18_18 (Wp_step k18 f18_19 ⟨30, (bd_a11 h0), h_1, Wp_step k18 f18_20 (Wp_step k18 f18_21 (Wp_step k18 f18_22 (Wp_step k18 f18_23 (h_2))))⟩)⟩)⟩)
theorem b18_25 {X : (Nat → Int) × Nat} {d : Nat} {s : mSt} {Q : mQ} {a0 : Nat} {x1 : Int} {x2 : Int} {x3 : Int} {x4 : Int} (h0 : isBd a0) (h_1 : (s a0 3) ≤ x4 → Wp X d 18 54 [some (mR a0), some (mI x1), some (mI x2), some (mI x3), some (mI x4)] [] s Q) (h_2 : ¬ (s a0 3) ≤ x4 → Wp X d 18 34 [some (mR a0), some (mI x1), some (mI x2), some (mI x3), some (mI x4)] [] s Q) : Wp X d 18 25 [some (mR a0), some (mI x1), some (mI x2), some (mI x3), some (mI x4)] [] s Q := Wp_step k18 f18_25 (Wp_step k18 f18_27 (Wp_step k18 f18_28 ⟨(bd_k h0), Wp_step k18 f18_31 ⟨h_1, h_2⟩⟩))
theorem b18_34 {X : (Nat → Int) × Nat} {d : Nat} {s : mSt} {Q : mQ} {a0 : Nat} {x1 : Int} {x2 : Int} {x3 : Int} {x4 : Int} (h0 : isBd a0) (h_1 : 0 ≤ x4 ∧ x4 < 6) (h_2 : Wp X d 18 25 [some (mR a0), some (mI x1), some (mI x2), some (mI (w32 (x3 - (iAnd (iShr (s (a0 + 8) x4.toNat) x2) 1)))), some (mI (w32 (x4 + 1)))] [] s Q) : Wp X d 18 34 [some (mR a0), some (mI x1), some (mI x2), some (mI x3), some (mI x4)] [] s Q := Wp_step k18 f18_34 (Wp_step k18 f18_35 (Wp_step k18 f18_36 ⟨(bd_k h0), (a0 + 8), (bd_r13 h0), Wp_step k18 f18_39 (Wp_step k18 f18_41 ⟨6, (bd_a13 h0), h_1, Wp_step k18 f18_42 (Wp_step k18 f18_43 (Wp_step k18 f18_44 (Wp_step k18 f18_45 (Wp_step k18 f18_46 (Wp_step k18 f18_47 (Wp_step k18 f18_48 (Wp_step k18 f18_51 (h_2))))))))⟩)⟩))
theorem b18_54 {X : (Nat → Int) × Nat} {d : Nat} {s : mSt} {Q : mQ} {a0 : Nat} {x1 : Int} {x2 : Int} {x3 : Int} {x4 : Int} (h0 : isBd a0) (h_1 : x3 ≤ 0 → Wp X d 18 64 [some (mR a0), some (mI x1), some (mI x2), some (mI x3), some (mI x4)] [] s Q) (h_2 : ¬ x3 ≤ 0 → Wp X d 18 58 [some (mR a0), some (mI x1), some (mI x2), some (mI x3), some (mI x4)] [] s Q) : Wp X d 18 54 [some (mR a0), some (mI x1), some (mI x2), some (mI x3), some (mI x4)] [] s Q := Wp_step k18 f18_54 (Wp_step k18 f18_55 ⟨h_1, h_2⟩)
theorem b18_58 {X : (Nat → Int) × Nat} {d : Nat} {s : mSt} {Q : mQ} {a0 : Nat} {x1 : Int} {x2 : Int} {x3 : Int} {x4 : Int} (h0 : isBd a0) (h_1 : Wp X d 18 64 [some (mR a0), some (mI (iOr x1 (iShl 1 x2))), some (mI x2), some (mI x3), some (mI x4)] [] s Q) : Wp X d 18 58 [some (mR a0), some (mI x1), some (mI x2), some (mI x3), some (mI x4)] [] s Q := Wp_step k18 f18_58 (Wp_step k18 f18_59 (Wp_step k18 f18_60 (Wp_step k18 f18_61 (Wp_step k18 f18_62 (Wp_step k18 f18_63 (h_1))))))
theorem b18_64 {X : (Nat → Int) × Nat} {d : Nat} {s : mSt} {Q : mQ} {a0 : Nat} {x1 : Int} {x2 : Int} {x3 : Int} {x4 : Int} (h0 : isBd a0) (h_1 : Wp X d 18 4 [some (mR a0), some (mI x1), some (mI (w32 (x2 + 1))), some (mI x3), some (mI x4)] [] s Q) : Wp X d 18 64 [some (mR a0), some (mI x1), some (mI x2), some (mI x3), some (mI x4)] [] s Q := Wp_step k18 f18_64 (Wp_step k18 f18_67 (h_1))
theorem b18_70 {X : (Nat → Int) × Nat} {d : Nat} {s : mSt} {Q : mQ} {a0 : Nat} {x1 : Int} {x2 : Int} {l3 : Option mV} {l4 : Option mV} (h0 : isBd a0) (h_1 : Q (some (mI x1)) s) : Wp X d 18 70 [some (mR a0), some (mI x1), some (mI x2), l3, l4] [] s Q := Wp_step k18 f18_70 (Wp_step k18 f18_71 ⟨⟨rfl, trivial⟩, h_1⟩)
theorem e18 {X : (Nat → Int) × Nat} {d : Nat} {s : mSt} {Q : mQ} {a0 : Nat} (h : Wp X d 18 0 [some (mR a0), none, none, none, none] [] s Q) : Sp X d 18 [mR a0] s Q := Sp_of (show mCe 18 = 0 by decide +kernel) (by rw [show mML 18 = 5 by decide +kernel]; rfl) (Nat.le_trans (Nat.le_of_ble_eq_true (show Nat.ble (mArgs _).length 5 = true from rfl)) (show 5 ≤ mML 18 by decide +kernel)) h
-- 19 ClashDay$Board.busiest()I
theorem k19 : mRk 19 = 1 := by decide +kernel
theorem f19_0 : mFetch 19 0 = some (.iconst 0, 1, 0, 0, 0, 0) := by decide +kernel
theorem f19_1 : mFetch 19 1 = some (.istore_n 1, 1, 0, 0, 0, 0) := by decide +kernel
theorem f19_2 : mFetch 19 2 = some (.iconst 0, 1, 0, 0, 0, 0) := by decide +kernel
theorem f19_3 : mFetch 19 3 = some (.istore_n 2, 1, 0, 0, 0, 0) := by decide +kernel
theorem f19_4 : mFetch 19 4 = some (.iload_n 2, 1, 0, 0, 0, 0) := by decide +kernel
theorem f19_5 : mFetch 19 5 = some (.bipush 30, 2, 0, 0, 0, 0) := by decide +kernel
theorem f19_7 : mFetch 19 7 = some (.if_icmp .ge 24, 3, 31, 0, 0, 0) := by decide +kernel
theorem f19_10 : mFetch 19 10 = some (.iload_n 1, 1, 0, 0, 0, 0) := by decide +kernel
theorem f19_11 : mFetch 19 11 = some (.aload_n 0, 1, 0, 0, 0, 0) := by decide +kernel
theorem f19_12 : mFetch 19 12 = some (.getfield 39, 3, 0, 0, 0, 1) := by decide +kernel
theorem f19_15 : mFetch 19 15 = some (.aload_n 0, 1, 0, 0, 0, 0) := by decide +kernel
theorem f19_16 : mFetch 19 16 = some (.iload_n 2, 1, 0, 0, 0, 0) := by decide +kernel
theorem f19_17 : mFetch 19 17 = some (.invokevirtual 81, 3, 17, 0, 2, 0) := by decide +kernel
theorem f19_20 : mFetch 19 20 = some (.isub, 1, 0, 0, 0, 0) := by decide +kernel
theorem f19_21 : mFetch 19 21 = some (.invokestatic 76, 3, (-5), 0, 0, 0) := by decide +kernel
theorem f19_24 : mFetch 19 24 = some (.istore_n 1, 1, 0, 0, 0, 0) := by decide +kernel
theorem f19_25 : mFetch 19 25 = some (.iinc 2 1, 3, 0, 0, 0, 0) := by decide +kernel
theorem f19_28 : mFetch 19 28 = some (.goto (-24), 3, 4, 0, 0, 0) := by decide +kernel
theorem f19_31 : mFetch 19 31 = some (.iload_n 1, 1, 0, 0, 0, 0) := by decide +kernel
theorem f19_32 : mFetch 19 32 = some (.ireturn, 1, 0, 0, 0, 0) := by decide +kernel
theorem b19_0 {X : (Nat → Int) × Nat} {d : Nat} {s : mSt} {Q : mQ} {a0 : Nat} {l1 : Option mV} {l2 : Option mV} (h0 : isBd a0) (h_1 : Wp X d 19 4 [some (mR a0), some (mI 0), some (mI 0)] [] s Q) : Wp X d 19 0 [some (mR a0), l1, l2] [] s Q := Wp_step k19 f19_0 (Wp_step k19 f19_1 (Wp_step k19 f19_2 (Wp_step k19 f19_3 (h_1))))
theorem b19_4 {X : (Nat → Int) × Nat} {d : Nat} {s : mSt} {Q : mQ} {a0 : Nat} {x1 : Int} {x2 : Int} (h0 : isBd a0) (h_1 : 30 ≤ x2 → Wp X d 19 31 [some (mR a0), some (mI x1), some (mI x2)] [] s Q) (h_2 : ¬ 30 ≤ x2 → Wp X d 19 10 [some (mR a0), some (mI x1), some (mI x2)] [] s Q) : Wp X d 19 4 [some (mR a0), some (mI x1), some (mI x2)] [] s Q := Wp_step k19 f19_4 (Wp_step k19 f19_5 (Wp_step k19 f19_7 ⟨h_1, h_2⟩))
theorem b19_10 {X : (Nat → Int) × Nat} {d : Nat} {s : mSt} {Q : mQ} {a0 : Nat} {x1 : Int} {x2 : Int} (h0 : isBd a0) (h_1 : Sp X d 17 [mR a0, mI x2] s (fun r s' => ∃ v : Int, r = some (mI v) ∧ Wp X (d + 1) 19 20 [some (mR a0), some (mI x1), some (mI x2)] [mI v, mI (s a0 0), mI x1] s' Q)) : Wp X (d + 1) 19 10 [some (mR a0), some (mI x1), some (mI x2)] [] s Q := Wp_step k19 f19_10 (Wp_step k19 f19_11 (Wp_step k19 f19_12 ⟨(bd_k h0), Wp_step k19 f19_15 (Wp_step k19 f19_16 (Wp_step k19 f19_17 ⟨⟨(bd_k h0), Nat.le_of_ble_eq_true rfl⟩, Nat.le_refl _, _, rfl, Sp_E h_1⟩))⟩))
theorem b19_20 {X : (Nat → Int) × Nat} {d : Nat} {s : mSt} {Q : mQ} {a0 : Nat} {x1 : Int} {x2 : Int} {xt0 : Int} {xt1 : Int} {xt2 : Int} (h0 : isBd a0) (h_1 : Wp X (d + 1) 19 4 [some (mR a0), some (mI (iMax xt0 (w32 (xt1 - xt2)))), some (mI (w32 (x2 + 1)))] [] s Q) : Wp X (d + 1) 19 20 [some (mR a0), some (mI x1), some (mI x2)] [mI xt2, mI xt1, mI xt0] s Q := Wp_step k19 f19_20 (Wp_step k19 f19_21 ⟨⟨Nat.succ_pos _, Nat.le_of_ble_eq_true rfl⟩, Wp_step k19 f19_24 (Wp_step k19 f19_25 (Wp_step k19 f19_28 (h_1)))⟩)
theorem b19_31 {X : (Nat → Int) × Nat} {d : Nat} {s : mSt} {Q : mQ} {a0 : Nat} {x1 : Int} {x2 : Int} (h0 : isBd a0) (h_1 : Q (some (mI x1)) s) : Wp X d 19 31 [some (mR a0), some (mI x1), some (mI x2)] [] s Q := Wp_step k19 f19_31 (Wp_step k19 f19_32 ⟨⟨rfl, trivial⟩, h_1⟩)
theorem e19 {X : (Nat → Int) × Nat} {d : Nat} {s : mSt} {Q : mQ} {a0 : Nat} (h : Wp X d 19 0 [some (mR a0), none, none] [] s Q) : Sp X d 19 [mR a0] s Q := Sp_of (show mCe 19 = 0 by decide +kernel) (by rw [show mML 19 = 3 by decide +kernel]; rfl) (Nat.le_trans (Nat.le_of_ble_eq_true (show Nat.ble (mArgs _).length 3 = true from rfl)) (show 3 ≤ mML 19 by decide +kernel)) h
-- 20 ClashDay$Board.keptIn(II)Z
theorem k20 : mRk 20 = 2 := by decide +kernel
theorem f20_0 : mFetch 20 0 = some (.aload_n 0, 1, 0, 0, 0, 0) := by decide +kernel
theorem f20_1 : mFetch 20 1 = some (.getfield 36, 3, 0, 14, 2, 1) := by decide +kernel
theorem f20_4 : mFetch 20 4 = some (.iload_n 1, 1, 0, 0, 0, 0) := by decide +kernel
theorem f20_5 : mFetch 20 5 = some (.iaload, 1, 0, 0, 0, 0) := by decide +kernel
theorem f20_6 : mFetch 20 6 = some (.iload_n 2, 1, 0, 0, 0, 0) := by decide +kernel
theorem f20_7 : mFetch 20 7 = some (.ishr, 1, 0, 0, 0, 0) := by decide +kernel
theorem f20_8 : mFetch 20 8 = some (.iconst 1, 1, 0, 0, 0, 0) := by decide +kernel
theorem f20_9 : mFetch 20 9 = some (.iand, 1, 0, 0, 0, 0) := by decide +kernel
theorem f20_10 : mFetch 20 10 = some (.iconst 1, 1, 0, 0, 0, 0) := by decide +kernel
theorem f20_11 : mFetch 20 11 = some (.if_icmp .ne 7, 3, 18, 0, 0, 0) := by decide +kernel
theorem f20_14 : mFetch 20 14 = some (.iconst 1, 1, 0, 0, 0, 0) := by decide +kernel
theorem f20_15 : mFetch 20 15 = some (.goto 4, 3, 19, 0, 0, 0) := by decide +kernel
theorem f20_18 : mFetch 20 18 = some (.iconst 0, 1, 0, 0, 0, 0) := by decide +kernel
theorem f20_19 : mFetch 20 19 = some (.ireturn, 1, 0, 0, 0, 0) := by decide +kernel
theorem b20_0 {X : (Nat → Int) × Nat} {d : Nat} {s : mSt} {Q : mQ} {a0 : Nat} {x1 : Int} {x2 : Int} (h0 : isBd a0) (h_1 : 0 ≤ x1 ∧ x1 < 6) (h_2 : ¬ (iAnd (iShr (s (a0 + 9) x1.toNat) x2) 1) = 1 → Wp X d 20 18 [some (mR a0), some (mI x1), some (mI x2)] [] s Q) (h_3 : (iAnd (iShr (s (a0 + 9) x1.toNat) x2) 1) = 1 → Wp X d 20 14 [some (mR a0), some (mI x1), some (mI x2)] [] s Q) : Wp X d 20 0 [some (mR a0), some (mI x1), some (mI x2)] [] s Q := Wp_step k20 f20_0 (Wp_step k20 f20_1 ⟨(bd_k h0), (a0 + 9), (bd_r14 h0), Wp_step k20 f20_4 (Wp_step k20 f20_5 ⟨6, (bd_a14 h0), h_1, Wp_step k20 f20_6 (Wp_step k20 f20_7 (Wp_step k20 f20_8 (Wp_step k20 f20_9 (Wp_step k20 f20_10 (Wp_step k20 f20_11 ⟨h_2, h_3⟩)))))⟩)⟩)
theorem b20_14 {X : (Nat → Int) × Nat} {d : Nat} {s : mSt} {Q : mQ} {a0 : Nat} {x1 : Int} {x2 : Int} (h0 : isBd a0) (h_1 : Wp X d 20 19 [some (mR a0), some (mI x1), some (mI x2)] [mI 1] s Q) : Wp X d 20 14 [some (mR a0), some (mI x1), some (mI x2)] [] s Q := Wp_step k20 f20_14 (Wp_step k20 f20_15 (h_1))
theorem b20_18 {X : (Nat → Int) × Nat} {d : Nat} {s : mSt} {Q : mQ} {a0 : Nat} {x1 : Int} {x2 : Int} (h0 : isBd a0) (h_1 : Wp X d 20 19 [some (mR a0), some (mI x1), some (mI x2)] [mI 0] s Q) : Wp X d 20 18 [some (mR a0), some (mI x1), some (mI x2)] [] s Q := Wp_step k20 f20_18 (h_1)
theorem b20_19 {X : (Nat → Int) × Nat} {d : Nat} {s : mSt} {Q : mQ} {a0 : Nat} {x1 : Int} {x2 : Int} {xt0 : Int} (h0 : isBd a0) (h_1 : Q (some (mI xt0)) s) (h_2 : xt0 = 0 ∨ xt0 = 1) : Wp X d 20 19 [some (mR a0), some (mI x1), some (mI x2)] [mI xt0] s Q := Wp_step k20 f20_19 ⟨⟨rfl, h_2⟩, h_1⟩
theorem e20 {X : (Nat → Int) × Nat} {d : Nat} {s : mSt} {Q : mQ} {a0 : Nat} {x1 : Int} {x2 : Int} (h : Wp X d 20 0 [some (mR a0), some (mI x1), some (mI x2)] [] s Q) : Sp X d 20 [mR a0, mI x1, mI x2] s Q := Sp_of (show mCe 20 = 0 by decide +kernel) (by rw [show mML 20 = 3 by decide +kernel]; rfl) (Nat.le_trans (Nat.le_of_ble_eq_true (show Nat.ble (mArgs _).length 3 = true from rfl)) (show 3 ≤ mML 20 by decide +kernel)) h
-- 21 ClashDay$Board.keptOf(I)I
theorem k21 : mRk 21 = 1 := by decide +kernel
theorem f21_0 : mFetch 21 0 = some (.aload_n 0, 1, 0, 0, 0, 0) := by decide +kernel
theorem f21_1 : mFetch 21 1 = some (.getfield 36, 3, 0, 14, 2, 1) := by decide +kernel
theorem f21_4 : mFetch 21 4 = some (.iload_n 1, 1, 0, 0, 0, 0) := by decide +kernel
theorem f21_5 : mFetch 21 5 = some (.iaload, 1, 0, 0, 0, 0) := by decide +kernel
theorem f21_6 : mFetch 21 6 = some (.invokestatic 85, 3, 309, 0, 1, 99) := by decide +kernel
theorem f21_9 : mFetch 21 9 = some (.ireturn, 1, 0, 0, 0, 0) := by decide +kernel
theorem b21_0 {X : (Nat → Int) × Nat} {d : Nat} {s : mSt} {Q : mQ} {a0 : Nat} {x1 : Int} (h0 : isBd a0) (h_1 : 0 ≤ x1 ∧ x1 < 6) (h_2 : Sp X d 309 [mI (s (a0 + 9) x1.toNat)] s (fun r s' => ∃ v : Int, r = some (mI v) ∧ Wp X (d + 1) 21 9 [some (mR a0), some (mI x1)] [mI v] s' Q)) : Wp X (d + 1) 21 0 [some (mR a0), some (mI x1)] [] s Q := Wp_step k21 f21_0 (Wp_step k21 f21_1 ⟨(bd_k h0), (a0 + 9), (bd_r14 h0), Wp_step k21 f21_4 (Wp_step k21 f21_5 ⟨6, (bd_a14 h0), h_1, Wp_step k21 f21_6 ⟨⟨Nat.le_of_ble_eq_true rfl, Nat.le_refl _⟩, _, rfl, Sp_E h_2⟩⟩)⟩)
theorem b21_9 {X : (Nat → Int) × Nat} {d : Nat} {s : mSt} {Q : mQ} {a0 : Nat} {x1 : Int} {xt0 : Int} (h0 : isBd a0) (h_1 : Q (some (mI xt0)) s) : Wp X d 21 9 [some (mR a0), some (mI x1)] [mI xt0] s Q := Wp_step k21 f21_9 ⟨⟨rfl, trivial⟩, h_1⟩
theorem e21 {X : (Nat → Int) × Nat} {d : Nat} {s : mSt} {Q : mQ} {a0 : Nat} {x1 : Int} (h : Wp X d 21 0 [some (mR a0), some (mI x1)] [] s Q) : Sp X d 21 [mR a0, mI x1] s Q := Sp_of (show mCe 21 = 0 by decide +kernel) (by rw [show mML 21 = 2 by decide +kernel]; rfl) (Nat.le_trans (Nat.le_of_ble_eq_true (show Nat.ble (mArgs _).length 2 = true from rfl)) (show 2 ≤ mML 21 by decide +kernel)) h
-- 22 ClashDay$Board.keptOfAll()I
theorem k22 : mRk 22 = 1 := by decide +kernel
theorem f22_0 : mFetch 22 0 = some (.iconst 0, 1, 0, 0, 0, 0) := by decide +kernel
theorem f22_1 : mFetch 22 1 = some (.istore_n 1, 1, 0, 0, 0, 0) := by decide +kernel
theorem f22_2 : mFetch 22 2 = some (.iconst 0, 1, 0, 0, 0, 0) := by decide +kernel
theorem f22_3 : mFetch 22 3 = some (.istore_n 2, 1, 0, 0, 0, 0) := by decide +kernel
theorem f22_4 : mFetch 22 4 = some (.iload_n 2, 1, 0, 0, 0, 0) := by decide +kernel
theorem f22_5 : mFetch 22 5 = some (.aload_n 0, 1, 0, 0, 0, 0) := by decide +kernel
theorem f22_6 : mFetch 22 6 = some (.getfield 49, 3, 0, 3, 0, 1) := by decide +kernel
theorem f22_9 : mFetch 22 9 = some (.if_icmp .ge 17, 3, 26, 0, 0, 0) := by decide +kernel
theorem f22_12 : mFetch 22 12 = some (.iload_n 1, 1, 0, 0, 0, 0) := by decide +kernel
theorem f22_13 : mFetch 22 13 = some (.aload_n 0, 1, 0, 0, 0, 0) := by decide +kernel
theorem f22_14 : mFetch 22 14 = some (.iload_n 2, 1, 0, 0, 0, 0) := by decide +kernel
theorem f22_15 : mFetch 22 15 = some (.invokevirtual 90, 3, 21, 0, 2, 0) := by decide +kernel
theorem f22_18 : mFetch 22 18 = some (.iadd, 1, 0, 0, 0, 0) := by decide +kernel
theorem f22_19 : mFetch 22 19 = some (.istore_n 1, 1, 0, 0, 0, 0) := by decide +kernel
theorem f22_20 : mFetch 22 20 = some (.iinc 2 1, 3, 0, 0, 0, 0) := by decide +kernel
theorem f22_23 : mFetch 22 23 = some (.goto (-19), 3, 4, 0, 0, 0) := by decide +kernel
theorem f22_26 : mFetch 22 26 = some (.iload_n 1, 1, 0, 0, 0, 0) := by decide +kernel
theorem f22_27 : mFetch 22 27 = some (.ireturn, 1, 0, 0, 0, 0) := by decide +kernel
theorem b22_0 {X : (Nat → Int) × Nat} {d : Nat} {s : mSt} {Q : mQ} {a0 : Nat} {l1 : Option mV} {l2 : Option mV} (h0 : isBd a0) (h_1 : Wp X d 22 4 [some (mR a0), some (mI 0), some (mI 0)] [] s Q) : Wp X d 22 0 [some (mR a0), l1, l2] [] s Q := Wp_step k22 f22_0 (Wp_step k22 f22_1 (Wp_step k22 f22_2 (Wp_step k22 f22_3 (h_1))))
theorem b22_4 {X : (Nat → Int) × Nat} {d : Nat} {s : mSt} {Q : mQ} {a0 : Nat} {x1 : Int} {x2 : Int} (h0 : isBd a0) (h_1 : (s a0 3) ≤ x2 → Wp X d 22 26 [some (mR a0), some (mI x1), some (mI x2)] [] s Q) (h_2 : ¬ (s a0 3) ≤ x2 → Wp X d 22 12 [some (mR a0), some (mI x1), some (mI x2)] [] s Q) : Wp X d 22 4 [some (mR a0), some (mI x1), some (mI x2)] [] s Q := Wp_step k22 f22_4 (Wp_step k22 f22_5 (Wp_step k22 f22_6 ⟨(bd_k h0), Wp_step k22 f22_9 ⟨h_1, h_2⟩⟩))
theorem b22_12 {X : (Nat → Int) × Nat} {d : Nat} {s : mSt} {Q : mQ} {a0 : Nat} {x1 : Int} {x2 : Int} (h0 : isBd a0) (h_1 : Sp X d 21 [mR a0, mI x2] s (fun r s' => ∃ v : Int, r = some (mI v) ∧ Wp X (d + 1) 22 18 [some (mR a0), some (mI x1), some (mI x2)] [mI v, mI x1] s' Q)) : Wp X (d + 1) 22 12 [some (mR a0), some (mI x1), some (mI x2)] [] s Q := Wp_step k22 f22_12 (Wp_step k22 f22_13 (Wp_step k22 f22_14 (Wp_step k22 f22_15 ⟨⟨(bd_k h0), Nat.le_of_ble_eq_true rfl⟩, Nat.le_refl _, _, rfl, Sp_E h_1⟩)))
theorem b22_18 {X : (Nat → Int) × Nat} {d : Nat} {s : mSt} {Q : mQ} {a0 : Nat} {x1 : Int} {x2 : Int} {xt0 : Int} {xt1 : Int} (h0 : isBd a0) (h_1 : Wp X d 22 4 [some (mR a0), some (mI (w32 (xt0 + xt1))), some (mI (w32 (x2 + 1)))] [] s Q) : Wp X d 22 18 [some (mR a0), some (mI x1), some (mI x2)] [mI xt1, mI xt0] s Q := Wp_step k22 f22_18 (Wp_step k22 f22_19 (Wp_step k22 f22_20 (Wp_step k22 f22_23 (h_1))))
theorem b22_26 {X : (Nat → Int) × Nat} {d : Nat} {s : mSt} {Q : mQ} {a0 : Nat} {x1 : Int} {x2 : Int} (h0 : isBd a0) (h_1 : Q (some (mI x1)) s) : Wp X d 22 26 [some (mR a0), some (mI x1), some (mI x2)] [] s Q := Wp_step k22 f22_26 (Wp_step k22 f22_27 ⟨⟨rfl, trivial⟩, h_1⟩)
theorem e22 {X : (Nat → Int) × Nat} {d : Nat} {s : mSt} {Q : mQ} {a0 : Nat} (h : Wp X d 22 0 [some (mR a0), none, none] [] s Q) : Sp X d 22 [mR a0] s Q := Sp_of (show mCe 22 = 0 by decide +kernel) (by rw [show mML 22 = 3 by decide +kernel]; rfl) (Nat.le_trans (Nat.le_of_ble_eq_true (show Nat.ble (mArgs _).length 3 = true from rfl)) (show 3 ≤ mML 22 by decide +kernel)) h
-- 23 ClashDay$Board.adopt(ILClashDay$Planner;)V
theorem k23 : mRk 23 = 0 := by decide +kernel
theorem f23_0 : mFetch 23 0 = some (.aload_n 2, 1, 0, 0, 0, 0) := by decide +kernel
theorem f23_1 : mFetch 23 1 = some (.getfield 93, 3, 4, 11, 2, 0) := by decide +kernel
theorem f23_4 : mFetch 23 4 = some (.iconst 0, 1, 0, 0, 0, 0) := by decide +kernel
theorem f23_5 : mFetch 23 5 = some (.aload_n 0, 1, 0, 0, 0, 0) := by decide +kernel
theorem f23_6 : mFetch 23 6 = some (.getfield 30, 3, 0, 12, 2, 1) := by decide +kernel
theorem f23_9 : mFetch 23 9 = some (.iload_n 1, 1, 0, 0, 0, 0) := by decide +kernel
theorem f23_10 : mFetch 23 10 = some (.iconst 5, 1, 0, 0, 0, 0) := by decide +kernel
theorem f23_11 : mFetch 23 11 = some (.imul, 1, 0, 0, 0, 0) := by decide +kernel
theorem f23_12 : mFetch 23 12 = some (.iconst 5, 1, 0, 0, 0, 0) := by decide +kernel
theorem f23_13 : mFetch 23 13 = some (.invokestatic 58, 3, (-2), 0, 0, 0) := by decide +kernel
theorem f23_16 : mFetch 23 16 = some (.aload_n 0, 1, 0, 0, 0, 0) := by decide +kernel
theorem f23_17 : mFetch 23 17 = some (.getfield 33, 3, 0, 13, 2, 1) := by decide +kernel
theorem f23_20 : mFetch 23 20 = some (.iload_n 1, 1, 0, 0, 0, 0) := by decide +kernel
theorem f23_21 : mFetch 23 21 = some (.aload_n 2, 1, 0, 0, 0, 0) := by decide +kernel
theorem f23_22 : mFetch 23 22 = some (.getfield 96, 3, 4, 9, 0, 0) := by decide +kernel
theorem f23_25 : mFetch 23 25 = some (.iastore, 1, 0, 0, 0, 0) := by decide +kernel
theorem f23_26 : mFetch 23 26 = some (.aload_n 0, 1, 0, 0, 0, 0) := by decide +kernel
theorem f23_27 : mFetch 23 27 = some (.getfield 36, 3, 0, 14, 2, 1) := by decide +kernel
theorem f23_30 : mFetch 23 30 = some (.iload_n 1, 1, 0, 0, 0, 0) := by decide +kernel
theorem f23_31 : mFetch 23 31 = some (.aload_n 2, 1, 0, 0, 0, 0) := by decide +kernel
theorem f23_32 : mFetch 23 32 = some (.getfield 98, 3, 4, 8, 0, 0) := by decide +kernel
theorem f23_35 : mFetch 23 35 = some (.iastore, 1, 0, 0, 0, 0) := by decide +kernel
theorem f23_36 : mFetch 23 36 = some (.aload_n 0, 1, 0, 0, 0, 0) := by decide +kernel
theorem f23_37 : mFetch 23 37 = some (.dup, 1, 0, 0, 0, 0) := by decide +kernel
theorem f23_38 : mFetch 23 38 = some (.getfield 55, 3, 0, 5, 0, 1) := by decide +kernel
theorem f23_41 : mFetch 23 41 = some (.iconst 1, 1, 0, 0, 0, 0) := by decide +kernel
theorem f23_42 : mFetch 23 42 = some (.iload_n 1, 1, 0, 0, 0, 0) := by decide +kernel
theorem f23_43 : mFetch 23 43 = some (.ishl, 1, 0, 0, 0, 0) := by decide +kernel
theorem f23_44 : mFetch 23 44 = some (.ior, 1, 0, 0, 0, 0) := by decide +kernel
theorem f23_45 : mFetch 23 45 = some (.putfield 55, 3, 0, 5, 0, 1) := by decide +kernel
theorem f23_48 : mFetch 23 48 = some (.return_, 1, 0, 0, 0, 0) := by decide +kernel
theorem b23_0 {X : (Nat → Int) × Nat} {d : Nat} {s : mSt} {Q : mQ} {a0 : Nat} {x1 : Int} (h0 : isBd a0) (h_1 : 0 ≤ (w32 (x1 * 5)) ∧ (w32 (x1 * 5)) + 5 ≤ (30 : Int)) (h_2 : 0 ≤ x1 ∧ x1 < 6) (h_3 : 0 ≤ x1 ∧ x1 < 6) (h_4 : Q none (uS (uS (uS (cS s 49 0 (a0 + 7) ((w32 (x1 * 5)).toNat) 5) (a0 + 8) x1.toNat ((cS s 49 0 (a0 + 7) ((w32 (x1 * 5)).toNat) 5) 44 9)) (a0 + 9) x1.toNat ((uS (cS s 49 0 (a0 + 7) ((w32 (x1 * 5)).toNat) 5) (a0 + 8) x1.toNat ((cS s 49 0 (a0 + 7) ((w32 (x1 * 5)).toNat) 5) 44 9)) 44 8)) a0 5 (iOr ((uS (uS (cS s 49 0 (a0 + 7) ((w32 (x1 * 5)).toNat) 5) (a0 + 8) x1.toNat ((cS s 49 0 (a0 + 7) ((w32 (x1 * 5)).toNat) 5) 44 9)) (a0 + 9) x1.toNat ((uS (cS s 49 0 (a0 + 7) ((w32 (x1 * 5)).toNat) 5) (a0 + 8) x1.toNat ((cS s 49 0 (a0 + 7) ((w32 (x1 * 5)).toNat) 5) 44 9)) 44 8)) a0 5) (iShl 1 x1)))) : Wp X (d + 1) 23 0 [some (mR a0), some (mI x1), some (mR 44)] [] s Q := Wp_step k23 f23_0 (Wp_step k23 f23_1 ⟨kf_44, 49, rf_44_11, Wp_step k23 f23_4 (Wp_step k23 f23_5 (Wp_step k23 f23_6 ⟨(bd_k h0), (a0 + 7), (bd_r12 h0), Wp_step k23 f23_9 (Wp_step k23 f23_10 (Wp_step k23 f23_11 (Wp_step k23 f23_12 (Wp_step k23 f23_13 ⟨⟨Nat.succ_pos _, Nat.le_of_ble_eq_true rfl⟩, ⟨5, af_49, ⟨by decide, by decide, by decide⟩⟩, ⟨30, (bd_a12 h0), h_1⟩, Wp_step k23 f23_16 (Wp_step k23 f23_17 ⟨(bd_k h0), (a0 + 8), (bd_r13 h0), Wp_step k23 f23_20 (Wp_step k23 f23_21 (Wp_step k23 f23_22 ⟨kf_44, Wp_step k23 f23_25 ⟨6, (bd_a13 h0), h_2, Wp_step k23 f23_26 (Wp_step k23 f23_27 ⟨(bd_k h0), (a0 + 9), (bd_r14 h0), Wp_step k23 f23_30 (Wp_step k23 f23_31 (Wp_step k23 f23_32 ⟨kf_44, Wp_step k23 f23_35 ⟨6, (bd_a14 h0), h_3, Wp_step k23 f23_36 (Wp_step k23 f23_37 (Wp_step k23 f23_38 ⟨(bd_k h0), Wp_step k23 f23_41 (Wp_step k23 f23_42 (Wp_step k23 f23_43 (Wp_step k23 f23_44 (Wp_step k23 f23_45 ⟨(bd_k h0), Wp_step k23 f23_48 ⟨⟨rfl, Or.inl rfl⟩, h_4⟩⟩))))⟩))⟩⟩))⟩)⟩⟩))⟩)⟩))))⟩))⟩)
theorem e23 {X : (Nat → Int) × Nat} {d : Nat} {s : mSt} {Q : mQ} {a0 : Nat} {x1 : Int} (h : Wp X d 23 0 [some (mR a0), some (mI x1), some (mR 44)] [] s Q) : Sp X d 23 [mR a0, mI x1, mR 44] s Q := Sp_of (show mCe 23 = 0 by decide +kernel) (by rw [show mML 23 = 3 by decide +kernel]; rfl) (Nat.le_trans (Nat.le_of_ble_eq_true (show Nat.ble (mArgs _).length 3 = true from rfl)) (show 3 ≤ mML 23 by decide +kernel)) h
-- 24 ClashDay$Board.release(I)V
theorem k24 : mRk 24 = 0 := by decide +kernel
theorem f24_0 : mFetch 24 0 = some (.aload_n 0, 1, 0, 0, 0, 0) := by decide +kernel
theorem f24_1 : mFetch 24 1 = some (.dup, 1, 0, 0, 0, 0) := by decide +kernel
theorem f24_2 : mFetch 24 2 = some (.getfield 55, 3, 0, 5, 0, 1) := by decide +kernel
theorem f24_5 : mFetch 24 5 = some (.iconst 1, 1, 0, 0, 0, 0) := by decide +kernel
theorem f24_6 : mFetch 24 6 = some (.iload_n 1, 1, 0, 0, 0, 0) := by decide +kernel
theorem f24_7 : mFetch 24 7 = some (.ishl, 1, 0, 0, 0, 0) := by decide +kernel
theorem f24_8 : mFetch 24 8 = some (.iconst (-1), 1, 0, 0, 0, 0) := by decide +kernel
theorem f24_9 : mFetch 24 9 = some (.ixor, 1, 0, 0, 0, 0) := by decide +kernel
theorem f24_10 : mFetch 24 10 = some (.iand, 1, 0, 0, 0, 0) := by decide +kernel
theorem f24_11 : mFetch 24 11 = some (.putfield 55, 3, 0, 5, 0, 1) := by decide +kernel
theorem f24_14 : mFetch 24 14 = some (.aload_n 0, 1, 0, 0, 0, 0) := by decide +kernel
theorem f24_15 : mFetch 24 15 = some (.getfield 33, 3, 0, 13, 2, 1) := by decide +kernel
theorem f24_18 : mFetch 24 18 = some (.iload_n 1, 1, 0, 0, 0, 0) := by decide +kernel
theorem f24_19 : mFetch 24 19 = some (.iconst 0, 1, 0, 0, 0, 0) := by decide +kernel
theorem f24_20 : mFetch 24 20 = some (.iastore, 1, 0, 0, 0, 0) := by decide +kernel
theorem f24_21 : mFetch 24 21 = some (.aload_n 0, 1, 0, 0, 0, 0) := by decide +kernel
theorem f24_22 : mFetch 24 22 = some (.getfield 36, 3, 0, 14, 2, 1) := by decide +kernel
theorem f24_25 : mFetch 24 25 = some (.iload_n 1, 1, 0, 0, 0, 0) := by decide +kernel
theorem f24_26 : mFetch 24 26 = some (.iconst 0, 1, 0, 0, 0, 0) := by decide +kernel
theorem f24_27 : mFetch 24 27 = some (.iastore, 1, 0, 0, 0, 0) := by decide +kernel
theorem f24_28 : mFetch 24 28 = some (.return_, 1, 0, 0, 0, 0) := by decide +kernel
theorem b24_0 {X : (Nat → Int) × Nat} {d : Nat} {s : mSt} {Q : mQ} {a0 : Nat} {x1 : Int} (h0 : isBd a0) (h_1 : 0 ≤ x1 ∧ x1 < 6) (h_2 : 0 ≤ x1 ∧ x1 < 6) (h_3 : Q none (uS (uS (uS s a0 5 (iAnd (s a0 5) (iXor (iShl 1 x1) (-1)))) (a0 + 8) x1.toNat 0) (a0 + 9) x1.toNat 0)) : Wp X d 24 0 [some (mR a0), some (mI x1)] [] s Q := Wp_step k24 f24_0 (Wp_step k24 f24_1 (Wp_step k24 f24_2 ⟨(bd_k h0), Wp_step k24 f24_5 (Wp_step k24 f24_6 (Wp_step k24 f24_7 (Wp_step k24 f24_8 (Wp_step k24 f24_9 (Wp_step k24 f24_10 (Wp_step k24 f24_11 ⟨(bd_k h0), Wp_step k24 f24_14 (Wp_step k24 f24_15 ⟨(bd_k h0), (a0 + 8), (bd_r13 h0), Wp_step k24 f24_18 (Wp_step k24 f24_19 (Wp_step k24 f24_20 ⟨6, (bd_a13 h0), h_1, Wp_step k24 f24_21 (Wp_step k24 f24_22 ⟨(bd_k h0), (a0 + 9), (bd_r14 h0), Wp_step k24 f24_25 (Wp_step k24 f24_26 (Wp_step k24 f24_27 ⟨6, (bd_a14 h0), h_2, Wp_step k24 f24_28 ⟨⟨rfl, Or.inl rfl⟩, h_3⟩⟩))⟩)⟩))⟩)⟩))))))⟩))
theorem e24 {X : (Nat → Int) × Nat} {d : Nat} {s : mSt} {Q : mQ} {a0 : Nat} {x1 : Int} (h : Wp X d 24 0 [some (mR a0), some (mI x1)] [] s Q) : Sp X d 24 [mR a0, mI x1] s Q := Sp_of (show mCe 24 = 0 by decide +kernel) (by rw [show mML 24 = 2 by decide +kernel]; rfl) (Nat.le_trans (Nat.le_of_ble_eq_true (show Nat.ble (mArgs _).length 2 = true from rfl)) (show 2 ≤ mML 24 by decide +kernel)) h
-- 25 ClashDay$Board.canBeLater(I)Z
theorem k25 : mRk 25 = 2 := by decide +kernel
theorem f25_0 : mFetch 25 0 = some (.aload_n 0, 1, 0, 0, 0, 0) := by decide +kernel
theorem f25_1 : mFetch 25 1 = some (.iload_n 1, 1, 0, 0, 0, 0) := by decide +kernel
theorem f25_2 : mFetch 25 2 = some (.invokevirtual 100, 3, 7, 0, 2, 0) := by decide +kernel
theorem f25_5 : mFetch 25 5 = some (.ifCond .eq 18, 3, 23, 0, 0, 0) := by decide +kernel
theorem f25_8 : mFetch 25 8 = some (.aload_n 0, 1, 0, 0, 0, 0) := by decide +kernel
theorem f25_9 : mFetch 25 9 = some (.getfield 9, 3, 0, 6, 2, 1) := by decide +kernel
theorem f25_12 : mFetch 25 12 = some (.iload_n 1, 1, 0, 0, 0, 0) := by decide +kernel
theorem f25_13 : mFetch 25 13 = some (.iaload, 1, 0, 0, 0, 0) := by decide +kernel
theorem f25_14 : mFetch 25 14 = some (.bipush 15, 2, 0, 0, 0, 0) := by decide +kernel
theorem f25_16 : mFetch 25 16 = some (.if_icmp .ge 7, 3, 23, 0, 0, 0) := by decide +kernel
theorem f25_19 : mFetch 25 19 = some (.iconst 1, 1, 0, 0, 0, 0) := by decide +kernel
theorem f25_20 : mFetch 25 20 = some (.goto 4, 3, 24, 0, 0, 0) := by decide +kernel
theorem f25_23 : mFetch 25 23 = some (.iconst 0, 1, 0, 0, 0, 0) := by decide +kernel
theorem f25_24 : mFetch 25 24 = some (.ireturn, 1, 0, 0, 0, 0) := by decide +kernel
theorem b25_0 {X : (Nat → Int) × Nat} {d : Nat} {s : mSt} {Q : mQ} {a0 : Nat} {x1 : Int} (h0 : isBd a0) (h_1 : Sp X d 7 [mR a0, mI x1] s (fun r s' => ∃ v : Int, r = some (mI v) ∧ Wp X (d + 1) 25 5 [some (mR a0), some (mI x1)] [mI v] s' Q)) : Wp X (d + 1) 25 0 [some (mR a0), some (mI x1)] [] s Q := Wp_step k25 f25_0 (Wp_step k25 f25_1 (Wp_step k25 f25_2 ⟨⟨(bd_k h0), Nat.le_of_ble_eq_true rfl⟩, Nat.le_refl _, _, rfl, Sp_E h_1⟩))
theorem b25_5 {X : (Nat → Int) × Nat} {d : Nat} {s : mSt} {Q : mQ} {a0 : Nat} {x1 : Int} {xt0 : Int} (h0 : isBd a0) (h_1 : xt0 = 0 → Wp X d 25 23 [some (mR a0), some (mI x1)] [] s Q) (h_2 : ¬ xt0 = 0 → Wp X d 25 8 [some (mR a0), some (mI x1)] [] s Q) : Wp X d 25 5 [some (mR a0), some (mI x1)] [mI xt0] s Q := Wp_step k25 f25_5 ⟨h_1, h_2⟩
theorem b25_8 {X : (Nat → Int) × Nat} {d : Nat} {s : mSt} {Q : mQ} {a0 : Nat} {x1 : Int} (h0 : isBd a0) (h_1 : 0 ≤ x1 ∧ x1 < 5) (h_2 : 15 ≤ (s (a0 + 1) x1.toNat) → Wp X d 25 23 [some (mR a0), some (mI x1)] [] s Q) (h_3 : ¬ 15 ≤ (s (a0 + 1) x1.toNat) → Wp X d 25 19 [some (mR a0), some (mI x1)] [] s Q) : Wp X d 25 8 [some (mR a0), some (mI x1)] [] s Q := Wp_step k25 f25_8 (Wp_step k25 f25_9 ⟨(bd_k h0), (a0 + 1), (bd_r6 h0), Wp_step k25 f25_12 (Wp_step k25 f25_13 ⟨5, (bd_a6 h0), h_1, Wp_step k25 f25_14 (Wp_step k25 f25_16 ⟨h_2, h_3⟩)⟩)⟩)
theorem b25_19 {X : (Nat → Int) × Nat} {d : Nat} {s : mSt} {Q : mQ} {a0 : Nat} {x1 : Int} (h0 : isBd a0) (h_1 : Wp X d 25 24 [some (mR a0), some (mI x1)] [mI 1] s Q) : Wp X d 25 19 [some (mR a0), some (mI x1)] [] s Q := Wp_step k25 f25_19 (Wp_step k25 f25_20 (h_1))
theorem b25_23 {X : (Nat → Int) × Nat} {d : Nat} {s : mSt} {Q : mQ} {a0 : Nat} {x1 : Int} (h0 : isBd a0) (h_1 : Wp X d 25 24 [some (mR a0), some (mI x1)] [mI 0] s Q) : Wp X d 25 23 [some (mR a0), some (mI x1)] [] s Q := Wp_step k25 f25_23 (h_1)
theorem b25_24 {X : (Nat → Int) × Nat} {d : Nat} {s : mSt} {Q : mQ} {a0 : Nat} {x1 : Int} {xt0 : Int} (h0 : isBd a0) (h_1 : Q (some (mI xt0)) s) (h_2 : xt0 = 0 ∨ xt0 = 1) : Wp X d 25 24 [some (mR a0), some (mI x1)] [mI xt0] s Q := Wp_step k25 f25_24 ⟨⟨rfl, h_2⟩, h_1⟩
theorem e25 {X : (Nat → Int) × Nat} {d : Nat} {s : mSt} {Q : mQ} {a0 : Nat} {x1 : Int} (h : Wp X d 25 0 [some (mR a0), some (mI x1)] [] s Q) : Sp X d 25 [mR a0, mI x1] s Q := Sp_of (show mCe 25 = 0 by decide +kernel) (by rw [show mML 25 = 2 by decide +kernel]; rfl) (Nat.le_trans (Nat.le_of_ble_eq_true (show Nat.ble (mArgs _).length 2 = true from rfl)) (show 2 ≤ mML 25 by decide +kernel)) h
-- 26 ClashDay$Board.postpone(II)V
theorem k26 : mRk 26 = 0 := by decide +kernel
theorem f26_0 : mFetch 26 0 = some (.aload_n 0, 1, 0, 0, 0, 0) := by decide +kernel
theorem f26_1 : mFetch 26 1 = some (.getfield 9, 3, 0, 6, 2, 1) := by decide +kernel
theorem f26_4 : mFetch 26 4 = some (.iload_n 1, 1, 0, 0, 0, 0) := by decide +kernel
theorem f26_5 : mFetch 26 5 = some (.aload_n 0, 1, 0, 0, 0, 0) := by decide +kernel
theorem f26_6 : mFetch 26 6 = some (.getfield 9, 3, 0, 6, 2, 1) := by decide +kernel
theorem f26_9 : mFetch 26 9 = some (.iload_n 1, 1, 0, 0, 0, 0) := by decide +kernel
theorem f26_10 : mFetch 26 10 = some (.iaload, 1, 0, 0, 0, 0) := by decide +kernel
theorem f26_11 : mFetch 26 11 = some (.iload_n 2, 1, 0, 0, 0, 0) := by decide +kernel
theorem f26_12 : mFetch 26 12 = some (.iadd, 1, 0, 0, 0, 0) := by decide +kernel
theorem f26_13 : mFetch 26 13 = some (.bipush 15, 2, 0, 0, 0, 0) := by decide +kernel
theorem f26_15 : mFetch 26 15 = some (.invokestatic 103, 3, (-6), 0, 0, 0) := by decide +kernel
theorem f26_18 : mFetch 26 18 = some (.iastore, 1, 0, 0, 0, 0) := by decide +kernel
theorem f26_19 : mFetch 26 19 = some (.iconst 0, 1, 0, 0, 0, 0) := by decide +kernel
theorem f26_20 : mFetch 26 20 = some (.istore_n 3, 1, 0, 0, 0, 0) := by decide +kernel
theorem f26_21 : mFetch 26 21 = some (.iload_n 3, 1, 0, 0, 0, 0) := by decide +kernel
theorem f26_22 : mFetch 26 22 = some (.aload_n 0, 1, 0, 0, 0, 0) := by decide +kernel
theorem f26_23 : mFetch 26 23 = some (.getfield 49, 3, 0, 3, 0, 1) := by decide +kernel
theorem f26_26 : mFetch 26 26 = some (.if_icmp .ge 23, 3, 49, 0, 0, 0) := by decide +kernel
theorem f26_29 : mFetch 26 29 = some (.aload_n 0, 1, 0, 0, 0, 0) := by decide +kernel
theorem f26_30 : mFetch 26 30 = some (.iload_n 3, 1, 0, 0, 0, 0) := by decide +kernel
theorem f26_31 : mFetch 26 31 = some (.iload_n 1, 1, 0, 0, 0, 0) := by decide +kernel
theorem f26_32 : mFetch 26 32 = some (.invokevirtual 68, 3, 12, 0, 3, 0) := by decide +kernel
theorem f26_35 : mFetch 26 35 = some (.ifCond .eq 8, 3, 43, 0, 0, 0) := by decide +kernel
theorem f26_38 : mFetch 26 38 = some (.aload_n 0, 1, 0, 0, 0, 0) := by decide +kernel
theorem f26_39 : mFetch 26 39 = some (.iload_n 3, 1, 0, 0, 0, 0) := by decide +kernel
theorem f26_40 : mFetch 26 40 = some (.invokevirtual 106, 3, 24, 0, 2, 0) := by decide +kernel
theorem f26_43 : mFetch 26 43 = some (.iinc 3 1, 3, 0, 0, 0, 0) := by decide +kernel
theorem f26_46 : mFetch 26 46 = some (.goto (-25), 3, 21, 0, 0, 0) := by decide +kernel
theorem f26_49 : mFetch 26 49 = some (.return_, 1, 0, 0, 0, 0) := by decide +kernel
theorem b26_0 {X : (Nat → Int) × Nat} {d : Nat} {s : mSt} {Q : mQ} {a0 : Nat} {x1 : Int} {x2 : Int} {l3 : Option mV} (h0 : isBd a0) (h_1 : 0 ≤ x1 ∧ x1 < 5) (h_2 : 0 ≤ x1 ∧ x1 < 5) (h_3 : Wp X (d + 1) 26 21 [some (mR a0), some (mI x1), some (mI x2), some (mI 0)] [] (uS s (a0 + 1) x1.toNat (iMin (w32 ((s (a0 + 1) x1.toNat) + x2)) 15)) Q) : Wp X (d + 1) 26 0 [some (mR a0), some (mI x1), some (mI x2), l3] [] s Q := Wp_step k26 f26_0 (Wp_step k26 f26_1 ⟨(bd_k h0), (a0 + 1), (bd_r6 h0), Wp_step k26 f26_4 (Wp_step k26 f26_5 (Wp_step k26 f26_6 ⟨(bd_k h0), (a0 + 1), (bd_r6 h0), Wp_step k26 f26_9 (Wp_step k26 f26_10 ⟨5, (bd_a6 h0), h_1, Wp_step k26 f26_11 (Wp_step k26 f26_12 (Wp_step k26 f26_13 (Wp_step k26 f26_15 ⟨⟨Nat.succ_pos _, Nat.le_of_ble_eq_true rfl⟩, Wp_step k26 f26_18 ⟨5, (bd_a6 h0), h_2, Wp_step k26 f26_19 (Wp_step k26 f26_20 (h_3))⟩⟩)))⟩)⟩))⟩)
theorem b26_21 {X : (Nat → Int) × Nat} {d : Nat} {s : mSt} {Q : mQ} {a0 : Nat} {x1 : Int} {x2 : Int} {x3 : Int} (h0 : isBd a0) (h_1 : (s a0 3) ≤ x3 → Wp X d 26 49 [some (mR a0), some (mI x1), some (mI x2), some (mI x3)] [] s Q) (h_2 : ¬ (s a0 3) ≤ x3 → Wp X d 26 29 [some (mR a0), some (mI x1), some (mI x2), some (mI x3)] [] s Q) : Wp X d 26 21 [some (mR a0), some (mI x1), some (mI x2), some (mI x3)] [] s Q := Wp_step k26 f26_21 (Wp_step k26 f26_22 (Wp_step k26 f26_23 ⟨(bd_k h0), Wp_step k26 f26_26 ⟨h_1, h_2⟩⟩))
theorem b26_29 {X : (Nat → Int) × Nat} {d : Nat} {s : mSt} {Q : mQ} {a0 : Nat} {x1 : Int} {x2 : Int} {x3 : Int} (h0 : isBd a0) (h_1 : Sp X d 12 [mR a0, mI x3, mI x1] s (fun r s' => ∃ v : Int, r = some (mI v) ∧ Wp X (d + 1) 26 35 [some (mR a0), some (mI x1), some (mI x2), some (mI x3)] [mI v] s' Q)) : Wp X (d + 1) 26 29 [some (mR a0), some (mI x1), some (mI x2), some (mI x3)] [] s Q := Wp_step k26 f26_29 (Wp_step k26 f26_30 (Wp_step k26 f26_31 (Wp_step k26 f26_32 ⟨⟨(bd_k h0), Nat.le_of_ble_eq_true rfl⟩, Nat.le_refl _, _, rfl, Sp_E h_1⟩)))
theorem b26_35 {X : (Nat → Int) × Nat} {d : Nat} {s : mSt} {Q : mQ} {a0 : Nat} {x1 : Int} {x2 : Int} {x3 : Int} {xt0 : Int} (h0 : isBd a0) (h_1 : xt0 = 0 → Wp X d 26 43 [some (mR a0), some (mI x1), some (mI x2), some (mI x3)] [] s Q) (h_2 : ¬ xt0 = 0 → Wp X d 26 38 [some (mR a0), some (mI x1), some (mI x2), some (mI x3)] [] s Q) : Wp X d 26 35 [some (mR a0), some (mI x1), some (mI x2), some (mI x3)] [mI xt0] s Q := Wp_step k26 f26_35 ⟨h_1, h_2⟩
theorem b26_38 {X : (Nat → Int) × Nat} {d : Nat} {s : mSt} {Q : mQ} {a0 : Nat} {x1 : Int} {x2 : Int} {x3 : Int} (h0 : isBd a0) (h_1 : Sp X d 24 [mR a0, mI x3] s (fun r s' => r = none ∧ Wp X (d + 1) 26 43 [some (mR a0), some (mI x1), some (mI x2), some (mI x3)] [] s' Q)) : Wp X (d + 1) 26 38 [some (mR a0), some (mI x1), some (mI x2), some (mI x3)] [] s Q := Wp_step k26 f26_38 (Wp_step k26 f26_39 (Wp_step k26 f26_40 ⟨⟨(bd_k h0), Nat.le_of_ble_eq_true rfl⟩, Nat.le_refl _, _, rfl, Sp_V h_1⟩))
theorem b26_43 {X : (Nat → Int) × Nat} {d : Nat} {s : mSt} {Q : mQ} {a0 : Nat} {x1 : Int} {x2 : Int} {x3 : Int} (h0 : isBd a0) (h_1 : Wp X d 26 21 [some (mR a0), some (mI x1), some (mI x2), some (mI (w32 (x3 + 1)))] [] s Q) : Wp X d 26 43 [some (mR a0), some (mI x1), some (mI x2), some (mI x3)] [] s Q := Wp_step k26 f26_43 (Wp_step k26 f26_46 (h_1))
theorem b26_49 {X : (Nat → Int) × Nat} {d : Nat} {s : mSt} {Q : mQ} {a0 : Nat} {x1 : Int} {x2 : Int} {x3 : Int} (h0 : isBd a0) (h_1 : Q none s) : Wp X d 26 49 [some (mR a0), some (mI x1), some (mI x2), some (mI x3)] [] s Q := Wp_step k26 f26_49 ⟨⟨rfl, Or.inl rfl⟩, h_1⟩
theorem e26 {X : (Nat → Int) × Nat} {d : Nat} {s : mSt} {Q : mQ} {a0 : Nat} {x1 : Int} {x2 : Int} (h : Wp X d 26 0 [some (mR a0), some (mI x1), some (mI x2), none] [] s Q) : Sp X d 26 [mR a0, mI x1, mI x2] s Q := Sp_of (show mCe 26 = 0 by decide +kernel) (by rw [show mML 26 = 4 by decide +kernel]; rfl) (Nat.le_trans (Nat.le_of_ble_eq_true (show Nat.ble (mArgs _).length 4 = true from rfl)) (show 4 ≤ mML 26 by decide +kernel)) h
-- 27 ClashDay$Board.watchersIn(II)I
theorem k27 : mRk 27 = 1 := by decide +kernel
theorem f27_0 : mFetch 27 0 = some (.iconst 0, 1, 0, 0, 0, 0) := by decide +kernel
theorem f27_1 : mFetch 27 1 = some (.istore_n 3, 1, 0, 0, 0, 0) := by decide +kernel
theorem f27_2 : mFetch 27 2 = some (.iconst 0, 1, 0, 0, 0, 0) := by decide +kernel
theorem f27_3 : mFetch 27 3 = some (.istore 4, 2, 0, 0, 0, 0) := by decide +kernel
theorem f27_5 : mFetch 27 5 = some (.iload 4, 2, 0, 0, 0, 0) := by decide +kernel
theorem f27_7 : mFetch 27 7 = some (.aload_n 0, 1, 0, 0, 0, 0) := by decide +kernel
theorem f27_8 : mFetch 27 8 = some (.getfield 49, 3, 0, 3, 0, 1) := by decide +kernel
theorem f27_11 : mFetch 27 11 = some (.if_icmp .ge 22, 3, 33, 0, 0, 0) := by decide +kernel
theorem f27_14 : mFetch 27 14 = some (.aload_n 0, 1, 0, 0, 0, 0) := by decide +kernel
theorem f27_15 : mFetch 27 15 = some (.iload 4, 2, 0, 0, 0, 0) := by decide +kernel
theorem f27_17 : mFetch 27 17 = some (.iload_n 1, 1, 0, 0, 0, 0) := by decide +kernel
theorem f27_18 : mFetch 27 18 = some (.invokevirtual 110, 3, 20, 0, 3, 0) := by decide +kernel
theorem f27_21 : mFetch 27 21 = some (.ifCond .eq 6, 3, 27, 0, 0, 0) := by decide +kernel
theorem f27_24 : mFetch 27 24 = some (.iinc 3 1, 3, 0, 0, 0, 0) := by decide +kernel
theorem f27_27 : mFetch 27 27 = some (.iinc 4 1, 3, 0, 0, 0, 0) := by decide +kernel
theorem f27_30 : mFetch 27 30 = some (.goto (-25), 3, 5, 0, 0, 0) := by decide +kernel
theorem f27_33 : mFetch 27 33 = some (.iload_n 2, 1, 0, 0, 0, 0) := by decide +kernel
theorem f27_34 : mFetch 27 34 = some (.iconst 1, 1, 0, 0, 0, 0) := by decide +kernel
theorem f27_35 : mFetch 27 35 = some (.if_icmp .ge 7, 3, 42, 0, 0, 0) := by decide +kernel
theorem f27_38 : mFetch 27 38 = some (.iload_n 3, 1, 0, 0, 0, 0) := by decide +kernel
theorem f27_39 : mFetch 27 39 = some (.goto 10, 3, 49, 0, 0, 0) := by decide +kernel
theorem f27_42 : mFetch 27 42 = some (.iload_n 3, 1, 0, 0, 0, 0) := by decide +kernel
theorem f27_43 : mFetch 27 43 = some (.iload_n 2, 1, 0, 0, 0, 0) := by decide +kernel
theorem f27_44 : mFetch 27 44 = some (.iadd, 1, 0, 0, 0, 0) := by decide +kernel
theorem f27_45 : mFetch 27 45 = some (.iconst 1, 1, 0, 0, 0, 0) := by decide +kernel
theorem f27_46 : mFetch 27 46 = some (.isub, 1, 0, 0, 0, 0) := by decide +kernel
theorem f27_47 : mFetch 27 47 = some (.iload_n 2, 1, 0, 0, 0, 0) := by decide +kernel
theorem f27_48 : mFetch 27 48 = some (.idiv, 1, 0, 0, 0, 0) := by decide +kernel
theorem f27_49 : mFetch 27 49 = some (.ireturn, 1, 0, 0, 0, 0) := by decide +kernel
theorem b27_0 {X : (Nat → Int) × Nat} {d : Nat} {s : mSt} {Q : mQ} {a0 : Nat} {x1 : Int} {x2 : Int} {l3 : Option mV} {l4 : Option mV} (h0 : isBd a0) (h_1 : Wp X d 27 5 [some (mR a0), some (mI x1), some (mI x2), some (mI 0), some (mI 0)] [] s Q) : Wp X d 27 0 [some (mR a0), some (mI x1), some (mI x2), l3, l4] [] s Q := Wp_step k27 f27_0 (Wp_step k27 f27_1 (Wp_step k27 f27_2 (Wp_step k27 f27_3 (h_1))))
theorem b27_5 {X : (Nat → Int) × Nat} {d : Nat} {s : mSt} {Q : mQ} {a0 : Nat} {x1 : Int} {x2 : Int} {x3 : Int} {x4 : Int} (h0 : isBd a0) (h_1 : (s a0 3) ≤ x4 → Wp X d 27 33 [some (mR a0), some (mI x1), some (mI x2), some (mI x3), some (mI x4)] [] s Q) (h_2 : ¬ (s a0 3) ≤ x4 → Wp X d 27 14 [some (mR a0), some (mI x1), some (mI x2), some (mI x3), some (mI x4)] [] s Q) : Wp X d 27 5 [some (mR a0), some (mI x1), some (mI x2), some (mI x3), some (mI x4)] [] s Q := Wp_step k27 f27_5 (Wp_step k27 f27_7 (Wp_step k27 f27_8 ⟨(bd_k h0), Wp_step k27 f27_11 ⟨h_1, h_2⟩⟩))
theorem b27_14 {X : (Nat → Int) × Nat} {d : Nat} {s : mSt} {Q : mQ} {a0 : Nat} {x1 : Int} {x2 : Int} {x3 : Int} {x4 : Int} (h0 : isBd a0) (h_1 : Sp X d 20 [mR a0, mI x4, mI x1] s (fun r s' => ∃ v : Int, r = some (mI v) ∧ Wp X (d + 1) 27 21 [some (mR a0), some (mI x1), some (mI x2), some (mI x3), some (mI x4)] [mI v] s' Q)) : Wp X (d + 1) 27 14 [some (mR a0), some (mI x1), some (mI x2), some (mI x3), some (mI x4)] [] s Q := Wp_step k27 f27_14 (Wp_step k27 f27_15 (Wp_step k27 f27_17 (Wp_step k27 f27_18 ⟨⟨(bd_k h0), Nat.le_of_ble_eq_true rfl⟩, Nat.le_refl _, _, rfl, Sp_E h_1⟩)))
theorem b27_21 {X : (Nat → Int) × Nat} {d : Nat} {s : mSt} {Q : mQ} {a0 : Nat} {x1 : Int} {x2 : Int} {x3 : Int} {x4 : Int} {xt0 : Int} (h0 : isBd a0) (h_1 : xt0 = 0 → Wp X d 27 27 [some (mR a0), some (mI x1), some (mI x2), some (mI x3), some (mI x4)] [] s Q) (h_2 : ¬ xt0 = 0 → Wp X d 27 24 [some (mR a0), some (mI x1), some (mI x2), some (mI x3), some (mI x4)] [] s Q) : Wp X d 27 21 [some (mR a0), some (mI x1), some (mI x2), some (mI x3), some (mI x4)] [mI xt0] s Q := Wp_step k27 f27_21 ⟨h_1, h_2⟩
theorem b27_24 {X : (Nat → Int) × Nat} {d : Nat} {s : mSt} {Q : mQ} {a0 : Nat} {x1 : Int} {x2 : Int} {x3 : Int} {x4 : Int} (h0 : isBd a0) (h_1 : Wp X d 27 27 [some (mR a0), some (mI x1), some (mI x2), some (mI (w32 (x3 + 1))), some (mI x4)] [] s Q) : Wp X d 27 24 [some (mR a0), some (mI x1), some (mI x2), some (mI x3), some (mI x4)] [] s Q := Wp_step k27 f27_24 (h_1)
theorem b27_27 {X : (Nat → Int) × Nat} {d : Nat} {s : mSt} {Q : mQ} {a0 : Nat} {x1 : Int} {x2 : Int} {x3 : Int} {x4 : Int} (h0 : isBd a0) (h_1 : Wp X d 27 5 [some (mR a0), some (mI x1), some (mI x2), some (mI x3), some (mI (w32 (x4 + 1)))] [] s Q) : Wp X d 27 27 [some (mR a0), some (mI x1), some (mI x2), some (mI x3), some (mI x4)] [] s Q := Wp_step k27 f27_27 (Wp_step k27 f27_30 (h_1))
theorem b27_33 {X : (Nat → Int) × Nat} {d : Nat} {s : mSt} {Q : mQ} {a0 : Nat} {x1 : Int} {x2 : Int} {x3 : Int} {x4 : Int} (h0 : isBd a0) (h_1 : 1 ≤ x2 → Wp X d 27 42 [some (mR a0), some (mI x1), some (mI x2), some (mI x3), some (mI x4)] [] s Q) (h_2 : ¬ 1 ≤ x2 → Wp X d 27 38 [some (mR a0), some (mI x1), some (mI x2), some (mI x3), some (mI x4)] [] s Q) : Wp X d 27 33 [some (mR a0), some (mI x1), some (mI x2), some (mI x3), some (mI x4)] [] s Q := Wp_step k27 f27_33 (Wp_step k27 f27_34 (Wp_step k27 f27_35 ⟨h_1, h_2⟩))
theorem b27_38 {X : (Nat → Int) × Nat} {d : Nat} {s : mSt} {Q : mQ} {a0 : Nat} {x1 : Int} {x2 : Int} {x3 : Int} {x4 : Int} (h0 : isBd a0) (h_1 : Wp X d 27 49 [some (mR a0), some (mI x1), some (mI x2), some (mI x3), some (mI x4)] [mI x3] s Q) : Wp X d 27 38 [some (mR a0), some (mI x1), some (mI x2), some (mI x3), some (mI x4)] [] s Q := Wp_step k27 f27_38 (Wp_step k27 f27_39 (h_1))
theorem b27_42 {X : (Nat → Int) × Nat} {d : Nat} {s : mSt} {Q : mQ} {a0 : Nat} {x1 : Int} {x2 : Int} {x3 : Int} {x4 : Int} (h0 : isBd a0) (h_1 : x2 ≠ 0) (h_2 : Wp X d 27 49 [some (mR a0), some (mI x1), some (mI x2), some (mI x3), some (mI x4)] [mI (w32 (Int.tdiv (w32 ((w32 (x3 + x2)) - 1)) x2))] s Q) : Wp X d 27 42 [some (mR a0), some (mI x1), some (mI x2), some (mI x3), some (mI x4)] [] s Q := Wp_step k27 f27_42 (Wp_step k27 f27_43 (Wp_step k27 f27_44 (Wp_step k27 f27_45 (Wp_step k27 f27_46 (Wp_step k27 f27_47 (Wp_step k27 f27_48 ⟨h_1, h_2⟩))))))
theorem b27_49 {X : (Nat → Int) × Nat} {d : Nat} {s : mSt} {Q : mQ} {a0 : Nat} {x1 : Int} {x2 : Int} {x3 : Int} {x4 : Int} {xt0 : Int} (h0 : isBd a0) (h_1 : Q (some (mI xt0)) s) : Wp X d 27 49 [some (mR a0), some (mI x1), some (mI x2), some (mI x3), some (mI x4)] [mI xt0] s Q := Wp_step k27 f27_49 ⟨⟨rfl, trivial⟩, h_1⟩
theorem e27 {X : (Nat → Int) × Nat} {d : Nat} {s : mSt} {Q : mQ} {a0 : Nat} {x1 : Int} {x2 : Int} (h : Wp X d 27 0 [some (mR a0), some (mI x1), some (mI x2), none, none] [] s Q) : Sp X d 27 [mR a0, mI x1, mI x2] s Q := Sp_of (show mCe 27 = 0 by decide +kernel) (by rw [show mML 27 = 5 by decide +kernel]; rfl) (Nat.le_trans (Nat.le_of_ble_eq_true (show Nat.ble (mArgs _).length 5 = true from rfl)) (show 5 ≤ mML 27 by decide +kernel)) h
-- 28 ClashDay$Board.mostKeptSlot(I)I
theorem k28 : mRk 28 = 1 := by decide +kernel
theorem f28_0 : mFetch 28 0 = some (.iconst 0, 1, 0, 0, 0, 0) := by decide +kernel
theorem f28_1 : mFetch 28 1 = some (.istore_n 2, 1, 0, 0, 0, 0) := by decide +kernel
theorem f28_2 : mFetch 28 2 = some (.iconst 1, 1, 0, 0, 0, 0) := by decide +kernel
theorem f28_3 : mFetch 28 3 = some (.istore_n 3, 1, 0, 0, 0, 0) := by decide +kernel
theorem f28_4 : mFetch 28 4 = some (.iload_n 3, 1, 0, 0, 0, 0) := by decide +kernel
theorem f28_5 : mFetch 28 5 = some (.bipush 30, 2, 0, 0, 0, 0) := by decide +kernel
theorem f28_7 : mFetch 28 7 = some (.if_icmp .ge 26, 3, 33, 0, 0, 0) := by decide +kernel
theorem f28_10 : mFetch 28 10 = some (.aload_n 0, 1, 0, 0, 0, 0) := by decide +kernel
theorem f28_11 : mFetch 28 11 = some (.iload_n 3, 1, 0, 0, 0, 0) := by decide +kernel
theorem f28_12 : mFetch 28 12 = some (.iload_n 1, 1, 0, 0, 0, 0) := by decide +kernel
theorem f28_13 : mFetch 28 13 = some (.invokevirtual 113, 3, 27, 0, 3, 0) := by decide +kernel
theorem f28_16 : mFetch 28 16 = some (.aload_n 0, 1, 0, 0, 0, 0) := by decide +kernel
theorem f28_17 : mFetch 28 17 = some (.iload_n 2, 1, 0, 0, 0, 0) := by decide +kernel
theorem f28_18 : mFetch 28 18 = some (.iload_n 1, 1, 0, 0, 0, 0) := by decide +kernel
theorem f28_19 : mFetch 28 19 = some (.invokevirtual 113, 3, 27, 0, 3, 0) := by decide +kernel
theorem f28_22 : mFetch 28 22 = some (.if_icmp .le 5, 3, 27, 0, 0, 0) := by decide +kernel
theorem f28_25 : mFetch 28 25 = some (.iload_n 3, 1, 0, 0, 0, 0) := by decide +kernel
theorem f28_26 : mFetch 28 26 = some (.istore_n 2, 1, 0, 0, 0, 0) := by decide +kernel
theorem f28_27 : mFetch 28 27 = some (.iinc 3 1, 3, 0, 0, 0, 0) := by decide +kernel
theorem f28_30 : mFetch 28 30 = some (.goto (-26), 3, 4, 0, 0, 0) := by decide +kernel
theorem f28_33 : mFetch 28 33 = some (.iload_n 2, 1, 0, 0, 0, 0) := by decide +kernel
theorem f28_34 : mFetch 28 34 = some (.ireturn, 1, 0, 0, 0, 0) := by decide +kernel
theorem b28_0 {X : (Nat → Int) × Nat} {d : Nat} {s : mSt} {Q : mQ} {a0 : Nat} {x1 : Int} {l2 : Option mV} {l3 : Option mV} (h0 : isBd a0) (h_1 : Wp X d 28 4 [some (mR a0), some (mI x1), some (mI 0), some (mI 1)] [] s Q) : Wp X d 28 0 [some (mR a0), some (mI x1), l2, l3] [] s Q := Wp_step k28 f28_0 (Wp_step k28 f28_1 (Wp_step k28 f28_2 (Wp_step k28 f28_3 (h_1))))
theorem b28_4 {X : (Nat → Int) × Nat} {d : Nat} {s : mSt} {Q : mQ} {a0 : Nat} {x1 : Int} {x2 : Int} {x3 : Int} (h0 : isBd a0) (h_1 : 30 ≤ x3 → Wp X d 28 33 [some (mR a0), some (mI x1), some (mI x2), some (mI x3)] [] s Q) (h_2 : ¬ 30 ≤ x3 → Wp X d 28 10 [some (mR a0), some (mI x1), some (mI x2), some (mI x3)] [] s Q) : Wp X d 28 4 [some (mR a0), some (mI x1), some (mI x2), some (mI x3)] [] s Q := Wp_step k28 f28_4 (Wp_step k28 f28_5 (Wp_step k28 f28_7 ⟨h_1, h_2⟩))
theorem b28_10 {X : (Nat → Int) × Nat} {d : Nat} {s : mSt} {Q : mQ} {a0 : Nat} {x1 : Int} {x2 : Int} {x3 : Int} (h0 : isBd a0) (h_1 : Sp X d 27 [mR a0, mI x3, mI x1] s (fun r s' => ∃ v : Int, r = some (mI v) ∧ Wp X (d + 1) 28 16 [some (mR a0), some (mI x1), some (mI x2), some (mI x3)] [mI v] s' Q)) : Wp X (d + 1) 28 10 [some (mR a0), some (mI x1), some (mI x2), some (mI x3)] [] s Q := Wp_step k28 f28_10 (Wp_step k28 f28_11 (Wp_step k28 f28_12 (Wp_step k28 f28_13 ⟨⟨(bd_k h0), Nat.le_of_ble_eq_true rfl⟩, Nat.le_refl _, _, rfl, Sp_E h_1⟩)))
theorem b28_16 {X : (Nat → Int) × Nat} {d : Nat} {s : mSt} {Q : mQ} {a0 : Nat} {x1 : Int} {x2 : Int} {x3 : Int} {xt0 : Int} (h0 : isBd a0) (h_1 : Sp X d 27 [mR a0, mI x2, mI x1] s (fun r s' => ∃ v : Int, r = some (mI v) ∧ Wp X (d + 1) 28 22 [some (mR a0), some (mI x1), some (mI x2), some (mI x3)] [mI v, mI xt0] s' Q)) : Wp X (d + 1) 28 16 [some (mR a0), some (mI x1), some (mI x2), some (mI x3)] [mI xt0] s Q := Wp_step k28 f28_16 (Wp_step k28 f28_17 (Wp_step k28 f28_18 (Wp_step k28 f28_19 ⟨⟨(bd_k h0), Nat.le_of_ble_eq_true rfl⟩, Nat.le_refl _, _, rfl, Sp_E h_1⟩)))
theorem b28_22 {X : (Nat → Int) × Nat} {d : Nat} {s : mSt} {Q : mQ} {a0 : Nat} {x1 : Int} {x2 : Int} {x3 : Int} {xt0 : Int} {xt1 : Int} (h0 : isBd a0) (h_1 : xt0 ≤ xt1 → Wp X d 28 27 [some (mR a0), some (mI x1), some (mI x2), some (mI x3)] [] s Q) (h_2 : ¬ xt0 ≤ xt1 → Wp X d 28 25 [some (mR a0), some (mI x1), some (mI x2), some (mI x3)] [] s Q) : Wp X d 28 22 [some (mR a0), some (mI x1), some (mI x2), some (mI x3)] [mI xt1, mI xt0] s Q := Wp_step k28 f28_22 ⟨h_1, h_2⟩
theorem b28_25 {X : (Nat → Int) × Nat} {d : Nat} {s : mSt} {Q : mQ} {a0 : Nat} {x1 : Int} {x2 : Int} {x3 : Int} (h0 : isBd a0) (h_1 : Wp X d 28 27 [some (mR a0), some (mI x1), some (mI x3), some (mI x3)] [] s Q) : Wp X d 28 25 [some (mR a0), some (mI x1), some (mI x2), some (mI x3)] [] s Q := Wp_step k28 f28_25 (Wp_step k28 f28_26 (h_1))
theorem b28_27 {X : (Nat → Int) × Nat} {d : Nat} {s : mSt} {Q : mQ} {a0 : Nat} {x1 : Int} {x2 : Int} {x3 : Int} (h0 : isBd a0) (h_1 : Wp X d 28 4 [some (mR a0), some (mI x1), some (mI x2), some (mI (w32 (x3 + 1)))] [] s Q) : Wp X d 28 27 [some (mR a0), some (mI x1), some (mI x2), some (mI x3)] [] s Q := Wp_step k28 f28_27 (Wp_step k28 f28_30 (h_1))
theorem b28_33 {X : (Nat → Int) × Nat} {d : Nat} {s : mSt} {Q : mQ} {a0 : Nat} {x1 : Int} {x2 : Int} {x3 : Int} (h0 : isBd a0) (h_1 : Q (some (mI x2)) s) : Wp X d 28 33 [some (mR a0), some (mI x1), some (mI x2), some (mI x3)] [] s Q := Wp_step k28 f28_33 (Wp_step k28 f28_34 ⟨⟨rfl, trivial⟩, h_1⟩)
theorem e28 {X : (Nat → Int) × Nat} {d : Nat} {s : mSt} {Q : mQ} {a0 : Nat} {x1 : Int} (h : Wp X d 28 0 [some (mR a0), some (mI x1), none, none] [] s Q) : Sp X d 28 [mR a0, mI x1] s Q := Sp_of (show mCe 28 = 0 by decide +kernel) (by rw [show mML 28 = 4 by decide +kernel]; rfl) (Nat.le_trans (Nat.le_of_ble_eq_true (show Nat.ble (mArgs _).length 4 = true from rfl)) (show 4 ≤ mML 28 by decide +kernel)) h
