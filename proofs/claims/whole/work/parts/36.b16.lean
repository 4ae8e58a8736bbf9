-- 243 ClashDayModel.plansBy(II)Z
theorem k243 : mRk 243 = 2 := by decide +kernel
theorem f243_0 : mFetch 243 0 = some (.aload_n 0, 1, 0, 0, 0, 0) := by decide +kernel
theorem f243_1 : mFetch 243 1 = some (.iconst 0, 1, 0, 0, 0, 0) := by decide +kernel
theorem f243_2 : mFetch 243 2 = some (.putfield 362, 3, 12, 28, 0, 1) := by decide +kernel
theorem f243_5 : mFetch 243 5 = some (.aload_n 0, 1, 0, 0, 0, 0) := by decide +kernel
theorem f243_6 : mFetch 243 6 = some (.iconst 0, 1, 0, 0, 0, 0) := by decide +kernel
theorem f243_7 : mFetch 243 7 = some (.putfield 393, 3, 12, 32, 0, 1) := by decide +kernel
theorem f243_10 : mFetch 243 10 = some (.iconst 0, 1, 0, 0, 0, 0) := by decide +kernel
theorem f243_11 : mFetch 243 11 = some (.istore_n 3, 1, 0, 0, 0, 0) := by decide +kernel
theorem f243_12 : mFetch 243 12 = some (.iload_n 3, 1, 0, 0, 0, 0) := by decide +kernel
theorem f243_13 : mFetch 243 13 = some (.bipush 30, 2, 0, 0, 0, 0) := by decide +kernel
theorem f243_15 : mFetch 243 15 = some (.if_icmp .ge 20, 3, 35, 0, 0, 0) := by decide +kernel
theorem f243_18 : mFetch 243 18 = some (.aload_n 0, 1, 0, 0, 0, 0) := by decide +kernel
theorem f243_19 : mFetch 243 19 = some (.getfield 46, 3, 12, 23, 2, 1) := by decide +kernel
theorem f243_22 : mFetch 243 22 = some (.iload_n 3, 1, 0, 0, 0, 0) := by decide +kernel
theorem f243_23 : mFetch 243 23 = some (.aload_n 0, 1, 0, 0, 0, 0) := by decide +kernel
theorem f243_24 : mFetch 243 24 = some (.iload_n 3, 1, 0, 0, 0, 0) := by decide +kernel
theorem f243_25 : mFetch 243 25 = some (.invokevirtual 359, 3, 223, 0, 2, 12) := by decide +kernel
theorem f243_28 : mFetch 243 28 = some (.iastore, 1, 0, 0, 0, 0) := by decide +kernel
theorem f243_29 : mFetch 243 29 = some (.iinc 3 1, 3, 0, 0, 0, 0) := by decide +kernel
theorem f243_32 : mFetch 243 32 = some (.goto (-20), 3, 12, 0, 0, 0) := by decide +kernel
theorem f243_35 : mFetch 243 35 = some (.iconst 0, 1, 0, 0, 0, 0) := by decide +kernel
theorem f243_36 : mFetch 243 36 = some (.istore_n 3, 1, 0, 0, 0, 0) := by decide +kernel
theorem f243_37 : mFetch 243 37 = some (.iload_n 3, 1, 0, 0, 0, 0) := by decide +kernel
theorem f243_38 : mFetch 243 38 = some (.aload_n 0, 1, 0, 0, 0, 0) := by decide +kernel
theorem f243_39 : mFetch 243 39 = some (.getfield 39, 3, 12, 20, 2, 1) := by decide +kernel
theorem f243_42 : mFetch 243 42 = some (.iconst 3, 1, 0, 0, 0, 0) := by decide +kernel
theorem f243_43 : mFetch 243 43 = some (.iaload, 1, 0, 0, 0, 0) := by decide +kernel
theorem f243_44 : mFetch 243 44 = some (.if_icmp .ge 47, 3, 91, 0, 0, 0) := by decide +kernel
theorem f243_47 : mFetch 243 47 = some (.aload_n 0, 1, 0, 0, 0, 0) := by decide +kernel
theorem f243_48 : mFetch 243 48 = some (.getfield 58, 3, 12, 27, 2, 1) := by decide +kernel
theorem f243_51 : mFetch 243 51 = some (.iload_n 3, 1, 0, 0, 0, 0) := by decide +kernel
theorem f243_52 : mFetch 243 52 = some (.iconst (-1), 1, 0, 0, 0, 0) := by decide +kernel
theorem f243_53 : mFetch 243 53 = some (.iastore, 1, 0, 0, 0, 0) := by decide +kernel
theorem f243_54 : mFetch 243 54 = some (.iload_n 2, 1, 0, 0, 0, 0) := by decide +kernel
theorem f243_55 : mFetch 243 55 = some (.iload_n 3, 1, 0, 0, 0, 0) := by decide +kernel
theorem f243_56 : mFetch 243 56 = some (.invokestatic 318, 3, 168, 0, 2, 99) := by decide +kernel
theorem f243_59 : mFetch 243 59 = some (.ifCond .ne 6, 3, 65, 0, 0, 0) := by decide +kernel
theorem f243_62 : mFetch 243 62 = some (.goto 23, 3, 85, 0, 0, 0) := by decide +kernel
theorem f243_65 : mFetch 243 65 = some (.aload_n 0, 1, 0, 0, 0, 0) := by decide +kernel
theorem f243_66 : mFetch 243 66 = some (.getfield 49, 3, 12, 24, 2, 1) := by decide +kernel
theorem f243_69 : mFetch 243 69 = some (.aload_n 0, 1, 0, 0, 0, 0) := by decide +kernel
theorem f243_70 : mFetch 243 70 = some (.getfield 362, 3, 12, 28, 0, 1) := by decide +kernel
theorem f243_73 : mFetch 243 73 = some (.iload_n 3, 1, 0, 0, 0, 0) := by decide +kernel
theorem f243_74 : mFetch 243 74 = some (.iastore, 1, 0, 0, 0, 0) := by decide +kernel
theorem f243_75 : mFetch 243 75 = some (.aload_n 0, 1, 0, 0, 0, 0) := by decide +kernel
theorem f243_76 : mFetch 243 76 = some (.dup, 1, 0, 0, 0, 0) := by decide +kernel
theorem f243_77 : mFetch 243 77 = some (.getfield 362, 3, 12, 28, 0, 1) := by decide +kernel
theorem f243_80 : mFetch 243 80 = some (.iconst 1, 1, 0, 0, 0, 0) := by decide +kernel
theorem f243_81 : mFetch 243 81 = some (.iadd, 1, 0, 0, 0, 0) := by decide +kernel
theorem f243_82 : mFetch 243 82 = some (.putfield 362, 3, 12, 28, 0, 1) := by decide +kernel
theorem f243_85 : mFetch 243 85 = some (.iinc 3 1, 3, 0, 0, 0, 0) := by decide +kernel
theorem f243_88 : mFetch 243 88 = some (.goto (-51), 3, 37, 0, 0, 0) := by decide +kernel
theorem f243_91 : mFetch 243 91 = some (.iconst 0, 1, 0, 0, 0, 0) := by decide +kernel
theorem f243_92 : mFetch 243 92 = some (.istore_n 3, 1, 0, 0, 0, 0) := by decide +kernel
theorem f243_93 : mFetch 243 93 = some (.iload_n 3, 1, 0, 0, 0, 0) := by decide +kernel
theorem f243_94 : mFetch 243 94 = some (.aload_n 0, 1, 0, 0, 0, 0) := by decide +kernel
theorem f243_95 : mFetch 243 95 = some (.getfield 362, 3, 12, 28, 0, 1) := by decide +kernel
theorem f243_98 : mFetch 243 98 = some (.invokestatic 365, 3, 233, 0, 1, 99) := by decide +kernel
theorem f243_101 : mFetch 243 101 = some (.if_icmp .ge 116, 3, 217, 0, 0, 0) := by decide +kernel
theorem f243_104 : mFetch 243 104 = some (.aload_n 0, 1, 0, 0, 0, 0) := by decide +kernel
theorem f243_105 : mFetch 243 105 = some (.iload_n 3, 1, 0, 0, 0, 0) := by decide +kernel
theorem f243_106 : mFetch 243 106 = some (.invokevirtual 405, 3, 234, 0, 2, 12) := by decide +kernel
theorem f243_109 : mFetch 243 109 = some (.aload_n 0, 1, 0, 0, 0, 0) := by decide +kernel
theorem f243_110 : mFetch 243 110 = some (.iload_n 1, 1, 0, 0, 0, 0) := by decide +kernel
theorem f243_111 : mFetch 243 111 = some (.invokevirtual 408, 3, 238, 0, 2, 12) := by decide +kernel
theorem f243_114 : mFetch 243 114 = some (.ifCond .ne 6, 3, 120, 0, 0, 0) := by decide +kernel
theorem f243_117 : mFetch 243 117 = some (.goto 94, 3, 211, 0, 0, 0) := by decide +kernel
theorem f243_120 : mFetch 243 120 = some (.aload_n 0, 1, 0, 0, 0, 0) := by decide +kernel
theorem f243_121 : mFetch 243 121 = some (.dup, 1, 0, 0, 0, 0) := by decide +kernel
theorem f243_122 : mFetch 243 122 = some (.getfield 393, 3, 12, 32, 0, 1) := by decide +kernel
theorem f243_125 : mFetch 243 125 = some (.iconst 1, 1, 0, 0, 0, 0) := by decide +kernel
theorem f243_126 : mFetch 243 126 = some (.iadd, 1, 0, 0, 0, 0) := by decide +kernel
theorem f243_127 : mFetch 243 127 = some (.putfield 393, 3, 12, 32, 0, 1) := by decide +kernel
theorem f243_130 : mFetch 243 130 = some (.aload_n 0, 1, 0, 0, 0, 0) := by decide +kernel
theorem f243_131 : mFetch 243 131 = some (.iload_n 1, 1, 0, 0, 0, 0) := by decide +kernel
theorem f243_132 : mFetch 243 132 = some (.invokevirtual 411, 3, 241, 0, 2, 12) := by decide +kernel
theorem f243_135 : mFetch 243 135 = some (.aload_n 0, 1, 0, 0, 0, 0) := by decide +kernel
theorem f243_136 : mFetch 243 136 = some (.invokevirtual 414, 3, 242, 0, 1, 12) := by decide +kernel
theorem f243_139 : mFetch 243 139 = some (.ifCond .ne 6, 3, 145, 0, 0, 0) := by decide +kernel
theorem f243_142 : mFetch 243 142 = some (.goto 69, 3, 211, 0, 0, 0) := by decide +kernel
theorem f243_145 : mFetch 243 145 = some (.aload_n 0, 1, 0, 0, 0, 0) := by decide +kernel
theorem f243_146 : mFetch 243 146 = some (.aload_n 0, 1, 0, 0, 0, 0) := by decide +kernel
theorem f243_147 : mFetch 243 147 = some (.getfield 374, 3, 12, 33, 0, 1) := by decide +kernel
theorem f243_150 : mFetch 243 150 = some (.putfield 396, 3, 12, 29, 0, 1) := by decide +kernel
theorem f243_153 : mFetch 243 153 = some (.aload_n 0, 1, 0, 0, 0, 0) := by decide +kernel
theorem f243_154 : mFetch 243 154 = some (.aload_n 0, 1, 0, 0, 0, 0) := by decide +kernel
theorem f243_155 : mFetch 243 155 = some (.getfield 384, 3, 12, 34, 0, 1) := by decide +kernel
theorem f243_158 : mFetch 243 158 = some (.putfield 399, 3, 12, 30, 0, 1) := by decide +kernel
theorem f243_161 : mFetch 243 161 = some (.aload_n 0, 1, 0, 0, 0, 0) := by decide +kernel
theorem f243_162 : mFetch 243 162 = some (.aload_n 0, 1, 0, 0, 0, 0) := by decide +kernel
theorem f243_163 : mFetch 243 163 = some (.getfield 377, 3, 12, 35, 0, 1) := by decide +kernel
theorem f243_166 : mFetch 243 166 = some (.putfield 402, 3, 12, 31, 0, 1) := by decide +kernel
theorem f243_169 : mFetch 243 169 = some (.iconst 0, 1, 0, 0, 0, 0) := by decide +kernel
theorem f243_170 : mFetch 243 170 = some (.istore 4, 2, 0, 0, 0, 0) := by decide +kernel
theorem f243_172 : mFetch 243 172 = some (.iload 4, 2, 0, 0, 0, 0) := by decide +kernel
theorem f243_174 : mFetch 243 174 = some (.aload_n 0, 1, 0, 0, 0, 0) := by decide +kernel
theorem f243_175 : mFetch 243 175 = some (.getfield 362, 3, 12, 28, 0, 1) := by decide +kernel
theorem f243_178 : mFetch 243 178 = some (.if_icmp .ge 33, 3, 211, 0, 0, 0) := by decide +kernel
theorem f243_181 : mFetch 243 181 = some (.aload_n 0, 1, 0, 0, 0, 0) := by decide +kernel
theorem f243_182 : mFetch 243 182 = some (.getfield 58, 3, 12, 27, 2, 1) := by decide +kernel
theorem f243_185 : mFetch 243 185 = some (.aload_n 0, 1, 0, 0, 0, 0) := by decide +kernel
theorem f243_186 : mFetch 243 186 = some (.getfield 49, 3, 12, 24, 2, 1) := by decide +kernel
theorem f243_189 : mFetch 243 189 = some (.iload 4, 2, 0, 0, 0, 0) := by decide +kernel
theorem f243_191 : mFetch 243 191 = some (.iaload, 1, 0, 0, 0, 0) := by decide +kernel
theorem f243_192 : mFetch 243 192 = some (.aload_n 0, 1, 0, 0, 0, 0) := by decide +kernel
theorem f243_193 : mFetch 243 193 = some (.getfield 55, 3, 12, 26, 2, 1) := by decide +kernel
theorem f243_196 : mFetch 243 196 = some (.aload_n 0, 1, 0, 0, 0, 0) := by decide +kernel
theorem f243_197 : mFetch 243 197 = some (.getfield 49, 3, 12, 24, 2, 1) := by decide +kernel
theorem f243_200 : mFetch 243 200 = some (.iload 4, 2, 0, 0, 0, 0) := by decide +kernel
theorem f243_202 : mFetch 243 202 = some (.iaload, 1, 0, 0, 0, 0) := by decide +kernel
theorem f243_203 : mFetch 243 203 = some (.iaload, 1, 0, 0, 0, 0) := by decide +kernel
theorem f243_204 : mFetch 243 204 = some (.iastore, 1, 0, 0, 0, 0) := by decide +kernel
theorem f243_205 : mFetch 243 205 = some (.iinc 4 1, 3, 0, 0, 0, 0) := by decide +kernel
theorem f243_208 : mFetch 243 208 = some (.goto (-36), 3, 172, 0, 0, 0) := by decide +kernel
theorem f243_211 : mFetch 243 211 = some (.iinc 3 1, 3, 0, 0, 0, 0) := by decide +kernel
theorem f243_214 : mFetch 243 214 = some (.goto (-121), 3, 93, 0, 0, 0) := by decide +kernel
theorem f243_217 : mFetch 243 217 = some (.aload_n 0, 1, 0, 0, 0, 0) := by decide +kernel
theorem f243_218 : mFetch 243 218 = some (.getfield 393, 3, 12, 32, 0, 1) := by decide +kernel
theorem f243_221 : mFetch 243 221 = some (.ifCond .le 7, 3, 228, 0, 0, 0) := by decide +kernel
theorem f243_224 : mFetch 243 224 = some (.iconst 1, 1, 0, 0, 0, 0) := by decide +kernel
theorem f243_225 : mFetch 243 225 = some (.goto 4, 3, 229, 0, 0, 0) := by decide +kernel
theorem f243_228 : mFetch 243 228 = some (.iconst 0, 1, 0, 0, 0, 0) := by decide +kernel
theorem f243_229 : mFetch 243 229 = some (.ireturn, 1, 0, 0, 0, 0) := by decide +kernel
theorem b243_0 {X : (Nat → Int) × Nat} {d : Nat} {s : mSt} {Q : mQ} {x1 : Int} {x2 : Int} {l3 : Option mV} {l4 : Option mV} (h_1 : Wp X d 243 12 [some (mR 407), some (mI x1), some (mI x2), some (mI 0), l4] [] (uS (uS s 407 28 0) 407 32 0) Q) : Wp X d 243 0 [some (mR 407), some (mI x1), some (mI x2), l3, l4] [] s Q := Wp_step k243 f243_0 (Wp_step k243 f243_1 (Wp_step k243 f243_2 ⟨kf_407, Wp_step k243 f243_5 (Wp_step k243 f243_6 (Wp_step k243 f243_7 ⟨kf_407, Wp_step k243 f243_10 (Wp_step k243 f243_11 (h_1))⟩))⟩))
theorem b243_12 {X : (Nat → Int) × Nat} {d : Nat} {s : mSt} {Q : mQ} {x1 : Int} {x2 : Int} {x3 : Int} {l4 : Option mV} (h_1 : 30 ≤ x3 → Wp X d 243 35 [some (mR 407), some (mI x1), some (mI x2), some (mI x3), l4] [] s Q) (h_2 : ¬ 30 ≤ x3 → Wp X d 243 18 [some (mR 407), some (mI x1), some (mI x2), some (mI x3), l4] [] s Q) : Wp X d 243 12 [some (mR 407), some (mI x1), some (mI x2), some (mI x3), l4] [] s Q := Wp_step k243 f243_12 (Wp_step k243 f243_13 (Wp_step k243 f243_15 ⟨h_1, h_2⟩))
theorem b243_18 {X : (Nat → Int) × Nat} {d : Nat} {s : mSt} {Q : mQ} {x1 : Int} {x2 : Int} {x3 : Int} {l4 : Option mV} (h_1 : Sp X d 223 [mR 407, mI x3] s (fun r s' => ∃ v : Int, r = some (mI v) ∧ Wp X (d + 1) 243 28 [some (mR 407), some (mI x1), some (mI x2), some (mI x3), l4] [mI v, mI x3, mR 418] s' Q)) : Wp X (d + 1) 243 18 [some (mR 407), some (mI x1), some (mI x2), some (mI x3), l4] [] s Q := Wp_step k243 f243_18 (Wp_step k243 f243_19 ⟨kf_407, 418, rf_407_23, Wp_step k243 f243_22 (Wp_step k243 f243_23 (Wp_step k243 f243_24 (Wp_step k243 f243_25 ⟨⟨kf_407, Nat.le_of_ble_eq_true rfl⟩, Nat.le_refl _, _, rfl, Sp_E h_1⟩)))⟩)
theorem b243_28 {X : (Nat → Int) × Nat} {d : Nat} {s : mSt} {Q : mQ} {x1 : Int} {x2 : Int} {x3 : Int} {l4 : Option mV} {xt1 : Int} {xt2 : Int} (h_1 : 0 ≤ xt1 ∧ xt1 < 30) (h_2 : Wp X d 243 12 [some (mR 407), some (mI x1), some (mI x2), some (mI (w32 (x3 + 1))), l4] [] (uS s 418 xt1.toNat xt2) Q) : Wp X d 243 28 [some (mR 407), some (mI x1), some (mI x2), some (mI x3), l4] [mI xt2, mI xt1, mR 418] s Q := Wp_step k243 f243_28 ⟨30, af_418, h_1, Wp_step k243 f243_29 (Wp_step k243 f243_32 (h_2))⟩
theorem b243_35 {X : (Nat → Int) × Nat} {d : Nat} {s : mSt} {Q : mQ} {x1 : Int} {x2 : Int} {x3 : Int} {l4 : Option mV} (h_1 : Wp X d 243 37 [some (mR 407), some (mI x1), some (mI x2), some (mI 0), l4] [] s Q) : Wp X d 243 35 [some (mR 407), some (mI x1), some (mI x2), some (mI x3), l4] [] s Q := Wp_step k243 f243_35 (Wp_step k243 f243_36 (h_1))
theorem b243_37 {X : (Nat → Int) × Nat} {d : Nat} {s : mSt} {Q : mQ} {x1 : Int} {x2 : Int} {x3 : Int} {l4 : Option mV} (h_1 : (s 417 3) ≤ x3 → Wp X d 243 91 [some (mR 407), some (mI x1), some (mI x2), some (mI x3), l4] [] s Q) (h_2 : ¬ (s 417 3) ≤ x3 → Wp X d 243 47 [some (mR 407), some (mI x1), some (mI x2), some (mI x3), l4] [] s Q) : Wp X d 243 37 [some (mR 407), some (mI x1), some (mI x2), some (mI x3), l4] [] s Q := Wp_step k243 f243_37 (Wp_step k243 f243_38 (Wp_step k243 f243_39 ⟨kf_407, 417, rf_407_20, Wp_step k243 f243_42 (Wp_step k243 f243_43 ⟨166, af_417, ⟨by decide, by decide⟩, Wp_step k243 f243_44 ⟨h_1, h_2⟩⟩)⟩))
theorem b243_47 {X : (Nat → Int) × Nat} {d : Nat} {s : mSt} {Q : mQ} {x1 : Int} {x2 : Int} {x3 : Int} {l4 : Option mV} (h_1 : 0 ≤ x3 ∧ x3 < 5) (h_2 : Sp X d 168 [mI x2, mI x3] (uS s 422 x3.toNat (-1)) (fun r s' => ∃ v : Int, r = some (mI v) ∧ Wp X (d + 1) 243 59 [some (mR 407), some (mI x1), some (mI x2), some (mI x3), l4] [mI v] s' Q)) : Wp X (d + 1) 243 47 [some (mR 407), some (mI x1), some (mI x2), some (mI x3), l4] [] s Q := Wp_step k243 f243_47 (Wp_step k243 f243_48 ⟨kf_407, 422, rf_407_27, Wp_step k243 f243_51 (Wp_step k243 f243_52 (Wp_step k243 f243_53 ⟨5, af_422, h_1, Wp_step k243 f243_54 (Wp_step k243 f243_55 (Wp_step k243 f243_56 ⟨⟨Nat.le_of_ble_eq_true rfl, Nat.le_refl _⟩, _, rfl, Sp_E h_2⟩))⟩))⟩)
theorem b243_59 {X : (Nat → Int) × Nat} {d : Nat} {s : mSt} {Q : mQ} {x1 : Int} {x2 : Int} {x3 : Int} {l4 : Option mV} {xt0 : Int} (h_1 : ¬ xt0 = 0 → Wp X d 243 65 [some (mR 407), some (mI x1), some (mI x2), some (mI x3), l4] [] s Q) (h_2 : xt0 = 0 → Wp X d 243 62 [some (mR 407), some (mI x1), some (mI x2), some (mI x3), l4] [] s Q) : Wp X d 243 59 [some (mR 407), some (mI x1), some (mI x2), some (mI x3), l4] [mI xt0] s Q := Wp_step k243 f243_59 ⟨h_1, h_2⟩
theorem b243_62 {X : (Nat → Int) × Nat} {d : Nat} {s : mSt} {Q : mQ} {x1 : Int} {x2 : Int} {x3 : Int} {l4 : Option mV} (h_1 : Wp X d 243 85 [some (mR 407), some (mI x1), some (mI x2), some (mI x3), l4] [] s Q) : Wp X d 243 62 [some (mR 407), some (mI x1), some (mI x2), some (mI x3), l4] [] s Q := Wp_step k243 f243_62 (h_1)
theorem b243_65 {X : (Nat → Int) × Nat} {d : Nat} {s : mSt} {Q : mQ} {x1 : Int} {x2 : Int} {x3 : Int} {l4 : Option mV} (h_1 : 0 ≤ (s 407 28) ∧ (s 407 28) < 5) (h_2 : Wp X d 243 85 [some (mR 407), some (mI x1), some (mI x2), some (mI x3), l4] [] (uS (uS s 419 ((s 407 28).toNat) x3) 407 28 (w32 (((uS s 419 ((s 407 28).toNat) x3) 407 28) + 1))) Q) : Wp X d 243 65 [some (mR 407), some (mI x1), some (mI x2), some (mI x3), l4] [] s Q := Wp_step k243 f243_65 (Wp_step k243 f243_66 ⟨kf_407, 419, rf_407_24, Wp_step k243 f243_69 (Wp_step k243 f243_70 ⟨kf_407, Wp_step k243 f243_73 (Wp_step k243 f243_74 ⟨5, af_419, h_1, Wp_step k243 f243_75 (Wp_step k243 f243_76 (Wp_step k243 f243_77 ⟨kf_407, Wp_step k243 f243_80 (Wp_step k243 f243_81 (Wp_step k243 f243_82 ⟨kf_407, h_2⟩))⟩))⟩)⟩)⟩)
theorem b243_85 {X : (Nat → Int) × Nat} {d : Nat} {s : mSt} {Q : mQ} {x1 : Int} {x2 : Int} {x3 : Int} {l4 : Option mV} (h_1 : Wp X d 243 37 [some (mR 407), some (mI x1), some (mI x2), some (mI (w32 (x3 + 1))), l4] [] s Q) : Wp X d 243 85 [some (mR 407), some (mI x1), some (mI x2), some (mI x3), l4] [] s Q := Wp_step k243 f243_85 (Wp_step k243 f243_88 (h_1))
theorem b243_91 {X : (Nat → Int) × Nat} {d : Nat} {s : mSt} {Q : mQ} {x1 : Int} {x2 : Int} {x3 : Int} {l4 : Option mV} (h_1 : Wp X d 243 93 [some (mR 407), some (mI x1), some (mI x2), some (mI 0), l4] [] s Q) : Wp X d 243 91 [some (mR 407), some (mI x1), some (mI x2), some (mI x3), l4] [] s Q := Wp_step k243 f243_91 (Wp_step k243 f243_92 (h_1))
theorem b243_93 {X : (Nat → Int) × Nat} {d : Nat} {s : mSt} {Q : mQ} {x1 : Int} {x2 : Int} {x3 : Int} {l4 : Option mV} (h_1 : Sp X d 233 [mI (s 407 28)] s (fun r s' => ∃ v : Int, r = some (mI v) ∧ Wp X (d + 1) 243 101 [some (mR 407), some (mI x1), some (mI x2), some (mI x3), l4] [mI v, mI x3] s' Q)) : Wp X (d + 1) 243 93 [some (mR 407), some (mI x1), some (mI x2), some (mI x3), l4] [] s Q := Wp_step k243 f243_93 (Wp_step k243 f243_94 (Wp_step k243 f243_95 ⟨kf_407, Wp_step k243 f243_98 ⟨⟨Nat.le_of_ble_eq_true rfl, Nat.le_refl _⟩, _, rfl, Sp_E h_1⟩⟩))
theorem b243_101 {X : (Nat → Int) × Nat} {d : Nat} {s : mSt} {Q : mQ} {x1 : Int} {x2 : Int} {x3 : Int} {l4 : Option mV} {xt0 : Int} {xt1 : Int} (h_1 : xt1 ≤ xt0 → Wp X d 243 217 [some (mR 407), some (mI x1), some (mI x2), some (mI x3), l4] [] s Q) (h_2 : ¬ xt1 ≤ xt0 → Wp X d 243 104 [some (mR 407), some (mI x1), some (mI x2), some (mI x3), l4] [] s Q) : Wp X d 243 101 [some (mR 407), some (mI x1), some (mI x2), some (mI x3), l4] [mI xt1, mI xt0] s Q := Wp_step k243 f243_101 ⟨h_1, h_2⟩
theorem b243_104 {X : (Nat → Int) × Nat} {d : Nat} {s : mSt} {Q : mQ} {x1 : Int} {x2 : Int} {x3 : Int} {l4 : Option mV} (h_1 : Sp X d 234 [mR 407, mI x3] s (fun r s' => r = none ∧ Wp X (d + 1) 243 109 [some (mR 407), some (mI x1), some (mI x2), some (mI x3), l4] [] s' Q)) : Wp X (d + 1) 243 104 [some (mR 407), some (mI x1), some (mI x2), some (mI x3), l4] [] s Q := Wp_step k243 f243_104 (Wp_step k243 f243_105 (Wp_step k243 f243_106 ⟨⟨kf_407, Nat.le_of_ble_eq_true rfl⟩, Nat.le_refl _, _, rfl, Sp_V h_1⟩))
theorem b243_109 {X : (Nat → Int) × Nat} {d : Nat} {s : mSt} {Q : mQ} {x1 : Int} {x2 : Int} {x3 : Int} {l4 : Option mV} (h_1 : Sp X d 238 [mR 407, mI x1] s (fun r s' => ∃ v : Int, r = some (mI v) ∧ Wp X (d + 1) 243 114 [some (mR 407), some (mI x1), some (mI x2), some (mI x3), l4] [mI v] s' Q)) : Wp X (d + 1) 243 109 [some (mR 407), some (mI x1), some (mI x2), some (mI x3), l4] [] s Q := Wp_step k243 f243_109 (Wp_step k243 f243_110 (Wp_step k243 f243_111 ⟨⟨kf_407, Nat.le_of_ble_eq_true rfl⟩, Nat.le_refl _, _, rfl, Sp_E h_1⟩))
theorem b243_114 {X : (Nat → Int) × Nat} {d : Nat} {s : mSt} {Q : mQ} {x1 : Int} {x2 : Int} {x3 : Int} {l4 : Option mV} {xt0 : Int} (h_1 : ¬ xt0 = 0 → Wp X d 243 120 [some (mR 407), some (mI x1), some (mI x2), some (mI x3), l4] [] s Q) (h_2 : xt0 = 0 → Wp X d 243 117 [some (mR 407), some (mI x1), some (mI x2), some (mI x3), l4] [] s Q) : Wp X d 243 114 [some (mR 407), some (mI x1), some (mI x2), some (mI x3), l4] [mI xt0] s Q := Wp_step k243 f243_114 ⟨h_1, h_2⟩
theorem b243_117 {X : (Nat → Int) × Nat} {d : Nat} {s : mSt} {Q : mQ} {x1 : Int} {x2 : Int} {x3 : Int} {l4 : Option mV} (h_1 : Wp X d 243 211 [some (mR 407), some (mI x1), some (mI x2), some (mI x3), l4] [] s Q) : Wp X d 243 117 [some (mR 407), some (mI x1), some (mI x2), some (mI x3), l4] [] s Q := Wp_step k243 f243_117 (h_1)
theorem b243_120 {X : (Nat → Int) × Nat} {d : Nat} {s : mSt} {Q : mQ} {x1 : Int} {x2 : Int} {x3 : Int} {l4 : Option mV} (h_1 : Sp X d 241 [mR 407, mI x1] (uS s 407 32 (w32 ((s 407 32) + 1))) (fun r s' => r = none ∧ Wp X (d + 1) 243 135 [some (mR 407), some (mI x1), some (mI x2), some (mI x3), l4] [] s' Q)) : Wp X (d + 1) 243 120 [some (mR 407), some (mI x1), some (mI x2), some (mI x3), l4] [] s Q := Wp_step k243 f243_120 (Wp_step k243 f243_121 (Wp_step k243 f243_122 ⟨kf_407, Wp_step k243 f243_125 (Wp_step k243 f243_126 (Wp_step k243 f243_127 ⟨kf_407, Wp_step k243 f243_130 (Wp_step k243 f243_131 (Wp_step k243 f243_132 ⟨⟨kf_407, Nat.le_of_ble_eq_true rfl⟩, Nat.le_refl _, _, rfl, Sp_V h_1⟩))⟩))⟩))
theorem b243_135 {X : (Nat → Int) × Nat} {d : Nat} {s : mSt} {Q : mQ} {x1 : Int} {x2 : Int} {x3 : Int} {l4 : Option mV} (h_1 : Sp X d 242 [mR 407] s (fun r s' => ∃ v : Int, r = some (mI v) ∧ Wp X (d + 1) 243 139 [some (mR 407), some (mI x1), some (mI x2), some (mI x3), l4] [mI v] s' Q)) : Wp X (d + 1) 243 135 [some (mR 407), some (mI x1), some (mI x2), some (mI x3), l4] [] s Q := Wp_step k243 f243_135 (Wp_step k243 f243_136 ⟨⟨kf_407, Nat.le_of_ble_eq_true rfl⟩, Nat.le_refl _, _, rfl, Sp_E h_1⟩)
theorem b243_139 {X : (Nat → Int) × Nat} {d : Nat} {s : mSt} {Q : mQ} {x1 : Int} {x2 : Int} {x3 : Int} {l4 : Option mV} {xt0 : Int} (h_1 : ¬ xt0 = 0 → Wp X d 243 145 [some (mR 407), some (mI x1), some (mI x2), some (mI x3), l4] [] s Q) (h_2 : xt0 = 0 → Wp X d 243 142 [some (mR 407), some (mI x1), some (mI x2), some (mI x3), l4] [] s Q) : Wp X d 243 139 [some (mR 407), some (mI x1), some (mI x2), some (mI x3), l4] [mI xt0] s Q := Wp_step k243 f243_139 ⟨h_1, h_2⟩
theorem b243_142 {X : (Nat → Int) × Nat} {d : Nat} {s : mSt} {Q : mQ} {x1 : Int} {x2 : Int} {x3 : Int} {l4 : Option mV} (h_1 : Wp X d 243 211 [some (mR 407), some (mI x1), some (mI x2), some (mI x3), l4] [] s Q) : Wp X d 243 142 [some (mR 407), some (mI x1), some (mI x2), some (mI x3), l4] [] s Q := Wp_step k243 f243_142 (h_1)
theorem b243_145 {X : (Nat → Int) × Nat} {d : Nat} {s : mSt} {Q : mQ} {x1 : Int} {x2 : Int} {x3 : Int} {l4 : Option mV} (h_1 : Wp X d 243 172 [some (mR 407), some (mI x1), some (mI x2), some (mI x3), some (mI 0)] [] (uS (uS (uS s 407 29 (s 407 33)) 407 30 ((uS s 407 29 (s 407 33)) 407 34)) 407 31 ((uS (uS s 407 29 (s 407 33)) 407 30 ((uS s 407 29 (s 407 33)) 407 34)) 407 35)) Q) : Wp X d 243 145 [some (mR 407), some (mI x1), some (mI x2), some (mI x3), l4] [] s Q := Wp_step k243 f243_145 (Wp_step k243 f243_146 (Wp_step k243 f243_147 ⟨kf_407, Wp_step k243 f243_150 ⟨kf_407, Wp_step k243 f243_153 (Wp_step k243 f243_154 (Wp_step k243 f243_155 ⟨kf_407, Wp_step k243 f243_158 ⟨kf_407, Wp_step k243 f243_161 (Wp_step k243 f243_162 (Wp_step k243 f243_163 ⟨kf_407, Wp_step k243 f243_166 ⟨kf_407, Wp_step k243 f243_169 (Wp_step k243 f243_170 (h_1))⟩⟩))⟩⟩))⟩⟩))
theorem b243_172 {X : (Nat → Int) × Nat} {d : Nat} {s : mSt} {Q : mQ} {x1 : Int} {x2 : Int} {x3 : Int} {x4 : Int} (h_1 : (s 407 28) ≤ x4 → Wp X d 243 211 [some (mR 407), some (mI x1), some (mI x2), some (mI x3), some (mI x4)] [] s Q) (h_2 : ¬ (s 407 28) ≤ x4 → Wp X d 243 181 [some (mR 407), some (mI x1), some (mI x2), some (mI x3), some (mI x4)] [] s Q) : Wp X d 243 172 [some (mR 407), some (mI x1), some (mI x2), some (mI x3), some (mI x4)] [] s Q := Wp_step k243 f243_172 (Wp_step k243 f243_174 (Wp_step k243 f243_175 ⟨kf_407, Wp_step k243 f243_178 ⟨h_1, h_2⟩⟩))
theorem b243_181 {X : (Nat → Int) × Nat} {d : Nat} {s : mSt} {Q : mQ} {x1 : Int} {x2 : Int} {x3 : Int} {x4 : Int} (h_1 : 0 ≤ x4 ∧ x4 < 5) (h_2 : 0 ≤ x4 ∧ x4 < 5) (h_3 : 0 ≤ (s 419 x4.toNat) ∧ (s 419 x4.toNat) < 5) (h_4 : 0 ≤ (s 419 x4.toNat) ∧ (s 419 x4.toNat) < 5) (h_5 : Wp X d 243 172 [some (mR 407), some (mI x1), some (mI x2), some (mI x3), some (mI (w32 (x4 + 1)))] [] (uS s 422 ((s 419 x4.toNat).toNat) (s 421 (s 419 x4.toNat).toNat)) Q) : Wp X d 243 181 [some (mR 407), some (mI x1), some (mI x2), some (mI x3), some (mI x4)] [] s Q := Wp_step k243 f243_181 (Wp_step k243 f243_182 ⟨kf_407, 422, rf_407_27, Wp_step k243 f243_185 (Wp_step k243 f243_186 ⟨kf_407, 419, rf_407_24, Wp_step k243 f243_189 (Wp_step k243 f243_191 ⟨5, af_419, h_1, Wp_step k243 f243_192 (Wp_step k243 f243_193 ⟨kf_407, 421, rf_407_26, Wp_step k243 f243_196 (Wp_step k243 f243_197 ⟨kf_407, 419, rf_407_24, Wp_step k243 f243_200 (Wp_step k243 f243_202 ⟨5, af_419, h_2, Wp_step k243 f243_203 ⟨5, af_421, h_3, Wp_step k243 f243_204 ⟨5, af_422, h_4, Wp_step k243 f243_205 (Wp_step k243 f243_208 (h_5))⟩⟩⟩)⟩)⟩)⟩)⟩)⟩)
theorem b243_211 {X : (Nat → Int) × Nat} {d : Nat} {s : mSt} {Q : mQ} {x1 : Int} {x2 : Int} {x3 : Int} {l4 : Option mV} (h_1 : Wp X d 243 93 [some (mR 407), some (mI x1), some (mI x2), some (mI (w32 (x3 + 1))), l4] [] s Q) : Wp X d 243 211 [some (mR 407), some (mI x1), some (mI x2), some (mI x3), l4] [] s Q := Wp_step k243 f243_211 (Wp_step k243 f243_214 (h_1))
theorem b243_217 {X : (Nat → Int) × Nat} {d : Nat} {s : mSt} {Q : mQ} {x1 : Int} {x2 : Int} {x3 : Int} {l4 : Option mV} (h_1 : (s 407 32) ≤ 0 → Wp X d 243 228 [some (mR 407), some (mI x1), some (mI x2), some (mI x3), l4] [] s Q) (h_2 : ¬ (s 407 32) ≤ 0 → Wp X d 243 224 [some (mR 407), some (mI x1), some (mI x2), some (mI x3), l4] [] s Q) : Wp X d 243 217 [some (mR 407), some (mI x1), some (mI x2), some (mI x3), l4] [] s Q := Wp_step k243 f243_217 (Wp_step k243 f243_218 ⟨kf_407, Wp_step k243 f243_221 ⟨h_1, h_2⟩⟩)
theorem b243_224 {X : (Nat → Int) × Nat} {d : Nat} {s : mSt} {Q : mQ} {x1 : Int} {x2 : Int} {x3 : Int} {l4 : Option mV} (h_1 : Wp X d 243 229 [some (mR 407), some (mI x1), some (mI x2), some (mI x3), l4] [mI 1] s Q) : Wp X d 243 224 [some (mR 407), some (mI x1), some (mI x2), some (mI x3), l4] [] s Q := Wp_step k243 f243_224 (Wp_step k243 f243_225 (h_1))
theorem b243_228 {X : (Nat → Int) × Nat} {d : Nat} {s : mSt} {Q : mQ} {x1 : Int} {x2 : Int} {x3 : Int} {l4 : Option mV} (h_1 : Wp X d 243 229 [some (mR 407), some (mI x1), some (mI x2), some (mI x3), l4] [mI 0] s Q) : Wp X d 243 228 [some (mR 407), some (mI x1), some (mI x2), some (mI x3), l4] [] s Q := Wp_step k243 f243_228 (h_1)
theorem b243_229 {X : (Nat → Int) × Nat} {d : Nat} {s : mSt} {Q : mQ} {x1 : Int} {x2 : Int} {x3 : Int} {l4 : Option mV} {xt0 : Int} (h_1 : Q (some (mI xt0)) s) (h_2 : xt0 = 0 ∨ xt0 = 1) : Wp X d 243 229 [some (mR 407), some (mI x1), some (mI x2), some (mI x3), l4] [mI xt0] s Q := Wp_step k243 f243_229 ⟨⟨rfl, h_2⟩, h_1⟩
theorem e243 {X : (Nat → Int) × Nat} {d : Nat} {s : mSt} {Q : mQ} {x1 : Int} {x2 : Int} (h : Wp X d 243 0 [some (mR 407), some (mI x1), some (mI x2), none, none] [] s Q) : Sp X d 243 [mR 407, mI x1, mI x2] s Q := Sp_of (show mCe 243 = 0 by decide +kernel) (by rw [show mML 243 = 5 by decide +kernel]; rfl) (Nat.le_trans (Nat.le_of_ble_eq_true (show Nat.ble (mArgs _).length 5 = true from rfl)) (show 5 ≤ mML 243 by decide +kernel)) h
-- 244 ClashDayModel.plansOf(I)Z
theorem k244 : mRk 244 = 2 := by decide +kernel
theorem f244_0 : mFetch 244 0 = some (.aload_n 0, 1, 0, 0, 0, 0) := by decide +kernel
theorem f244_1 : mFetch 244 1 = some (.iload_n 1, 1, 0, 0, 0, 0) := by decide +kernel
theorem f244_2 : mFetch 244 2 = some (.aload_n 0, 1, 0, 0, 0, 0) := by decide +kernel
theorem f244_3 : mFetch 244 3 = some (.getfield 39, 3, 12, 20, 2, 1) := by decide +kernel
theorem f244_6 : mFetch 244 6 = some (.bipush 117, 2, 0, 0, 0, 0) := by decide +kernel
theorem f244_8 : mFetch 244 8 = some (.iload_n 1, 1, 0, 0, 0, 0) := by decide +kernel
theorem f244_9 : mFetch 244 9 = some (.iadd, 1, 0, 0, 0, 0) := by decide +kernel
theorem f244_10 : mFetch 244 10 = some (.iaload, 1, 0, 0, 0, 0) := by decide +kernel
theorem f244_11 : mFetch 244 11 = some (.invokevirtual 417, 3, 243, 0, 3, 12) := by decide +kernel
theorem f244_14 : mFetch 244 14 = some (.ireturn, 1, 0, 0, 0, 0) := by decide +kernel
theorem b244_0 {X : (Nat → Int) × Nat} {d : Nat} {s : mSt} {Q : mQ} {x1 : Int} (h_1 : 0 ≤ (w32 (117 + x1)) ∧ (w32 (117 + x1)) < 166) (h_2 : Sp X d 243 [mR 407, mI x1, mI (s 417 (w32 (117 + x1)).toNat)] s (fun r s' => ∃ v : Int, r = some (mI v) ∧ Wp X (d + 1) 244 14 [some (mR 407), some (mI x1)] [mI v] s' Q)) : Wp X (d + 1) 244 0 [some (mR 407), some (mI x1)] [] s Q := Wp_step k244 f244_0 (Wp_step k244 f244_1 (Wp_step k244 f244_2 (Wp_step k244 f244_3 ⟨kf_407, 417, rf_407_20, Wp_step k244 f244_6 (Wp_step k244 f244_8 (Wp_step k244 f244_9 (Wp_step k244 f244_10 ⟨166, af_417, h_1, Wp_step k244 f244_11 ⟨⟨kf_407, Nat.le_of_ble_eq_true rfl⟩, Nat.le_refl _, _, rfl, Sp_E h_2⟩⟩)))⟩)))
theorem b244_14 {X : (Nat → Int) × Nat} {d : Nat} {s : mSt} {Q : mQ} {x1 : Int} {xt0 : Int} (h_1 : Q (some (mI xt0)) s) (h_2 : xt0 = 0 ∨ xt0 = 1) : Wp X d 244 14 [some (mR 407), some (mI x1)] [mI xt0] s Q := Wp_step k244 f244_14 ⟨⟨rfl, h_2⟩, h_1⟩
theorem e244 {X : (Nat → Int) × Nat} {d : Nat} {s : mSt} {Q : mQ} {x1 : Int} (h : Wp X d 244 0 [some (mR 407), some (mI x1)] [] s Q) : Sp X d 244 [mR 407, mI x1] s Q := Sp_of (show mCe 244 = 0 by decide +kernel) (by rw [show mML 244 = 2 by decide +kernel]; rfl) (Nat.le_trans (Nat.le_of_ble_eq_true (show Nat.ble (mArgs _).length 2 = true from rfl)) (show 2 ≤ mML 244 by decide +kernel)) h
-- 245 ClashDayModel.laysPlan(I)Z
theorem k245 : mRk 245 = 2 := by decide +kernel
theorem f245_0 : mFetch 245 0 = some (.aload_n 0, 1, 0, 0, 0, 0) := by decide +kernel
theorem f245_1 : mFetch 245 1 = some (.iload_n 1, 1, 0, 0, 0, 0) := by decide +kernel
theorem f245_2 : mFetch 245 2 = some (.invokevirtual 420, 3, 244, 0, 2, 12) := by decide +kernel
theorem f245_5 : mFetch 245 5 = some (.ifCond .ne 5, 3, 10, 0, 0, 0) := by decide +kernel
theorem f245_8 : mFetch 245 8 = some (.iconst 0, 1, 0, 0, 0, 0) := by decide +kernel
theorem f245_9 : mFetch 245 9 = some (.ireturn, 1, 0, 0, 0, 0) := by decide +kernel
theorem f245_10 : mFetch 245 10 = some (.iconst 0, 1, 0, 0, 0, 0) := by decide +kernel
theorem f245_11 : mFetch 245 11 = some (.istore_n 2, 1, 0, 0, 0, 0) := by decide +kernel
theorem f245_12 : mFetch 245 12 = some (.iload_n 2, 1, 0, 0, 0, 0) := by decide +kernel
theorem f245_13 : mFetch 245 13 = some (.aload_n 0, 1, 0, 0, 0, 0) := by decide +kernel
theorem f245_14 : mFetch 245 14 = some (.getfield 39, 3, 12, 20, 2, 1) := by decide +kernel
theorem f245_17 : mFetch 245 17 = some (.iconst 3, 1, 0, 0, 0, 0) := by decide +kernel
theorem f245_18 : mFetch 245 18 = some (.iaload, 1, 0, 0, 0, 0) := by decide +kernel
theorem f245_19 : mFetch 245 19 = some (.if_icmp .ge 28, 3, 47, 0, 0, 0) := by decide +kernel
theorem f245_22 : mFetch 245 22 = some (.aload_n 0, 1, 0, 0, 0, 0) := by decide +kernel
theorem f245_23 : mFetch 245 23 = some (.getfield 39, 3, 12, 20, 2, 1) := by decide +kernel
theorem f245_26 : mFetch 245 26 = some (.bipush 47, 2, 0, 0, 0, 0) := by decide +kernel
theorem f245_28 : mFetch 245 28 = some (.iconst 5, 1, 0, 0, 0, 0) := by decide +kernel
theorem f245_29 : mFetch 245 29 = some (.iload_n 1, 1, 0, 0, 0, 0) := by decide +kernel
theorem f245_30 : mFetch 245 30 = some (.imul, 1, 0, 0, 0, 0) := by decide +kernel
theorem f245_31 : mFetch 245 31 = some (.iadd, 1, 0, 0, 0, 0) := by decide +kernel
theorem f245_32 : mFetch 245 32 = some (.iload_n 2, 1, 0, 0, 0, 0) := by decide +kernel
theorem f245_33 : mFetch 245 33 = some (.iadd, 1, 0, 0, 0, 0) := by decide +kernel
theorem f245_34 : mFetch 245 34 = some (.aload_n 0, 1, 0, 0, 0, 0) := by decide +kernel
theorem f245_35 : mFetch 245 35 = some (.getfield 58, 3, 12, 27, 2, 1) := by decide +kernel
theorem f245_38 : mFetch 245 38 = some (.iload_n 2, 1, 0, 0, 0, 0) := by decide +kernel
theorem f245_39 : mFetch 245 39 = some (.iaload, 1, 0, 0, 0, 0) := by decide +kernel
theorem f245_40 : mFetch 245 40 = some (.iastore, 1, 0, 0, 0, 0) := by decide +kernel
theorem f245_41 : mFetch 245 41 = some (.iinc 2 1, 3, 0, 0, 0, 0) := by decide +kernel
theorem f245_44 : mFetch 245 44 = some (.goto (-32), 3, 12, 0, 0, 0) := by decide +kernel
theorem f245_47 : mFetch 245 47 = some (.aload_n 0, 1, 0, 0, 0, 0) := by decide +kernel
theorem f245_48 : mFetch 245 48 = some (.getfield 39, 3, 12, 20, 2, 1) := by decide +kernel
theorem f245_51 : mFetch 245 51 = some (.bipush 41, 2, 0, 0, 0, 0) := by decide +kernel
theorem f245_53 : mFetch 245 53 = some (.iload_n 1, 1, 0, 0, 0, 0) := by decide +kernel
theorem f245_54 : mFetch 245 54 = some (.iadd, 1, 0, 0, 0, 0) := by decide +kernel
theorem f245_55 : mFetch 245 55 = some (.iconst 0, 1, 0, 0, 0, 0) := by decide +kernel
theorem f245_56 : mFetch 245 56 = some (.iastore, 1, 0, 0, 0, 0) := by decide +kernel
theorem f245_57 : mFetch 245 57 = some (.iconst 1, 1, 0, 0, 0, 0) := by decide +kernel
theorem f245_58 : mFetch 245 58 = some (.ireturn, 1, 0, 0, 0, 0) := by decide +kernel
theorem b245_0 {X : (Nat → Int) × Nat} {d : Nat} {s : mSt} {Q : mQ} {x1 : Int} {l2 : Option mV} (h_1 : Sp X d 244 [mR 407, mI x1] s (fun r s' => ∃ v : Int, r = some (mI v) ∧ Wp X (d + 1) 245 5 [some (mR 407), some (mI x1), l2] [mI v] s' Q)) : Wp X (d + 1) 245 0 [some (mR 407), some (mI x1), l2] [] s Q := Wp_step k245 f245_0 (Wp_step k245 f245_1 (Wp_step k245 f245_2 ⟨⟨kf_407, Nat.le_of_ble_eq_true rfl⟩, Nat.le_refl _, _, rfl, Sp_E h_1⟩))
theorem b245_5 {X : (Nat → Int) × Nat} {d : Nat} {s : mSt} {Q : mQ} {x1 : Int} {l2 : Option mV} {xt0 : Int} (h_1 : ¬ xt0 = 0 → Wp X d 245 10 [some (mR 407), some (mI x1), l2] [] s Q) (h_2 : xt0 = 0 → Wp X d 245 8 [some (mR 407), some (mI x1), l2] [] s Q) : Wp X d 245 5 [some (mR 407), some (mI x1), l2] [mI xt0] s Q := Wp_step k245 f245_5 ⟨h_1, h_2⟩
theorem b245_8 {X : (Nat → Int) × Nat} {d : Nat} {s : mSt} {Q : mQ} {x1 : Int} {l2 : Option mV} (h_1 : Q (some (mI 0)) s) : Wp X d 245 8 [some (mR 407), some (mI x1), l2] [] s Q := Wp_step k245 f245_8 (Wp_step k245 f245_9 ⟨⟨rfl, (Or.inl rfl)⟩, h_1⟩)
theorem b245_10 {X : (Nat → Int) × Nat} {d : Nat} {s : mSt} {Q : mQ} {x1 : Int} {l2 : Option mV} (h_1 : Wp X d 245 12 [some (mR 407), some (mI x1), some (mI 0)] [] s Q) : Wp X d 245 10 [some (mR 407), some (mI x1), l2] [] s Q := Wp_step k245 f245_10 (Wp_step k245 f245_11 (h_1))
theorem b245_12 {X : (Nat → Int) × Nat} {d : Nat} {s : mSt} {Q : mQ} {x1 : Int} {x2 : Int} (h_1 : (s 417 3) ≤ x2 → Wp X d 245 47 [some (mR 407), some (mI x1), some (mI x2)] [] s Q) (h_2 : ¬ (s 417 3) ≤ x2 → Wp X d 245 22 [some (mR 407), some (mI x1), some (mI x2)] [] s Q) : Wp X d 245 12 [some (mR 407), some (mI x1), some (mI x2)] [] s Q := Wp_step k245 f245_12 (Wp_step k245 f245_13 (Wp_step k245 f245_14 ⟨kf_407, 417, rf_407_20, Wp_step k245 f245_17 (Wp_step k245 f245_18 ⟨166, af_417, ⟨by decide, by decide⟩, Wp_step k245 f245_19 ⟨h_1, h_2⟩⟩)⟩))
theorem b245_22 {X : (Nat → Int) × Nat} {d : Nat} {s : mSt} {Q : mQ} {x1 : Int} {x2 : Int} (h_1 : 0 ≤ x2 ∧ x2 < 5) (h_2 : 0 ≤ (w32 ((w32 (47 + (w32 (5 * x1)))) + x2)) ∧ (w32 ((w32 (47 + (w32 (5 * x1)))) + x2)) < 166) (h_3 : Wp X d 245 12 [some (mR 407), some (mI x1), some (mI (w32 (x2 + 1)))] [] (uS s 417 ((w32 ((w32 (47 + (w32 (5 * x1)))) + x2)).toNat) (s 422 x2.toNat)) Q) : Wp X d 245 22 [some (mR 407), some (mI x1), some (mI x2)] [] s Q := Wp_step k245 f245_22 (Wp_step k245 f245_23 ⟨kf_407, 417, rf_407_20, Wp_step k245 f245_26 (Wp_step k245 f245_28 (Wp_step k245 f245_29 (Wp_step k245 f245_30 (Wp_step k245 f245_31 (Wp_step k245 f245_32 (Wp_step k245 f245_33 (Wp_step k245 f245_34 (Wp_step k245 f245_35 ⟨kf_407, 422, rf_407_27, Wp_step k245 f245_38 (Wp_step k245 f245_39 ⟨5, af_422, h_1, Wp_step k245 f245_40 ⟨166, af_417, h_2, Wp_step k245 f245_41 (Wp_step k245 f245_44 (h_3))⟩⟩)⟩))))))))⟩)
theorem b245_47 {X : (Nat → Int) × Nat} {d : Nat} {s : mSt} {Q : mQ} {x1 : Int} {x2 : Int} (h_1 : 0 ≤ (w32 (41 + x1)) ∧ (w32 (41 + x1)) < 166) (h_2 : Q (some (mI 1)) (uS s 417 ((w32 (41 + x1)).toNat) 0)) : Wp X d 245 47 [some (mR 407), some (mI x1), some (mI x2)] [] s Q := Wp_step k245 f245_47 (Wp_step k245 f245_48 ⟨kf_407, 417, rf_407_20, Wp_step k245 f245_51 (Wp_step k245 f245_53 (Wp_step k245 f245_54 (Wp_step k245 f245_55 (Wp_step k245 f245_56 ⟨166, af_417, h_1, Wp_step k245 f245_57 (Wp_step k245 f245_58 ⟨⟨rfl, (Or.inr rfl)⟩, h_2⟩)⟩))))⟩)
theorem e245 {X : (Nat → Int) × Nat} {d : Nat} {s : mSt} {Q : mQ} {x1 : Int} (h : Wp X d 245 0 [some (mR 407), some (mI x1), none] [] s Q) : Sp X d 245 [mR 407, mI x1] s Q := Sp_of (show mCe 245 = 0 by decide +kernel) (by rw [show mML 245 = 3 by decide +kernel]; rfl) (Nat.le_trans (Nat.le_of_ble_eq_true (show Nat.ble (mArgs _).length 3 = true from rfl)) (show 3 ≤ mML 245 by decide +kernel)) h
-- 246 ClashDayModel.waits(I)V
theorem k246 : mRk 246 = 0 := by decide +kernel
theorem f246_0 : mFetch 246 0 = some (.aload_n 0, 1, 0, 0, 0, 0) := by decide +kernel
theorem f246_1 : mFetch 246 1 = some (.getfield 39, 3, 12, 20, 2, 1) := by decide +kernel
theorem f246_4 : mFetch 246 4 = some (.bipush 41, 2, 0, 0, 0, 0) := by decide +kernel
theorem f246_6 : mFetch 246 6 = some (.iload_n 1, 1, 0, 0, 0, 0) := by decide +kernel
theorem f246_7 : mFetch 246 7 = some (.iadd, 1, 0, 0, 0, 0) := by decide +kernel
theorem f246_8 : mFetch 246 8 = some (.iconst 1, 1, 0, 0, 0, 0) := by decide +kernel
theorem f246_9 : mFetch 246 9 = some (.iastore, 1, 0, 0, 0, 0) := by decide +kernel
theorem f246_10 : mFetch 246 10 = some (.iconst 0, 1, 0, 0, 0, 0) := by decide +kernel
theorem f246_11 : mFetch 246 11 = some (.istore_n 2, 1, 0, 0, 0, 0) := by decide +kernel
theorem f246_12 : mFetch 246 12 = some (.iload_n 2, 1, 0, 0, 0, 0) := by decide +kernel
theorem f246_13 : mFetch 246 13 = some (.iconst 5, 1, 0, 0, 0, 0) := by decide +kernel
theorem f246_14 : mFetch 246 14 = some (.if_icmp .ge 23, 3, 37, 0, 0, 0) := by decide +kernel
theorem f246_17 : mFetch 246 17 = some (.aload_n 0, 1, 0, 0, 0, 0) := by decide +kernel
theorem f246_18 : mFetch 246 18 = some (.getfield 39, 3, 12, 20, 2, 1) := by decide +kernel
theorem f246_21 : mFetch 246 21 = some (.bipush 47, 2, 0, 0, 0, 0) := by decide +kernel
theorem f246_23 : mFetch 246 23 = some (.iconst 5, 1, 0, 0, 0, 0) := by decide +kernel
theorem f246_24 : mFetch 246 24 = some (.iload_n 1, 1, 0, 0, 0, 0) := by decide +kernel
theorem f246_25 : mFetch 246 25 = some (.imul, 1, 0, 0, 0, 0) := by decide +kernel
theorem f246_26 : mFetch 246 26 = some (.iadd, 1, 0, 0, 0, 0) := by decide +kernel
theorem f246_27 : mFetch 246 27 = some (.iload_n 2, 1, 0, 0, 0, 0) := by decide +kernel
theorem f246_28 : mFetch 246 28 = some (.iadd, 1, 0, 0, 0, 0) := by decide +kernel
theorem f246_29 : mFetch 246 29 = some (.iconst (-1), 1, 0, 0, 0, 0) := by decide +kernel
theorem f246_30 : mFetch 246 30 = some (.iastore, 1, 0, 0, 0, 0) := by decide +kernel
theorem f246_31 : mFetch 246 31 = some (.iinc 2 1, 3, 0, 0, 0, 0) := by decide +kernel
theorem f246_34 : mFetch 246 34 = some (.goto (-22), 3, 12, 0, 0, 0) := by decide +kernel
theorem f246_37 : mFetch 246 37 = some (.return_, 1, 0, 0, 0, 0) := by decide +kernel
theorem b246_0 {X : (Nat → Int) × Nat} {d : Nat} {s : mSt} {Q : mQ} {x1 : Int} {l2 : Option mV} (h_1 : 0 ≤ (w32 (41 + x1)) ∧ (w32 (41 + x1)) < 166) (h_2 : Wp X d 246 12 [some (mR 407), some (mI x1), some (mI 0)] [] (uS s 417 ((w32 (41 + x1)).toNat) 1) Q) : Wp X d 246 0 [some (mR 407), some (mI x1), l2] [] s Q := Wp_step k246 f246_0 (Wp_step k246 f246_1 ⟨kf_407, 417, rf_407_20, Wp_step k246 f246_4 (Wp_step k246 f246_6 (Wp_step k246 f246_7 (Wp_step k246 f246_8 (Wp_step k246 f246_9 ⟨166, af_417, h_1, Wp_step k246 f246_10 (Wp_step k246 f246_11 (h_2))⟩))))⟩)
theorem b246_12 {X : (Nat → Int) × Nat} {d : Nat} {s : mSt} {Q : mQ} {x1 : Int} {x2 : Int} (h_1 : 5 ≤ x2 → Wp X d 246 37 [some (mR 407), some (mI x1), some (mI x2)] [] s Q) (h_2 : ¬ 5 ≤ x2 → Wp X d 246 17 [some (mR 407), some (mI x1), some (mI x2)] [] s Q) : Wp X d 246 12 [some (mR 407), some (mI x1), some (mI x2)] [] s Q := Wp_step k246 f246_12 (Wp_step k246 f246_13 (Wp_step k246 f246_14 ⟨h_1, h_2⟩))
theorem b246_17 {X : (Nat → Int) × Nat} {d : Nat} {s : mSt} {Q : mQ} {x1 : Int} {x2 : Int} (h_1 : 0 ≤ (w32 ((w32 (47 + (w32 (5 * x1)))) + x2)) ∧ (w32 ((w32 (47 + (w32 (5 * x1)))) + x2)) < 166) (h_2 : Wp X d 246 12 [some (mR 407), some (mI x1), some (mI (w32 (x2 + 1)))] [] (uS s 417 ((w32 ((w32 (47 + (w32 (5 * x1)))) + x2)).toNat) (-1)) Q) : Wp X d 246 17 [some (mR 407), some (mI x1), some (mI x2)] [] s Q := Wp_step k246 f246_17 (Wp_step k246 f246_18 ⟨kf_407, 417, rf_407_20, Wp_step k246 f246_21 (Wp_step k246 f246_23 (Wp_step k246 f246_24 (Wp_step k246 f246_25 (Wp_step k246 f246_26 (Wp_step k246 f246_27 (Wp_step k246 f246_28 (Wp_step k246 f246_29 (Wp_step k246 f246_30 ⟨166, af_417, h_1, Wp_step k246 f246_31 (Wp_step k246 f246_34 (h_2))⟩))))))))⟩)
theorem b246_37 {X : (Nat → Int) × Nat} {d : Nat} {s : mSt} {Q : mQ} {x1 : Int} {x2 : Int} (h_1 : Q none s) : Wp X d 246 37 [some (mR 407), some (mI x1), some (mI x2)] [] s Q := Wp_step k246 f246_37 ⟨⟨rfl, Or.inl rfl⟩, h_1⟩
theorem e246 {X : (Nat → Int) × Nat} {d : Nat} {s : mSt} {Q : mQ} {x1 : Int} (h : Wp X d 246 0 [some (mR 407), some (mI x1), none] [] s Q) : Sp X d 246 [mR 407, mI x1] s Q := Sp_of (show mCe 246 = 0 by decide +kernel) (by rw [show mML 246 = 3 by decide +kernel]; rfl) (Nat.le_trans (Nat.le_of_ble_eq_true (show Nat.ble (mArgs _).length 3 = true from rfl)) (show 3 ≤ mML 246 by decide +kernel)) h
-- 247 ClashDayModel.summedBy(I)J
theorem k247 : mRk 247 = 4 := by decide +kernel
theorem f247_0 : mFetch 247 0 = some (.iconst 0, 1, 0, 0, 0, 0) := by decide +kernel
theorem f247_1 : mFetch 247 1 = some (.istore_n 2, 1, 0, 0, 0, 0) := by decide +kernel
theorem f247_2 : mFetch 247 2 = some (.iload_n 2, 1, 0, 0, 0, 0) := by decide +kernel
theorem f247_3 : mFetch 247 3 = some (.aload_n 0, 1, 0, 0, 0, 0) := by decide +kernel
theorem f247_4 : mFetch 247 4 = some (.getfield 23, 3, 12, 6, 2, 1) := by decide +kernel
theorem f247_7 : mFetch 247 7 = some (.iload_n 1, 1, 0, 0, 0, 0) := by decide +kernel
theorem f247_8 : mFetch 247 8 = some (.iaload, 1, 0, 0, 0, 0) := by decide +kernel
theorem f247_9 : mFetch 247 9 = some (.if_icmp .ge 75, 3, 84, 0, 0, 0) := by decide +kernel
theorem f247_12 : mFetch 247 12 = some (.bipush 48, 2, 0, 0, 0, 0) := by decide +kernel
theorem f247_14 : mFetch 247 14 = some (.iload_n 1, 1, 0, 0, 0, 0) := by decide +kernel
theorem f247_15 : mFetch 247 15 = some (.imul, 1, 0, 0, 0, 0) := by decide +kernel
theorem f247_16 : mFetch 247 16 = some (.iconst 4, 1, 0, 0, 0, 0) := by decide +kernel
theorem f247_17 : mFetch 247 17 = some (.iload_n 2, 1, 0, 0, 0, 0) := by decide +kernel
theorem f247_18 : mFetch 247 18 = some (.imul, 1, 0, 0, 0, 0) := by decide +kernel
theorem f247_19 : mFetch 247 19 = some (.iadd, 1, 0, 0, 0, 0) := by decide +kernel
theorem f247_20 : mFetch 247 20 = some (.istore_n 3, 1, 0, 0, 0, 0) := by decide +kernel
theorem f247_21 : mFetch 247 21 = some (.aload_n 0, 1, 0, 0, 0, 0) := by decide +kernel
theorem f247_22 : mFetch 247 22 = some (.getfield 20, 3, 12, 5, 2, 1) := by decide +kernel
theorem f247_25 : mFetch 247 25 = some (.iload_n 3, 1, 0, 0, 0, 0) := by decide +kernel
theorem f247_26 : mFetch 247 26 = some (.iconst 2, 1, 0, 0, 0, 0) := by decide +kernel
theorem f247_27 : mFetch 247 27 = some (.iadd, 1, 0, 0, 0, 0) := by decide +kernel
theorem f247_28 : mFetch 247 28 = some (.iaload, 1, 0, 0, 0, 0) := by decide +kernel
theorem f247_29 : mFetch 247 29 = some (.ifCond .lt 29, 3, 58, 0, 0, 0) := by decide +kernel
theorem f247_32 : mFetch 247 32 = some (.aload_n 0, 1, 0, 0, 0, 0) := by decide +kernel
theorem f247_33 : mFetch 247 33 = some (.iload_n 1, 1, 0, 0, 0, 0) := by decide +kernel
theorem f247_34 : mFetch 247 34 = some (.aload_n 0, 1, 0, 0, 0, 0) := by decide +kernel
theorem f247_35 : mFetch 247 35 = some (.getfield 20, 3, 12, 5, 2, 1) := by decide +kernel
theorem f247_38 : mFetch 247 38 = some (.iload_n 3, 1, 0, 0, 0, 0) := by decide +kernel
theorem f247_39 : mFetch 247 39 = some (.iconst 2, 1, 0, 0, 0, 0) := by decide +kernel
theorem f247_40 : mFetch 247 40 = some (.iadd, 1, 0, 0, 0, 0) := by decide +kernel
theorem f247_41 : mFetch 247 41 = some (.iaload, 1, 0, 0, 0, 0) := by decide +kernel
theorem f247_42 : mFetch 247 42 = some (.aload_n 0, 1, 0, 0, 0, 0) := by decide +kernel
theorem f247_43 : mFetch 247 43 = some (.getfield 20, 3, 12, 5, 2, 1) := by decide +kernel
theorem f247_46 : mFetch 247 46 = some (.iload_n 3, 1, 0, 0, 0, 0) := by decide +kernel
theorem f247_47 : mFetch 247 47 = some (.iconst 3, 1, 0, 0, 0, 0) := by decide +kernel
theorem f247_48 : mFetch 247 48 = some (.iadd, 1, 0, 0, 0, 0) := by decide +kernel
theorem f247_49 : mFetch 247 49 = some (.iaload, 1, 0, 0, 0, 0) := by decide +kernel
theorem f247_50 : mFetch 247 50 = some (.invokevirtual 423, 3, 211, 0, 4, 12) := by decide +kernel
theorem f247_53 : mFetch 247 53 = some (.lconst 1, 1, 0, 0, 0, 0) := by decide +kernel
theorem f247_54 : mFetch 247 54 = some (.lcmp, 1, 0, 0, 0, 0) := by decide +kernel
theorem f247_55 : mFetch 247 55 = some (.ifCond .ne 23, 3, 78, 0, 0, 0) := by decide +kernel
theorem f247_58 : mFetch 247 58 = some (.aload_n 0, 1, 0, 0, 0, 0) := by decide +kernel
theorem f247_59 : mFetch 247 59 = some (.iload_n 1, 1, 0, 0, 0, 0) := by decide +kernel
theorem f247_60 : mFetch 247 60 = some (.aload_n 0, 1, 0, 0, 0, 0) := by decide +kernel
theorem f247_61 : mFetch 247 61 = some (.getfield 20, 3, 12, 5, 2, 1) := by decide +kernel
theorem f247_64 : mFetch 247 64 = some (.iload_n 3, 1, 0, 0, 0, 0) := by decide +kernel
theorem f247_65 : mFetch 247 65 = some (.iaload, 1, 0, 0, 0, 0) := by decide +kernel
theorem f247_66 : mFetch 247 66 = some (.aload_n 0, 1, 0, 0, 0, 0) := by decide +kernel
theorem f247_67 : mFetch 247 67 = some (.getfield 20, 3, 12, 5, 2, 1) := by decide +kernel
theorem f247_70 : mFetch 247 70 = some (.iload_n 3, 1, 0, 0, 0, 0) := by decide +kernel
theorem f247_71 : mFetch 247 71 = some (.iconst 1, 1, 0, 0, 0, 0) := by decide +kernel
theorem f247_72 : mFetch 247 72 = some (.iadd, 1, 0, 0, 0, 0) := by decide +kernel
theorem f247_73 : mFetch 247 73 = some (.iaload, 1, 0, 0, 0, 0) := by decide +kernel
theorem f247_74 : mFetch 247 74 = some (.invokevirtual 423, 3, 211, 0, 4, 12) := by decide +kernel
theorem f247_77 : mFetch 247 77 = some (.lreturn, 1, 0, 0, 0, 0) := by decide +kernel
theorem f247_78 : mFetch 247 78 = some (.iinc 2 1, 3, 0, 0, 0, 0) := by decide +kernel
theorem f247_81 : mFetch 247 81 = some (.goto (-79), 3, 2, 0, 0, 0) := by decide +kernel
theorem f247_84 : mFetch 247 84 = some (.lconst 0, 1, 0, 0, 0, 0) := by decide +kernel
theorem f247_85 : mFetch 247 85 = some (.lreturn, 1, 0, 0, 0, 0) := by decide +kernel
theorem b247_0 {X : (Nat → Int) × Nat} {d : Nat} {s : mSt} {Q : mQ} {x1 : Int} {l2 : Option mV} {l3 : Option mV} (h_1 : Wp X d 247 2 [some (mR 407), some (mI x1), some (mI 0), l3] [] s Q) : Wp X d 247 0 [some (mR 407), some (mI x1), l2, l3] [] s Q := Wp_step k247 f247_0 (Wp_step k247 f247_1 (h_1))
theorem b247_2 {X : (Nat → Int) × Nat} {d : Nat} {s : mSt} {Q : mQ} {x1 : Int} {x2 : Int} {l3 : Option mV} (h_1 : 0 ≤ x1 ∧ x1 < 6) (h_2 : (s 412 x1.toNat) ≤ x2 → Wp X d 247 84 [some (mR 407), some (mI x1), some (mI x2), l3] [] s Q) (h_3 : ¬ (s 412 x1.toNat) ≤ x2 → Wp X d 247 12 [some (mR 407), some (mI x1), some (mI x2), l3] [] s Q) : Wp X d 247 2 [some (mR 407), some (mI x1), some (mI x2), l3] [] s Q := Wp_step k247 f247_2 (Wp_step k247 f247_3 (Wp_step k247 f247_4 ⟨kf_407, 412, rf_407_6, Wp_step k247 f247_7 (Wp_step k247 f247_8 ⟨6, af_412, h_1, Wp_step k247 f247_9 ⟨h_2, h_3⟩⟩)⟩))
theorem b247_12 {X : (Nat → Int) × Nat} {d : Nat} {s : mSt} {Q : mQ} {x1 : Int} {x2 : Int} {l3 : Option mV} (h_1 : 0 ≤ (w32 ((w32 ((w32 (48 * x1)) + (w32 (4 * x2)))) + 2)) ∧ (w32 ((w32 ((w32 (48 * x1)) + (w32 (4 * x2)))) + 2)) < 288) (h_2 : (s 411 (w32 ((w32 ((w32 (48 * x1)) + (w32 (4 * x2)))) + 2)).toNat) < 0 → Wp X d 247 58 [some (mR 407), some (mI x1), some (mI x2), some (mI (w32 ((w32 (48 * x1)) + (w32 (4 * x2)))))] [] s Q) (h_3 : ¬ (s 411 (w32 ((w32 ((w32 (48 * x1)) + (w32 (4 * x2)))) + 2)).toNat) < 0 → Wp X d 247 32 [some (mR 407), some (mI x1), some (mI x2), some (mI (w32 ((w32 (48 * x1)) + (w32 (4 * x2)))))] [] s Q) : Wp X d 247 12 [some (mR 407), some (mI x1), some (mI x2), l3] [] s Q := Wp_step k247 f247_12 (Wp_step k247 f247_14 (Wp_step k247 f247_15 (Wp_step k247 f247_16 (Wp_step k247 f247_17 (Wp_step k247 f247_18 (Wp_step k247 f247_19 (Wp_step k247 f247_20 (Wp_step k247 f247_21 (Wp_step k247 f247_22 ⟨kf_407, 411, rf_407_5, Wp_step k247 f247_25 (Wp_step k247 f247_26 (Wp_step k247 f247_27 (Wp_step k247 f247_28 ⟨288, af_411, h_1, Wp_step k247 f247_29 ⟨h_2, h_3⟩⟩)))⟩)))))))))
theorem b247_32 {X : (Nat → Int) × Nat} {d : Nat} {s : mSt} {Q : mQ} {x1 : Int} {x2 : Int} {x3 : Int} (h_1 : 0 ≤ (w32 (x3 + 2)) ∧ (w32 (x3 + 2)) < 288) (h_2 : 0 ≤ (w32 (x3 + 3)) ∧ (w32 (x3 + 3)) < 288) (h_3 : Sp X d 211 [mR 407, mI x1, mI (s 411 (w32 (x3 + 2)).toNat), mI (s 411 (w32 (x3 + 3)).toNat)] s (fun r s' => ∃ v : Int, r = some (mJ v) ∧ Wp X (d + 1) 247 53 [some (mR 407), some (mI x1), some (mI x2), some (mI x3)] [mJ v] s' Q)) : Wp X (d + 1) 247 32 [some (mR 407), some (mI x1), some (mI x2), some (mI x3)] [] s Q := Wp_step k247 f247_32 (Wp_step k247 f247_33 (Wp_step k247 f247_34 (Wp_step k247 f247_35 ⟨kf_407, 411, rf_407_5, Wp_step k247 f247_38 (Wp_step k247 f247_39 (Wp_step k247 f247_40 (Wp_step k247 f247_41 ⟨288, af_411, h_1, Wp_step k247 f247_42 (Wp_step k247 f247_43 ⟨kf_407, 411, rf_407_5, Wp_step k247 f247_46 (Wp_step k247 f247_47 (Wp_step k247 f247_48 (Wp_step k247 f247_49 ⟨288, af_411, h_2, Wp_step k247 f247_50 ⟨⟨kf_407, Nat.le_of_ble_eq_true rfl⟩, Nat.le_refl _, _, rfl, Sp_E h_3⟩⟩)))⟩)⟩)))⟩)))
theorem b247_53 {X : (Nat → Int) × Nat} {d : Nat} {s : mSt} {Q : mQ} {x1 : Int} {x2 : Int} {x3 : Int} {xt0 : Int} (h_1 : ¬ (lCmp xt0 1) = 0 → Wp X d 247 78 [some (mR 407), some (mI x1), some (mI x2), some (mI x3)] [] s Q) (h_2 : (lCmp xt0 1) = 0 → Wp X d 247 58 [some (mR 407), some (mI x1), some (mI x2), some (mI x3)] [] s Q) : Wp X d 247 53 [some (mR 407), some (mI x1), some (mI x2), some (mI x3)] [mJ xt0] s Q := Wp_step k247 f247_53 (Wp_step k247 f247_54 (Wp_step k247 f247_55 ⟨h_1, h_2⟩))
theorem b247_58 {X : (Nat → Int) × Nat} {d : Nat} {s : mSt} {Q : mQ} {x1 : Int} {x2 : Int} {x3 : Int} (h_1 : 0 ≤ x3 ∧ x3 < 288) (h_2 : 0 ≤ (w32 (x3 + 1)) ∧ (w32 (x3 + 1)) < 288) (h_3 : Sp X d 211 [mR 407, mI x1, mI (s 411 x3.toNat), mI (s 411 (w32 (x3 + 1)).toNat)] s (fun r s' => ∃ v : Int, r = some (mJ v) ∧ Wp X (d + 1) 247 77 [some (mR 407), some (mI x1), some (mI x2), some (mI x3)] [mJ v] s' Q)) : Wp X (d + 1) 247 58 [some (mR 407), some (mI x1), some (mI x2), some (mI x3)] [] s Q := Wp_step k247 f247_58 (Wp_step k247 f247_59 (Wp_step k247 f247_60 (Wp_step k247 f247_61 ⟨kf_407, 411, rf_407_5, Wp_step k247 f247_64 (Wp_step k247 f247_65 ⟨288, af_411, h_1, Wp_step k247 f247_66 (Wp_step k247 f247_67 ⟨kf_407, 411, rf_407_5, Wp_step k247 f247_70 (Wp_step k247 f247_71 (Wp_step k247 f247_72 (Wp_step k247 f247_73 ⟨288, af_411, h_2, Wp_step k247 f247_74 ⟨⟨kf_407, Nat.le_of_ble_eq_true rfl⟩, Nat.le_refl _, _, rfl, Sp_E h_3⟩⟩)))⟩)⟩)⟩)))
theorem b247_77 {X : (Nat → Int) × Nat} {d : Nat} {s : mSt} {Q : mQ} {x1 : Int} {x2 : Int} {x3 : Int} {xt0 : Int} (h_1 : Q (some (mJ xt0)) s) : Wp X d 247 77 [some (mR 407), some (mI x1), some (mI x2), some (mI x3)] [mJ xt0] s Q := Wp_step k247 f247_77 ⟨⟨rfl, rfl⟩, h_1⟩
theorem b247_78 {X : (Nat → Int) × Nat} {d : Nat} {s : mSt} {Q : mQ} {x1 : Int} {x2 : Int} {x3 : Int} (h_1 : Wp X d 247 2 [some (mR 407), some (mI x1), some (mI (w32 (x2 + 1))), some (mI x3)] [] s Q) : Wp X d 247 78 [some (mR 407), some (mI x1), some (mI x2), some (mI x3)] [] s Q := Wp_step k247 f247_78 (Wp_step k247 f247_81 (h_1))
theorem b247_84 {X : (Nat → Int) × Nat} {d : Nat} {s : mSt} {Q : mQ} {x1 : Int} {x2 : Int} {l3 : Option mV} (h_1 : Q (some (mJ 0)) s) : Wp X d 247 84 [some (mR 407), some (mI x1), some (mI x2), l3] [] s Q := Wp_step k247 f247_84 (Wp_step k247 f247_85 ⟨⟨rfl, rfl⟩, h_1⟩)
theorem e247 {X : (Nat → Int) × Nat} {d : Nat} {s : mSt} {Q : mQ} {x1 : Int} (h : Wp X d 247 0 [some (mR 407), some (mI x1), none, none] [] s Q) : Sp X d 247 [mR 407, mI x1] s Q := Sp_of (show mCe 247 = 0 by decide +kernel) (by rw [show mML 247 = 4 by decide +kernel]; rfl) (Nat.le_trans (Nat.le_of_ble_eq_true (show Nat.ble (mArgs _).length 4 = true from rfl)) (show 4 ≤ mML 247 by decide +kernel)) h
-- 248 ClashDayModel.busyNow()I
theorem k248 : mRk 248 = 1 := by decide +kernel
theorem f248_0 : mFetch 248 0 = some (.iconst 0, 1, 0, 0, 0, 0) := by decide +kernel
theorem f248_1 : mFetch 248 1 = some (.istore_n 1, 1, 0, 0, 0, 0) := by decide +kernel
theorem f248_2 : mFetch 248 2 = some (.iconst 0, 1, 0, 0, 0, 0) := by decide +kernel
theorem f248_3 : mFetch 248 3 = some (.istore_n 2, 1, 0, 0, 0, 0) := by decide +kernel
theorem f248_4 : mFetch 248 4 = some (.iload_n 2, 1, 0, 0, 0, 0) := by decide +kernel
theorem f248_5 : mFetch 248 5 = some (.bipush 30, 2, 0, 0, 0, 0) := by decide +kernel
theorem f248_7 : mFetch 248 7 = some (.if_icmp .ge 42, 3, 49, 0, 0, 0) := by decide +kernel
theorem f248_10 : mFetch 248 10 = some (.aload_n 0, 1, 0, 0, 0, 0) := by decide +kernel
theorem f248_11 : mFetch 248 11 = some (.getfield 39, 3, 12, 20, 2, 1) := by decide +kernel
theorem f248_14 : mFetch 248 14 = some (.iconst 1, 1, 0, 0, 0, 0) := by decide +kernel
theorem f248_15 : mFetch 248 15 = some (.iaload, 1, 0, 0, 0, 0) := by decide +kernel
theorem f248_16 : mFetch 248 16 = some (.aload_n 0, 1, 0, 0, 0, 0) := by decide +kernel
theorem f248_17 : mFetch 248 17 = some (.iload_n 2, 1, 0, 0, 0, 0) := by decide +kernel
theorem f248_18 : mFetch 248 18 = some (.invokevirtual 359, 3, 223, 0, 2, 12) := by decide +kernel
theorem f248_21 : mFetch 248 21 = some (.isub, 1, 0, 0, 0, 0) := by decide +kernel
theorem f248_22 : mFetch 248 22 = some (.iload_n 1, 1, 0, 0, 0, 0) := by decide +kernel
theorem f248_23 : mFetch 248 23 = some (.if_icmp .le 18, 3, 41, 0, 0, 0) := by decide +kernel
theorem f248_26 : mFetch 248 26 = some (.aload_n 0, 1, 0, 0, 0, 0) := by decide +kernel
theorem f248_27 : mFetch 248 27 = some (.getfield 39, 3, 12, 20, 2, 1) := by decide +kernel
theorem f248_30 : mFetch 248 30 = some (.iconst 1, 1, 0, 0, 0, 0) := by decide +kernel
theorem f248_31 : mFetch 248 31 = some (.iaload, 1, 0, 0, 0, 0) := by decide +kernel
theorem f248_32 : mFetch 248 32 = some (.aload_n 0, 1, 0, 0, 0, 0) := by decide +kernel
theorem f248_33 : mFetch 248 33 = some (.iload_n 2, 1, 0, 0, 0, 0) := by decide +kernel
theorem f248_34 : mFetch 248 34 = some (.invokevirtual 359, 3, 223, 0, 2, 12) := by decide +kernel
theorem f248_37 : mFetch 248 37 = some (.isub, 1, 0, 0, 0, 0) := by decide +kernel
theorem f248_38 : mFetch 248 38 = some (.goto 4, 3, 42, 0, 0, 0) := by decide +kernel
theorem f248_41 : mFetch 248 41 = some (.iload_n 1, 1, 0, 0, 0, 0) := by decide +kernel
theorem f248_42 : mFetch 248 42 = some (.istore_n 1, 1, 0, 0, 0, 0) := by decide +kernel
theorem f248_43 : mFetch 248 43 = some (.iinc 2 1, 3, 0, 0, 0, 0) := by decide +kernel
theorem f248_46 : mFetch 248 46 = some (.goto (-42), 3, 4, 0, 0, 0) := by decide +kernel
theorem f248_49 : mFetch 248 49 = some (.iload_n 1, 1, 0, 0, 0, 0) := by decide +kernel
theorem f248_50 : mFetch 248 50 = some (.ireturn, 1, 0, 0, 0, 0) := by decide +kernel
theorem b248_0 {X : (Nat → Int) × Nat} {d : Nat} {s : mSt} {Q : mQ} {l1 : Option mV} {l2 : Option mV} (h_1 : Wp X d 248 4 [some (mR 407), some (mI 0), some (mI 0)] [] s Q) : Wp X d 248 0 [some (mR 407), l1, l2] [] s Q := Wp_step k248 f248_0 (Wp_step k248 f248_1 (Wp_step k248 f248_2 (Wp_step k248 f248_3 (h_1))))
theorem b248_4 {X : (Nat → Int) × Nat} {d : Nat} {s : mSt} {Q : mQ} {x1 : Int} {x2 : Int} (h_1 : 30 ≤ x2 → Wp X d 248 49 [some (mR 407), some (mI x1), some (mI x2)] [] s Q) (h_2 : ¬ 30 ≤ x2 → Wp X d 248 10 [some (mR 407), some (mI x1), some (mI x2)] [] s Q) : Wp X d 248 4 [some (mR 407), some (mI x1), some (mI x2)] [] s Q := Wp_step k248 f248_4 (Wp_step k248 f248_5 (Wp_step k248 f248_7 ⟨h_1, h_2⟩))
theorem b248_10 {X : (Nat → Int) × Nat} {d : Nat} {s : mSt} {Q : mQ} {x1 : Int} {x2 : Int} (h_1 : Sp X d 223 [mR 407, mI x2] s (fun r s' => ∃ v : Int, r = some (mI v) ∧ Wp X (d + 1) 248 21 [some (mR 407), some (mI x1), some (mI x2)] [mI v, mI (s 417 1)] s' Q)) : Wp X (d + 1) 248 10 [some (mR 407), some (mI x1), some (mI x2)] [] s Q := Wp_step k248 f248_10 (Wp_step k248 f248_11 ⟨kf_407, 417, rf_407_20, Wp_step k248 f248_14 (Wp_step k248 f248_15 ⟨166, af_417, ⟨by decide, by decide⟩, Wp_step k248 f248_16 (Wp_step k248 f248_17 (Wp_step k248 f248_18 ⟨⟨kf_407, Nat.le_of_ble_eq_true rfl⟩, Nat.le_refl _, _, rfl, Sp_E h_1⟩))⟩)⟩)
theorem b248_21 {X : (Nat → Int) × Nat} {d : Nat} {s : mSt} {Q : mQ} {x1 : Int} {x2 : Int} {xt0 : Int} {xt1 : Int} (h_1 : (w32 (xt0 - xt1)) ≤ x1 → Wp X d 248 41 [some (mR 407), some (mI x1), some (mI x2)] [] s Q) (h_2 : ¬ (w32 (xt0 - xt1)) ≤ x1 → Wp X d 248 26 [some (mR 407), some (mI x1), some (mI x2)] [] s Q) : Wp X d 248 21 [some (mR 407), some (mI x1), some (mI x2)] [mI xt1, mI xt0] s Q := Wp_step k248 f248_21 (Wp_step k248 f248_22 (Wp_step k248 f248_23 ⟨h_1, h_2⟩))
theorem b248_26 {X : (Nat → Int) × Nat} {d : Nat} {s : mSt} {Q : mQ} {x1 : Int} {x2 : Int} (h_1 : Sp X d 223 [mR 407, mI x2] s (fun r s' => ∃ v : Int, r = some (mI v) ∧ Wp X (d + 1) 248 37 [some (mR 407), some (mI x1), some (mI x2)] [mI v, mI (s 417 1)] s' Q)) : Wp X (d + 1) 248 26 [some (mR 407), some (mI x1), some (mI x2)] [] s Q := Wp_step k248 f248_26 (Wp_step k248 f248_27 ⟨kf_407, 417, rf_407_20, Wp_step k248 f248_30 (Wp_step k248 f248_31 ⟨166, af_417, ⟨by decide, by decide⟩, Wp_step k248 f248_32 (Wp_step k248 f248_33 (Wp_step k248 f248_34 ⟨⟨kf_407, Nat.le_of_ble_eq_true rfl⟩, Nat.le_refl _, _, rfl, Sp_E h_1⟩))⟩)⟩)
theorem b248_37 {X : (Nat → Int) × Nat} {d : Nat} {s : mSt} {Q : mQ} {x1 : Int} {x2 : Int} {xt0 : Int} {xt1 : Int} (h_1 : Wp X d 248 42 [some (mR 407), some (mI x1), some (mI x2)] [mI (w32 (xt0 - xt1))] s Q) : Wp X d 248 37 [some (mR 407), some (mI x1), some (mI x2)] [mI xt1, mI xt0] s Q := Wp_step k248 f248_37 (Wp_step k248 f248_38 (h_1))
theorem b248_41 {X : (Nat → Int) × Nat} {d : Nat} {s : mSt} {Q : mQ} {x1 : Int} {x2 : Int} (h_1 : Wp X d 248 42 [some (mR 407), some (mI x1), some (mI x2)] [mI x1] s Q) : Wp X d 248 41 [some (mR 407), some (mI x1), some (mI x2)] [] s Q := Wp_step k248 f248_41 (h_1)
theorem b248_42 {X : (Nat → Int) × Nat} {d : Nat} {s : mSt} {Q : mQ} {x1 : Int} {x2 : Int} {xt0 : Int} (h_1 : Wp X d 248 4 [some (mR 407), some (mI xt0), some (mI (w32 (x2 + 1)))] [] s Q) : Wp X d 248 42 [some (mR 407), some (mI x1), some (mI x2)] [mI xt0] s Q := Wp_step k248 f248_42 (Wp_step k248 f248_43 (Wp_step k248 f248_46 (h_1)))
theorem b248_49 {X : (Nat → Int) × Nat} {d : Nat} {s : mSt} {Q : mQ} {x1 : Int} {x2 : Int} (h_1 : Q (some (mI x1)) s) : Wp X d 248 49 [some (mR 407), some (mI x1), some (mI x2)] [] s Q := Wp_step k248 f248_49 (Wp_step k248 f248_50 ⟨⟨rfl, trivial⟩, h_1⟩)
theorem e248 {X : (Nat → Int) × Nat} {d : Nat} {s : mSt} {Q : mQ} (h : Wp X d 248 0 [some (mR 407), none, none] [] s Q) : Sp X d 248 [mR 407] s Q := Sp_of (show mCe 248 = 0 by decide +kernel) (by rw [show mML 248 = 3 by decide +kernel]; rfl) (Nat.le_trans (Nat.le_of_ble_eq_true (show Nat.ble (mArgs _).length 3 = true from rfl)) (show 3 ≤ mML 248 by decide +kernel)) h
-- 249 ClashDayModel.sumOf(I)J
theorem k249 : mRk 249 = 4 := by decide +kernel
theorem f249_0 : mFetch 249 0 = some (.aload_n 0, 1, 0, 0, 0, 0) := by decide +kernel
theorem f249_1 : mFetch 249 1 = some (.getfield 36, 3, 12, 19, 2, 1) := by decide +kernel
theorem f249_4 : mFetch 249 4 = some (.iconst 0, 1, 0, 0, 0, 0) := by decide +kernel
theorem f249_5 : mFetch 249 5 = some (.iload_n 1, 1, 0, 0, 0, 0) := by decide +kernel
theorem f249_6 : mFetch 249 6 = some (.i2l, 1, 0, 0, 0, 0) := by decide +kernel
theorem f249_7 : mFetch 249 7 = some (.lastore, 1, 0, 0, 0, 0) := by decide +kernel
theorem f249_8 : mFetch 249 8 = some (.aload_n 0, 1, 0, 0, 0, 0) := by decide +kernel
theorem f249_9 : mFetch 249 9 = some (.getfield 36, 3, 12, 19, 2, 1) := by decide +kernel
theorem f249_12 : mFetch 249 12 = some (.iconst 1, 1, 0, 0, 0, 0) := by decide +kernel
theorem f249_13 : mFetch 249 13 = some (.aload_n 0, 1, 0, 0, 0, 0) := by decide +kernel
theorem f249_14 : mFetch 249 14 = some (.getfield 39, 3, 12, 20, 2, 1) := by decide +kernel
theorem f249_17 : mFetch 249 17 = some (.bipush 117, 2, 0, 0, 0, 0) := by decide +kernel
theorem f249_19 : mFetch 249 19 = some (.iload_n 1, 1, 0, 0, 0, 0) := by decide +kernel
theorem f249_20 : mFetch 249 20 = some (.iadd, 1, 0, 0, 0, 0) := by decide +kernel
theorem f249_21 : mFetch 249 21 = some (.iaload, 1, 0, 0, 0, 0) := by decide +kernel
theorem f249_22 : mFetch 249 22 = some (.invokestatic 427, 3, 169, 0, 1, 99) := by decide +kernel
theorem f249_25 : mFetch 249 25 = some (.i2l, 1, 0, 0, 0, 0) := by decide +kernel
theorem f249_26 : mFetch 249 26 = some (.lastore, 1, 0, 0, 0, 0) := by decide +kernel
theorem f249_27 : mFetch 249 27 = some (.aload_n 0, 1, 0, 0, 0, 0) := by decide +kernel
theorem f249_28 : mFetch 249 28 = some (.getfield 36, 3, 12, 19, 2, 1) := by decide +kernel
theorem f249_31 : mFetch 249 31 = some (.iconst 2, 1, 0, 0, 0, 0) := by decide +kernel
theorem f249_32 : mFetch 249 32 = some (.aload_n 0, 1, 0, 0, 0, 0) := by decide +kernel
theorem f249_33 : mFetch 249 33 = some (.getfield 39, 3, 12, 20, 2, 1) := by decide +kernel
theorem f249_36 : mFetch 249 36 = some (.bipush 123, 2, 0, 0, 0, 0) := by decide +kernel
theorem f249_38 : mFetch 249 38 = some (.iload_n 1, 1, 0, 0, 0, 0) := by decide +kernel
theorem f249_39 : mFetch 249 39 = some (.iadd, 1, 0, 0, 0, 0) := by decide +kernel
theorem f249_40 : mFetch 249 40 = some (.iaload, 1, 0, 0, 0, 0) := by decide +kernel
theorem f249_41 : mFetch 249 41 = some (.i2l, 1, 0, 0, 0, 0) := by decide +kernel
theorem f249_42 : mFetch 249 42 = some (.lastore, 1, 0, 0, 0, 0) := by decide +kernel
theorem f249_43 : mFetch 249 43 = some (.aload_n 0, 1, 0, 0, 0, 0) := by decide +kernel
theorem f249_44 : mFetch 249 44 = some (.getfield 36, 3, 12, 19, 2, 1) := by decide +kernel
theorem f249_47 : mFetch 249 47 = some (.iconst 3, 1, 0, 0, 0, 0) := by decide +kernel
theorem f249_48 : mFetch 249 48 = some (.aload_n 0, 1, 0, 0, 0, 0) := by decide +kernel
theorem f249_49 : mFetch 249 49 = some (.getfield 39, 3, 12, 20, 2, 1) := by decide +kernel
theorem f249_52 : mFetch 249 52 = some (.sipush 129, 3, 0, 0, 0, 0) := by decide +kernel
theorem f249_55 : mFetch 249 55 = some (.iload_n 1, 1, 0, 0, 0, 0) := by decide +kernel
theorem f249_56 : mFetch 249 56 = some (.iadd, 1, 0, 0, 0, 0) := by decide +kernel
theorem f249_57 : mFetch 249 57 = some (.iaload, 1, 0, 0, 0, 0) := by decide +kernel
theorem f249_58 : mFetch 249 58 = some (.i2l, 1, 0, 0, 0, 0) := by decide +kernel
theorem f249_59 : mFetch 249 59 = some (.lastore, 1, 0, 0, 0, 0) := by decide +kernel
theorem f249_60 : mFetch 249 60 = some (.aload_n 0, 1, 0, 0, 0, 0) := by decide +kernel
theorem f249_61 : mFetch 249 61 = some (.getfield 36, 3, 12, 19, 2, 1) := by decide +kernel
theorem f249_64 : mFetch 249 64 = some (.iconst 4, 1, 0, 0, 0, 0) := by decide +kernel
theorem f249_65 : mFetch 249 65 = some (.aload_n 0, 1, 0, 0, 0, 0) := by decide +kernel
theorem f249_66 : mFetch 249 66 = some (.getfield 396, 3, 12, 29, 0, 1) := by decide +kernel
theorem f249_69 : mFetch 249 69 = some (.i2l, 1, 0, 0, 0, 0) := by decide +kernel
theorem f249_70 : mFetch 249 70 = some (.lastore, 1, 0, 0, 0, 0) := by decide +kernel
theorem f249_71 : mFetch 249 71 = some (.aload_n 0, 1, 0, 0, 0, 0) := by decide +kernel
theorem f249_72 : mFetch 249 72 = some (.getfield 36, 3, 12, 19, 2, 1) := by decide +kernel
theorem f249_75 : mFetch 249 75 = some (.iconst 5, 1, 0, 0, 0, 0) := by decide +kernel
theorem f249_76 : mFetch 249 76 = some (.aload_n 0, 1, 0, 0, 0, 0) := by decide +kernel
theorem f249_77 : mFetch 249 77 = some (.getfield 399, 3, 12, 30, 0, 1) := by decide +kernel
theorem f249_80 : mFetch 249 80 = some (.i2l, 1, 0, 0, 0, 0) := by decide +kernel
theorem f249_81 : mFetch 249 81 = some (.lastore, 1, 0, 0, 0, 0) := by decide +kernel
theorem f249_82 : mFetch 249 82 = some (.aload_n 0, 1, 0, 0, 0, 0) := by decide +kernel
theorem f249_83 : mFetch 249 83 = some (.getfield 36, 3, 12, 19, 2, 1) := by decide +kernel
theorem f249_86 : mFetch 249 86 = some (.bipush 6, 2, 0, 0, 0, 0) := by decide +kernel
theorem f249_88 : mFetch 249 88 = some (.aload_n 0, 1, 0, 0, 0, 0) := by decide +kernel
theorem f249_89 : mFetch 249 89 = some (.getfield 402, 3, 12, 31, 0, 1) := by decide +kernel
theorem f249_92 : mFetch 249 92 = some (.i2l, 1, 0, 0, 0, 0) := by decide +kernel
theorem f249_93 : mFetch 249 93 = some (.lastore, 1, 0, 0, 0, 0) := by decide +kernel
theorem f249_94 : mFetch 249 94 = some (.aload_n 0, 1, 0, 0, 0, 0) := by decide +kernel
theorem f249_95 : mFetch 249 95 = some (.getfield 36, 3, 12, 19, 2, 1) := by decide +kernel
theorem f249_98 : mFetch 249 98 = some (.bipush 7, 2, 0, 0, 0, 0) := by decide +kernel
theorem f249_100 : mFetch 249 100 = some (.aload_n 0, 1, 0, 0, 0, 0) := by decide +kernel
theorem f249_101 : mFetch 249 101 = some (.iload_n 1, 1, 0, 0, 0, 0) := by decide +kernel
theorem f249_102 : mFetch 249 102 = some (.invokevirtual 430, 3, 220, 0, 2, 12) := by decide +kernel
theorem f249_105 : mFetch 249 105 = some (.i2l, 1, 0, 0, 0, 0) := by decide +kernel
theorem f249_106 : mFetch 249 106 = some (.lastore, 1, 0, 0, 0, 0) := by decide +kernel
theorem f249_107 : mFetch 249 107 = some (.aload_n 0, 1, 0, 0, 0, 0) := by decide +kernel
theorem f249_108 : mFetch 249 108 = some (.getfield 36, 3, 12, 19, 2, 1) := by decide +kernel
theorem f249_111 : mFetch 249 111 = some (.bipush 8, 2, 0, 0, 0, 0) := by decide +kernel
theorem f249_113 : mFetch 249 113 = some (.aload_n 0, 1, 0, 0, 0, 0) := by decide +kernel
theorem f249_114 : mFetch 249 114 = some (.invokevirtual 433, 3, 248, 0, 1, 12) := by decide +kernel
theorem f249_117 : mFetch 249 117 = some (.i2l, 1, 0, 0, 0, 0) := by decide +kernel
theorem f249_118 : mFetch 249 118 = some (.lastore, 1, 0, 0, 0, 0) := by decide +kernel
theorem f249_119 : mFetch 249 119 = some (.aload_n 0, 1, 0, 0, 0, 0) := by decide +kernel
theorem f249_120 : mFetch 249 120 = some (.getfield 36, 3, 12, 19, 2, 1) := by decide +kernel
theorem f249_123 : mFetch 249 123 = some (.bipush 9, 2, 0, 0, 0, 0) := by decide +kernel
theorem f249_125 : mFetch 249 125 = some (.aload_n 0, 1, 0, 0, 0, 0) := by decide +kernel
theorem f249_126 : mFetch 249 126 = some (.invokevirtual 436, 3, 221, 0, 1, 12) := by decide +kernel
theorem f249_129 : mFetch 249 129 = some (.invokestatic 427, 3, 169, 0, 1, 99) := by decide +kernel
theorem f249_132 : mFetch 249 132 = some (.i2l, 1, 0, 0, 0, 0) := by decide +kernel
theorem f249_133 : mFetch 249 133 = some (.lastore, 1, 0, 0, 0, 0) := by decide +kernel
theorem f249_134 : mFetch 249 134 = some (.aload_n 0, 1, 0, 0, 0, 0) := by decide +kernel
theorem f249_135 : mFetch 249 135 = some (.getfield 36, 3, 12, 19, 2, 1) := by decide +kernel
theorem f249_138 : mFetch 249 138 = some (.bipush 10, 2, 0, 0, 0, 0) := by decide +kernel
theorem f249_140 : mFetch 249 140 = some (.aload_n 0, 1, 0, 0, 0, 0) := by decide +kernel
theorem f249_141 : mFetch 249 141 = some (.getfield 39, 3, 12, 20, 2, 1) := by decide +kernel
theorem f249_144 : mFetch 249 144 = some (.iconst 5, 1, 0, 0, 0, 0) := by decide +kernel
theorem f249_145 : mFetch 249 145 = some (.iaload, 1, 0, 0, 0, 0) := by decide +kernel
theorem f249_146 : mFetch 249 146 = some (.i2l, 1, 0, 0, 0, 0) := by decide +kernel
theorem f249_147 : mFetch 249 147 = some (.lastore, 1, 0, 0, 0, 0) := by decide +kernel
theorem f249_148 : mFetch 249 148 = some (.aload_n 0, 1, 0, 0, 0, 0) := by decide +kernel
theorem f249_149 : mFetch 249 149 = some (.aload_n 0, 1, 0, 0, 0, 0) := by decide +kernel
theorem f249_150 : mFetch 249 150 = some (.getfield 42, 3, 12, 21, 0, 1) := by decide +kernel
theorem f249_153 : mFetch 249 153 = some (.invokevirtual 439, 3, 247, 0, 2, 12) := by decide +kernel
theorem f249_156 : mFetch 249 156 = some (.lreturn, 1, 0, 0, 0, 0) := by decide +kernel
theorem b249_0 {X : (Nat → Int) × Nat} {d : Nat} {s : mSt} {Q : mQ} {x1 : Int} (h_1 : 0 ≤ (w32 (117 + x1)) ∧ (w32 (117 + x1)) < 166) (h_2 : Sp X d 169 [mI ((uS s 416 0 x1) 417 (w32 (117 + x1)).toNat)] (uS s 416 0 x1) (fun r s' => ∃ v : Int, r = some (mI v) ∧ Wp X (d + 1) 249 25 [some (mR 407), some (mI x1)] [mI v, mI 1, mR 416] s' Q)) : Wp X (d + 1) 249 0 [some (mR 407), some (mI x1)] [] s Q := Wp_step k249 f249_0 (Wp_step k249 f249_1 ⟨kf_407, 416, rf_407_19, Wp_step k249 f249_4 (Wp_step k249 f249_5 (Wp_step k249 f249_6 (Wp_step k249 f249_7 ⟨11, af_416, ⟨by decide, by decide⟩, Wp_step k249 f249_8 (Wp_step k249 f249_9 ⟨kf_407, 416, rf_407_19, Wp_step k249 f249_12 (Wp_step k249 f249_13 (Wp_step k249 f249_14 ⟨kf_407, 417, rf_407_20, Wp_step k249 f249_17 (Wp_step k249 f249_19 (Wp_step k249 f249_20 (Wp_step k249 f249_21 ⟨166, af_417, h_1, Wp_step k249 f249_22 ⟨⟨Nat.le_of_ble_eq_true rfl, Nat.le_refl _⟩, _, rfl, Sp_E h_2⟩⟩)))⟩))⟩)⟩)))⟩)
theorem b249_25 {X : (Nat → Int) × Nat} {d : Nat} {s : mSt} {Q : mQ} {x1 : Int} {xt1 : Int} {xt2 : Int} (h_1 : 0 ≤ xt1 ∧ xt1 < 11) (h_2 : 0 ≤ (w32 (123 + x1)) ∧ (w32 (123 + x1)) < 166) (h_3 : 0 ≤ (w32 (129 + x1)) ∧ (w32 (129 + x1)) < 166) (h_4 : Sp X d 220 [mR 407, mI x1] (uS (uS (uS (uS (uS (uS s 416 xt1.toNat xt2) 416 2 ((uS s 416 xt1.toNat xt2) 417 (w32 (123 + x1)).toNat)) 416 3 ((uS (uS s 416 xt1.toNat xt2) 416 2 ((uS s 416 xt1.toNat xt2) 417 (w32 (123 + x1)).toNat)) 417 (w32 (129 + x1)).toNat)) 416 4 ((uS (uS (uS s 416 xt1.toNat xt2) 416 2 ((uS s 416 xt1.toNat xt2) 417 (w32 (123 + x1)).toNat)) 416 3 ((uS (uS s 416 xt1.toNat xt2) 416 2 ((uS s 416 xt1.toNat xt2) 417 (w32 (123 + x1)).toNat)) 417 (w32 (129 + x1)).toNat)) 407 29)) 416 5 ((uS (uS (uS (uS s 416 xt1.toNat xt2) 416 2 ((uS s 416 xt1.toNat xt2) 417 (w32 (123 + x1)).toNat)) 416 3 ((uS (uS s 416 xt1.toNat xt2) 416 2 ((uS s 416 xt1.toNat xt2) 417 (w32 (123 + x1)).toNat)) 417 (w32 (129 + x1)).toNat)) 416 4 ((uS (uS (uS s 416 xt1.toNat xt2) 416 2 ((uS s 416 xt1.toNat xt2) 417 (w32 (123 + x1)).toNat)) 416 3 ((uS (uS s 416 xt1.toNat xt2) 416 2 ((uS s 416 xt1.toNat xt2) 417 (w32 (123 + x1)).toNat)) 417 (w32 (129 + x1)).toNat)) 407 29)) 407 30)) 416 6 ((uS (uS (uS (uS (uS s 416 xt1.toNat xt2) 416 2 ((uS s 416 xt1.toNat xt2) 417 (w32 (123 + x1)).toNat)) 416 3 ((uS (uS s 416 xt1.toNat xt2) 416 2 ((uS s 416 xt1.toNat xt2) 417 (w32 (123 + x1)).toNat)) 417 (w32 (129 + x1)).toNat)) 416 4 ((uS (uS (uS s 416 xt1.toNat xt2) 416 2 ((uS s 416 xt1.toNat xt2) 417 (w32 (123 + x1)).toNat)) 416 3 ((uS (uS s 416 xt1.toNat xt2) 416 2 ((uS s 416 xt1.toNat xt2) 417 (w32 (123 + x1)).toNat)) 417 (w32 (129 + x1)).toNat)) 407 29)) 416 5 ((uS (uS (uS (uS s 416 xt1.toNat xt2) 416 2 ((uS s 416 xt1.toNat xt2) 417 (w32 (123 + x1)).toNat)) 416 3 ((uS (uS s 416 xt1.toNat xt2) 416 2 ((uS s 416 xt1.toNat xt2) 417 (w32 (123 + x1)).toNat)) 417 (w32 (129 + x1)).toNat)) 416 4 ((uS (uS (uS s 416 xt1.toNat xt2) 416 2 ((uS s 416 xt1.toNat xt2) 417 (w32 (123 + x1)).toNat)) 416 3 ((uS (uS s 416 xt1.toNat xt2) 416 2 ((uS s 416 xt1.toNat xt2) 417 (w32 (123 + x1)).toNat)) 417 (w32 (129 + x1)).toNat)) 407 29)) 407 30)) 407 31)) (fun r s' => ∃ v : Int, r = some (mI v) ∧ Wp X (d + 1) 249 105 [some (mR 407), some (mI x1)] [mI v, mI 7, mR 416] s' Q)) : Wp X (d + 1) 249 25 [some (mR 407), some (mI x1)] [mI xt2, mI xt1, mR 416] s Q := Wp_step k249 f249_25 (Wp_step k249 f249_26 ⟨11, af_416, h_1, Wp_step k249 f249_27 (Wp_step k249 f249_28 ⟨kf_407, 416, rf_407_19, Wp_step k249 f249_31 (Wp_step k249 f249_32 (Wp_step k249 f249_33 ⟨kf_407, 417, rf_407_20, Wp_step k249 f249_36 (Wp_step k249 f249_38 (Wp_step k249 f249_39 (Wp_step k249 f249_40 ⟨166, af_417, h_2, Wp_step k249 f249_41 (Wp_step k249 f249_42 ⟨11, af_416, ⟨by decide, by decide⟩, Wp_step k249 f249_43 (Wp_step k249 f249_44 ⟨kf_407, 416, rf_407_19, Wp_step k249 f249_47 (Wp_step k249 f249_48 (Wp_step k249 f249_49 ⟨kf_407, 417, rf_407_20, Wp_step k249 f249_52 (Wp_step k249 f249_55 (Wp_step k249 f249_56 (Wp_step k249 f249_57 ⟨166, af_417, h_3, Wp_step k249 f249_58 (Wp_step k249 f249_59 ⟨11, af_416, ⟨by decide, by decide⟩, Wp_step k249 f249_60 (Wp_step k249 f249_61 ⟨kf_407, 416, rf_407_19, Wp_step k249 f249_64 (Wp_step k249 f249_65 (Wp_step k249 f249_66 ⟨kf_407, Wp_step k249 f249_69 (Wp_step k249 f249_70 ⟨11, af_416, ⟨by decide, by decide⟩, Wp_step k249 f249_71 (Wp_step k249 f249_72 ⟨kf_407, 416, rf_407_19, Wp_step k249 f249_75 (Wp_step k249 f249_76 (Wp_step k249 f249_77 ⟨kf_407, Wp_step k249 f249_80 (Wp_step k249 f249_81 ⟨11, af_416, ⟨by decide, by decide⟩, Wp_step k249 f249_82 (Wp_step k249 f249_83 ⟨kf_407, 416, rf_407_19, Wp_step k249 f249_86 (Wp_step k249 f249_88 (Wp_step k249 f249_89 ⟨kf_407, Wp_step k249 f249_92 (Wp_step k249 f249_93 ⟨11, af_416, ⟨by decide, by decide⟩, Wp_step k249 f249_94 (Wp_step k249 f249_95 ⟨kf_407, 416, rf_407_19, Wp_step k249 f249_98 (Wp_step k249 f249_100 (Wp_step k249 f249_101 (Wp_step k249 f249_102 ⟨⟨kf_407, Nat.le_of_ble_eq_true rfl⟩, Nat.le_refl _, _, rfl, Sp_E h_4⟩)))⟩)⟩)⟩))⟩)⟩)⟩))⟩)⟩)⟩))⟩)⟩)⟩)))⟩))⟩)⟩)⟩)))⟩))⟩)⟩)
theorem b249_105 {X : (Nat → Int) × Nat} {d : Nat} {s : mSt} {Q : mQ} {x1 : Int} {xt1 : Int} {xt2 : Int} (h_1 : 0 ≤ xt1 ∧ xt1 < 11) (h_2 : Sp X d 248 [mR 407] (uS s 416 xt1.toNat xt2) (fun r s' => ∃ v : Int, r = some (mI v) ∧ Wp X (d + 1) 249 117 [some (mR 407), some (mI x1)] [mI v, mI 8, mR 416] s' Q)) : Wp X (d + 1) 249 105 [some (mR 407), some (mI x1)] [mI xt2, mI xt1, mR 416] s Q := Wp_step k249 f249_105 (Wp_step k249 f249_106 ⟨11, af_416, h_1, Wp_step k249 f249_107 (Wp_step k249 f249_108 ⟨kf_407, 416, rf_407_19, Wp_step k249 f249_111 (Wp_step k249 f249_113 (Wp_step k249 f249_114 ⟨⟨kf_407, Nat.le_of_ble_eq_true rfl⟩, Nat.le_refl _, _, rfl, Sp_E h_2⟩))⟩)⟩)
theorem b249_117 {X : (Nat → Int) × Nat} {d : Nat} {s : mSt} {Q : mQ} {x1 : Int} {xt1 : Int} {xt2 : Int} (h_1 : 0 ≤ xt1 ∧ xt1 < 11) (h_2 : Sp X d 221 [mR 407] (uS s 416 xt1.toNat xt2) (fun r s' => ∃ v : Int, r = some (mI v) ∧ Wp X (d + 1) 249 129 [some (mR 407), some (mI x1)] [mI v, mI 9, mR 416] s' Q)) : Wp X (d + 1) 249 117 [some (mR 407), some (mI x1)] [mI xt2, mI xt1, mR 416] s Q := Wp_step k249 f249_117 (Wp_step k249 f249_118 ⟨11, af_416, h_1, Wp_step k249 f249_119 (Wp_step k249 f249_120 ⟨kf_407, 416, rf_407_19, Wp_step k249 f249_123 (Wp_step k249 f249_125 (Wp_step k249 f249_126 ⟨⟨kf_407, Nat.le_of_ble_eq_true rfl⟩, Nat.le_refl _, _, rfl, Sp_E h_2⟩))⟩)⟩)
theorem b249_129 {X : (Nat → Int) × Nat} {d : Nat} {s : mSt} {Q : mQ} {x1 : Int} {xt1 : Int} {xt2 : Int} (h_1 : Sp X d 169 [mI xt2] s (fun r s' => ∃ v : Int, r = some (mI v) ∧ Wp X (d + 1) 249 132 [some (mR 407), some (mI x1)] [mI v, mI xt1, mR 416] s' Q)) : Wp X (d + 1) 249 129 [some (mR 407), some (mI x1)] [mI xt2, mI xt1, mR 416] s Q := Wp_step k249 f249_129 ⟨⟨Nat.le_of_ble_eq_true rfl, Nat.le_refl _⟩, _, rfl, Sp_E h_1⟩
theorem b249_132 {X : (Nat → Int) × Nat} {d : Nat} {s : mSt} {Q : mQ} {x1 : Int} {xt1 : Int} {xt2 : Int} (h_1 : 0 ≤ xt1 ∧ xt1 < 11) (h_2 : Sp X d 247 [mR 407, mI ((uS (uS s 416 xt1.toNat xt2) 416 10 ((uS s 416 xt1.toNat xt2) 417 5)) 407 21)] (uS (uS s 416 xt1.toNat xt2) 416 10 ((uS s 416 xt1.toNat xt2) 417 5)) (fun r s' => ∃ v : Int, r = some (mJ v) ∧ Wp X (d + 1) 249 156 [some (mR 407), some (mI x1)] [mJ v] s' Q)) : Wp X (d + 1) 249 132 [some (mR 407), some (mI x1)] [mI xt2, mI xt1, mR 416] s Q := Wp_step k249 f249_132 (Wp_step k249 f249_133 ⟨11, af_416, h_1, Wp_step k249 f249_134 (Wp_step k249 f249_135 ⟨kf_407, 416, rf_407_19, Wp_step k249 f249_138 (Wp_step k249 f249_140 (Wp_step k249 f249_141 ⟨kf_407, 417, rf_407_20, Wp_step k249 f249_144 (Wp_step k249 f249_145 ⟨166, af_417, ⟨by decide, by decide⟩, Wp_step k249 f249_146 (Wp_step k249 f249_147 ⟨11, af_416, ⟨by decide, by decide⟩, Wp_step k249 f249_148 (Wp_step k249 f249_149 (Wp_step k249 f249_150 ⟨kf_407, Wp_step k249 f249_153 ⟨⟨kf_407, Nat.le_of_ble_eq_true rfl⟩, Nat.le_refl _, _, rfl, Sp_E h_2⟩⟩))⟩)⟩)⟩))⟩)⟩)
theorem b249_156 {X : (Nat → Int) × Nat} {d : Nat} {s : mSt} {Q : mQ} {x1 : Int} {xt0 : Int} (h_1 : Q (some (mJ xt0)) s) : Wp X d 249 156 [some (mR 407), some (mI x1)] [mJ xt0] s Q := Wp_step k249 f249_156 ⟨⟨rfl, rfl⟩, h_1⟩
theorem e249 {X : (Nat → Int) × Nat} {d : Nat} {s : mSt} {Q : mQ} {x1 : Int} (h : Wp X d 249 0 [some (mR 407), some (mI x1)] [] s Q) : Sp X d 249 [mR 407, mI x1] s Q := Sp_of (show mCe 249 = 0 by decide +kernel) (by rw [show mML 249 = 2 by decide +kernel]; rfl) (Nat.le_trans (Nat.le_of_ble_eq_true (show Nat.ble (mArgs _).length 2 = true from rfl)) (show 2 ≤ mML 249 by decide +kernel)) h
-- 250 ClashDayModel.choice()I
theorem k250 : mRk 250 = 1 := by decide +kernel
theorem f250_0 : mFetch 250 0 = some (.iconst (-1), 1, 0, 0, 0, 0) := by decide +kernel
theorem f250_1 : mFetch 250 1 = some (.istore_n 1, 1, 0, 0, 0, 0) := by decide +kernel
theorem f250_2 : mFetch 250 2 = some (.lconst 0, 1, 0, 0, 0, 0) := by decide +kernel
theorem f250_3 : mFetch 250 3 = some (.lstore_n 2, 1, 0, 0, 0, 0) := by decide +kernel
theorem f250_4 : mFetch 250 4 = some (.iconst 0, 1, 0, 0, 0, 0) := by decide +kernel
theorem f250_5 : mFetch 250 5 = some (.istore 4, 2, 0, 0, 0, 0) := by decide +kernel
theorem f250_7 : mFetch 250 7 = some (.iload 4, 2, 0, 0, 0, 0) := by decide +kernel
theorem f250_9 : mFetch 250 9 = some (.aload_n 0, 1, 0, 0, 0, 0) := by decide +kernel
theorem f250_10 : mFetch 250 10 = some (.getfield 39, 3, 12, 20, 2, 1) := by decide +kernel
theorem f250_13 : mFetch 250 13 = some (.iconst 4, 1, 0, 0, 0, 0) := by decide +kernel
theorem f250_14 : mFetch 250 14 = some (.iaload, 1, 0, 0, 0, 0) := by decide +kernel
theorem f250_15 : mFetch 250 15 = some (.if_icmp .ge 65, 3, 80, 0, 0, 0) := by decide +kernel
theorem f250_18 : mFetch 250 18 = some (.aload_n 0, 1, 0, 0, 0, 0) := by decide +kernel
theorem f250_19 : mFetch 250 19 = some (.iload 4, 2, 0, 0, 0, 0) := by decide +kernel
theorem f250_21 : mFetch 250 21 = some (.invokevirtual 328, 3, 215, 0, 2, 12) := by decide +kernel
theorem f250_24 : mFetch 250 24 = some (.ifCond .eq 50, 3, 74, 0, 0, 0) := by decide +kernel
theorem f250_27 : mFetch 250 27 = some (.aload_n 0, 1, 0, 0, 0, 0) := by decide +kernel
theorem f250_28 : mFetch 250 28 = some (.iload 4, 2, 0, 0, 0, 0) := by decide +kernel
theorem f250_30 : mFetch 250 30 = some (.invokevirtual 420, 3, 244, 0, 2, 12) := by decide +kernel
theorem f250_33 : mFetch 250 33 = some (.ifCond .ne 6, 3, 39, 0, 0, 0) := by decide +kernel
theorem f250_36 : mFetch 250 36 = some (.goto 38, 3, 74, 0, 0, 0) := by decide +kernel
theorem f250_39 : mFetch 250 39 = some (.aload_n 0, 1, 0, 0, 0, 0) := by decide +kernel
theorem f250_40 : mFetch 250 40 = some (.getfield 42, 3, 12, 21, 0, 1) := by decide +kernel
theorem f250_43 : mFetch 250 43 = some (.ifCond .ge 7, 3, 50, 0, 0, 0) := by decide +kernel
theorem f250_46 : mFetch 250 46 = some (.lconst 1, 1, 0, 0, 0, 0) := by decide +kernel
theorem f250_47 : mFetch 250 47 = some (.goto 9, 3, 56, 0, 0, 0) := by decide +kernel
theorem f250_50 : mFetch 250 50 = some (.aload_n 0, 1, 0, 0, 0, 0) := by decide +kernel
theorem f250_51 : mFetch 250 51 = some (.iload 4, 2, 0, 0, 0, 0) := by decide +kernel
theorem f250_53 : mFetch 250 53 = some (.invokevirtual 443, 3, 249, 0, 2, 12) := by decide +kernel
theorem f250_56 : mFetch 250 56 = some (.lstore 5, 2, 0, 0, 0, 0) := by decide +kernel
theorem f250_58 : mFetch 250 58 = some (.lload 5, 2, 0, 0, 0, 0) := by decide +kernel
theorem f250_60 : mFetch 250 60 = some (.lload_n 2, 1, 0, 0, 0, 0) := by decide +kernel
theorem f250_61 : mFetch 250 61 = some (.lcmp, 1, 0, 0, 0, 0) := by decide +kernel
theorem f250_62 : mFetch 250 62 = some (.ifCond .gt 6, 3, 68, 0, 0, 0) := by decide +kernel
theorem f250_65 : mFetch 250 65 = some (.goto 9, 3, 74, 0, 0, 0) := by decide +kernel
theorem f250_68 : mFetch 250 68 = some (.iload 4, 2, 0, 0, 0, 0) := by decide +kernel
theorem f250_70 : mFetch 250 70 = some (.istore_n 1, 1, 0, 0, 0, 0) := by decide +kernel
theorem f250_71 : mFetch 250 71 = some (.lload 5, 2, 0, 0, 0, 0) := by decide +kernel
theorem f250_73 : mFetch 250 73 = some (.lstore_n 2, 1, 0, 0, 0, 0) := by decide +kernel
theorem f250_74 : mFetch 250 74 = some (.iinc 4 1, 3, 0, 0, 0, 0) := by decide +kernel
theorem f250_77 : mFetch 250 77 = some (.goto (-70), 3, 7, 0, 0, 0) := by decide +kernel
theorem f250_80 : mFetch 250 80 = some (.iload_n 1, 1, 0, 0, 0, 0) := by decide +kernel
theorem f250_81 : mFetch 250 81 = some (.ireturn, 1, 0, 0, 0, 0) := by decide +kernel
theorem b250_0 {X : (Nat → Int) × Nat} {d : Nat} {s : mSt} {Q : mQ} {l1 : Option mV} {l2 : Option mV} {l3 : Option mV} {l4 : Option mV} {l5 : Option mV} {l6 : Option mV} (h_1 : Wp X d 250 7 [some (mR 407), some (mI (-1)), some (mJ 0), none, some (mI 0), l5, l6] [] s Q) : Wp X d 250 0 [some (mR 407), l1, l2, l3, l4, l5, l6] [] s Q := Wp_step k250 f250_0 (Wp_step k250 f250_1 (Wp_step k250 f250_2 (Wp_step k250 f250_3 (Wp_step k250 f250_4 (Wp_step k250 f250_5 (h_1))))))
theorem b250_7 {X : (Nat → Int) × Nat} {d : Nat} {s : mSt} {Q : mQ} {x1 : Int} {x2 : Int} {l3 : Option mV} {x4 : Int} {l5 : Option mV} {l6 : Option mV} (h_1 : (s 417 4) ≤ x4 → Wp X d 250 80 [some (mR 407), some (mI x1), some (mJ x2), l3, some (mI x4), l5, l6] [] s Q) (h_2 : ¬ (s 417 4) ≤ x4 → Wp X d 250 18 [some (mR 407), some (mI x1), some (mJ x2), l3, some (mI x4), l5, l6] [] s Q) : Wp X d 250 7 [some (mR 407), some (mI x1), some (mJ x2), l3, some (mI x4), l5, l6] [] s Q := Wp_step k250 f250_7 (Wp_step k250 f250_9 (Wp_step k250 f250_10 ⟨kf_407, 417, rf_407_20, Wp_step k250 f250_13 (Wp_step k250 f250_14 ⟨166, af_417, ⟨by decide, by decide⟩, Wp_step k250 f250_15 ⟨h_1, h_2⟩⟩)⟩))
theorem b250_18 {X : (Nat → Int) × Nat} {d : Nat} {s : mSt} {Q : mQ} {x1 : Int} {x2 : Int} {l3 : Option mV} {x4 : Int} {l5 : Option mV} {l6 : Option mV} (h_1 : Sp X d 215 [mR 407, mI x4] s (fun r s' => ∃ v : Int, r = some (mI v) ∧ Wp X (d + 1) 250 24 [some (mR 407), some (mI x1), some (mJ x2), l3, some (mI x4), l5, l6] [mI v] s' Q)) : Wp X (d + 1) 250 18 [some (mR 407), some (mI x1), some (mJ x2), l3, some (mI x4), l5, l6] [] s Q := Wp_step k250 f250_18 (Wp_step k250 f250_19 (Wp_step k250 f250_21 ⟨⟨kf_407, Nat.le_of_ble_eq_true rfl⟩, Nat.le_refl _, _, rfl, Sp_E h_1⟩))
theorem b250_24 {X : (Nat → Int) × Nat} {d : Nat} {s : mSt} {Q : mQ} {x1 : Int} {x2 : Int} {l3 : Option mV} {x4 : Int} {l5 : Option mV} {l6 : Option mV} {xt0 : Int} (h_1 : xt0 = 0 → Wp X d 250 74 [some (mR 407), some (mI x1), some (mJ x2), l3, some (mI x4), l5, l6] [] s Q) (h_2 : ¬ xt0 = 0 → Wp X d 250 27 [some (mR 407), some (mI x1), some (mJ x2), l3, some (mI x4), l5, l6] [] s Q) : Wp X d 250 24 [some (mR 407), some (mI x1), some (mJ x2), l3, some (mI x4), l5, l6] [mI xt0] s Q := Wp_step k250 f250_24 ⟨h_1, h_2⟩
theorem b250_27 {X : (Nat → Int) × Nat} {d : Nat} {s : mSt} {Q : mQ} {x1 : Int} {x2 : Int} {l3 : Option mV} {x4 : Int} {l5 : Option mV} {l6 : Option mV} (h_1 : Sp X d 244 [mR 407, mI x4] s (fun r s' => ∃ v : Int, r = some (mI v) ∧ Wp X (d + 1) 250 33 [some (mR 407), some (mI x1), some (mJ x2), l3, some (mI x4), l5, l6] [mI v] s' Q)) : Wp X (d + 1) 250 27 [some (mR 407), some (mI x1), some (mJ x2), l3, some (mI x4), l5, l6] [] s Q := Wp_step k250 f250_27 (Wp_step k250 f250_28 (Wp_step k250 f250_30 ⟨⟨kf_407, Nat.le_of_ble_eq_true rfl⟩, Nat.le_refl _, _, rfl, Sp_E h_1⟩))
theorem b250_33 {X : (Nat → Int) × Nat} {d : Nat} {s : mSt} {Q : mQ} {x1 : Int} {x2 : Int} {l3 : Option mV} {x4 : Int} {l5 : Option mV} {l6 : Option mV} {xt0 : Int} (h_1 : ¬ xt0 = 0 → Wp X d 250 39 [some (mR 407), some (mI x1), some (mJ x2), l3, some (mI x4), l5, l6] [] s Q) (h_2 : xt0 = 0 → Wp X d 250 36 [some (mR 407), some (mI x1), some (mJ x2), l3, some (mI x4), l5, l6] [] s Q) : Wp X d 250 33 [some (mR 407), some (mI x1), some (mJ x2), l3, some (mI x4), l5, l6] [mI xt0] s Q := Wp_step k250 f250_33 ⟨h_1, h_2⟩
theorem b250_36 {X : (Nat → Int) × Nat} {d : Nat} {s : mSt} {Q : mQ} {x1 : Int} {x2 : Int} {l3 : Option mV} {x4 : Int} {l5 : Option mV} {l6 : Option mV} (h_1 : Wp X d 250 74 [some (mR 407), some (mI x1), some (mJ x2), l3, some (mI x4), l5, l6] [] s Q) : Wp X d 250 36 [some (mR 407), some (mI x1), some (mJ x2), l3, some (mI x4), l5, l6] [] s Q := Wp_step k250 f250_36 (h_1)
theorem b250_39 {X : (Nat → Int) × Nat} {d : Nat} {s : mSt} {Q : mQ} {x1 : Int} {x2 : Int} {l3 : Option mV} {x4 : Int} {l5 : Option mV} {l6 : Option mV} (h_1 : 0 ≤ (s 407 21) → Wp X d 250 50 [some (mR 407), some (mI x1), some (mJ x2), l3, some (mI x4), l5, l6] [] s Q) (h_2 : ¬ 0 ≤ (s 407 21) → Wp X d 250 46 [some (mR 407), some (mI x1), some (mJ x2), l3, some (mI x4), l5, l6] [] s Q) : Wp X d 250 39 [some (mR 407), some (mI x1), some (mJ x2), l3, some (mI x4), l5, l6] [] s Q := Wp_step k250 f250_39 (Wp_step k250 f250_40 ⟨kf_407, Wp_step k250 f250_43 ⟨h_1, h_2⟩⟩)
theorem b250_46 {X : (Nat → Int) × Nat} {d : Nat} {s : mSt} {Q : mQ} {x1 : Int} {x2 : Int} {l3 : Option mV} {x4 : Int} {l5 : Option mV} {l6 : Option mV} (h_1 : Wp X d 250 56 [some (mR 407), some (mI x1), some (mJ x2), l3, some (mI x4), l5, l6] [mJ 1] s Q) : Wp X d 250 46 [some (mR 407), some (mI x1), some (mJ x2), l3, some (mI x4), l5, l6] [] s Q := Wp_step k250 f250_46 (Wp_step k250 f250_47 (h_1))
theorem b250_50 {X : (Nat → Int) × Nat} {d : Nat} {s : mSt} {Q : mQ} {x1 : Int} {x2 : Int} {l3 : Option mV} {x4 : Int} {l5 : Option mV} {l6 : Option mV} (h_1 : Sp X d 249 [mR 407, mI x4] s (fun r s' => ∃ v : Int, r = some (mJ v) ∧ Wp X (d + 1) 250 56 [some (mR 407), some (mI x1), some (mJ x2), l3, some (mI x4), l5, l6] [mJ v] s' Q)) : Wp X (d + 1) 250 50 [some (mR 407), some (mI x1), some (mJ x2), l3, some (mI x4), l5, l6] [] s Q := Wp_step k250 f250_50 (Wp_step k250 f250_51 (Wp_step k250 f250_53 ⟨⟨kf_407, Nat.le_of_ble_eq_true rfl⟩, Nat.le_refl _, _, rfl, Sp_E h_1⟩))
theorem b250_56 {X : (Nat → Int) × Nat} {d : Nat} {s : mSt} {Q : mQ} {x1 : Int} {x2 : Int} {l3 : Option mV} {x4 : Int} {l5 : Option mV} {l6 : Option mV} {xt0 : Int} (h_1 : 0 < (lCmp xt0 x2) → Wp X d 250 68 [some (mR 407), some (mI x1), some (mJ x2), l3, some (mI x4), some (mJ xt0), none] [] s Q) (h_2 : ¬ 0 < (lCmp xt0 x2) → Wp X d 250 65 [some (mR 407), some (mI x1), some (mJ x2), l3, some (mI x4), some (mJ xt0), none] [] s Q) : Wp X d 250 56 [some (mR 407), some (mI x1), some (mJ x2), l3, some (mI x4), l5, l6] [mJ xt0] s Q := Wp_step k250 f250_56 (Wp_step k250 f250_58 (Wp_step k250 f250_60 (Wp_step k250 f250_61 (Wp_step k250 f250_62 ⟨h_1, h_2⟩))))
theorem b250_65 {X : (Nat → Int) × Nat} {d : Nat} {s : mSt} {Q : mQ} {x1 : Int} {x2 : Int} {l3 : Option mV} {x4 : Int} {x5 : Int} {l6 : Option mV} (h_1 : Wp X d 250 74 [some (mR 407), some (mI x1), some (mJ x2), l3, some (mI x4), some (mJ x5), l6] [] s Q) : Wp X d 250 65 [some (mR 407), some (mI x1), some (mJ x2), l3, some (mI x4), some (mJ x5), l6] [] s Q := Wp_step k250 f250_65 (h_1)
theorem b250_68 {X : (Nat → Int) × Nat} {d : Nat} {s : mSt} {Q : mQ} {x1 : Int} {x2 : Int} {l3 : Option mV} {x4 : Int} {x5 : Int} {l6 : Option mV} (h_1 : Wp X d 250 74 [some (mR 407), some (mI x4), some (mJ x5), none, some (mI x4), some (mJ x5), l6] [] s Q) : Wp X d 250 68 [some (mR 407), some (mI x1), some (mJ x2), l3, some (mI x4), some (mJ x5), l6] [] s Q := Wp_step k250 f250_68 (Wp_step k250 f250_70 (Wp_step k250 f250_71 (Wp_step k250 f250_73 (h_1))))
theorem b250_74 {X : (Nat → Int) × Nat} {d : Nat} {s : mSt} {Q : mQ} {x1 : Int} {x2 : Int} {l3 : Option mV} {x4 : Int} {l5 : Option mV} {l6 : Option mV} (h_1 : Wp X d 250 7 [some (mR 407), some (mI x1), some (mJ x2), kL 0 l3, some (mI (w32 (x4 + 1))), l5, l6] [] s Q) : Wp X d 250 74 [some (mR 407), some (mI x1), some (mJ x2), l3, some (mI x4), l5, l6] [] s Q := Wp_step k250 f250_74 (Wp_step k250 f250_77 (h_1))
theorem b250_80 {X : (Nat → Int) × Nat} {d : Nat} {s : mSt} {Q : mQ} {x1 : Int} {x2 : Int} {l3 : Option mV} {x4 : Int} {l5 : Option mV} {l6 : Option mV} (h_1 : Q (some (mI x1)) s) : Wp X d 250 80 [some (mR 407), some (mI x1), some (mJ x2), l3, some (mI x4), l5, l6] [] s Q := Wp_step k250 f250_80 (Wp_step k250 f250_81 ⟨⟨rfl, trivial⟩, h_1⟩)
theorem e250 {X : (Nat → Int) × Nat} {d : Nat} {s : mSt} {Q : mQ} (h : Wp X d 250 0 [some (mR 407), none, none, none, none, none, none] [] s Q) : Sp X d 250 [mR 407] s Q := Sp_of (show mCe 250 = 0 by decide +kernel) (by rw [show mML 250 = 7 by decide +kernel]; rfl) (Nat.le_trans (Nat.le_of_ble_eq_true (show Nat.ble (mArgs _).length 7 = true from rfl)) (show 7 ≤ mML 250 by decide +kernel)) h
-- 251 ClashDayModel.passes()I
theorem k251 : mRk 251 = 1 := by decide +kernel
theorem f251_0 : mFetch 251 0 = some (.aload_n 0, 1, 0, 0, 0, 0) := by decide +kernel
theorem f251_1 : mFetch 251 1 = some (.invokevirtual 446, 3, 250, 0, 1, 12) := by decide +kernel
theorem f251_4 : mFetch 251 4 = some (.istore_n 1, 1, 0, 0, 0, 0) := by decide +kernel
theorem f251_5 : mFetch 251 5 = some (.iload_n 1, 1, 0, 0, 0, 0) := by decide +kernel
theorem f251_6 : mFetch 251 6 = some (.ifCond .lt 9, 3, 15, 0, 0, 0) := by decide +kernel
theorem f251_9 : mFetch 251 9 = some (.aload_n 0, 1, 0, 0, 0, 0) := by decide +kernel
theorem f251_10 : mFetch 251 10 = some (.iload_n 1, 1, 0, 0, 0, 0) := by decide +kernel
theorem f251_11 : mFetch 251 11 = some (.invokevirtual 449, 3, 245, 0, 2, 12) := by decide +kernel
theorem f251_14 : mFetch 251 14 = some (.pop, 1, 0, 0, 0, 0) := by decide +kernel
theorem f251_15 : mFetch 251 15 = some (.aload_n 0, 1, 0, 0, 0, 0) := by decide +kernel
theorem f251_16 : mFetch 251 16 = some (.getfield 39, 3, 12, 20, 2, 1) := by decide +kernel
theorem f251_19 : mFetch 251 19 = some (.iconst 5, 1, 0, 0, 0, 0) := by decide +kernel
theorem f251_20 : mFetch 251 20 = some (.dup2, 1, 0, 0, 0, 0) := by decide +kernel
theorem f251_21 : mFetch 251 21 = some (.iaload, 1, 0, 0, 0, 0) := by decide +kernel
theorem f251_22 : mFetch 251 22 = some (.iconst 1, 1, 0, 0, 0, 0) := by decide +kernel
theorem f251_23 : mFetch 251 23 = some (.iadd, 1, 0, 0, 0, 0) := by decide +kernel
theorem f251_24 : mFetch 251 24 = some (.iastore, 1, 0, 0, 0, 0) := by decide +kernel
theorem f251_25 : mFetch 251 25 = some (.iload_n 1, 1, 0, 0, 0, 0) := by decide +kernel
theorem f251_26 : mFetch 251 26 = some (.ireturn, 1, 0, 0, 0, 0) := by decide +kernel
theorem b251_0 {X : (Nat → Int) × Nat} {d : Nat} {s : mSt} {Q : mQ} {l1 : Option mV} (h_1 : Sp X d 250 [mR 407] s (fun r s' => ∃ v : Int, r = some (mI v) ∧ Wp X (d + 1) 251 4 [some (mR 407), l1] [mI v] s' Q)) : Wp X (d + 1) 251 0 [some (mR 407), l1] [] s Q := Wp_step k251 f251_0 (Wp_step k251 f251_1 ⟨⟨kf_407, Nat.le_of_ble_eq_true rfl⟩, Nat.le_refl _, _, rfl, Sp_E h_1⟩)
theorem b251_4 {X : (Nat → Int) × Nat} {d : Nat} {s : mSt} {Q : mQ} {l1 : Option mV} {xt0 : Int} (h_1 : xt0 < 0 → Wp X d 251 15 [some (mR 407), some (mI xt0)] [] s Q) (h_2 : ¬ xt0 < 0 → Wp X d 251 9 [some (mR 407), some (mI xt0)] [] s Q) : Wp X d 251 4 [some (mR 407), l1] [mI xt0] s Q := Wp_step k251 f251_4 (Wp_step k251 f251_5 (Wp_step k251 f251_6 ⟨h_1, h_2⟩))
theorem b251_9 {X : (Nat → Int) × Nat} {d : Nat} {s : mSt} {Q : mQ} {x1 : Int} (h_1 : Sp X d 245 [mR 407, mI x1] s (fun r s' => ∃ v : Int, r = some (mI v) ∧ Wp X (d + 1) 251 14 [some (mR 407), some (mI x1)] [mI v] s' Q)) : Wp X (d + 1) 251 9 [some (mR 407), some (mI x1)] [] s Q := Wp_step k251 f251_9 (Wp_step k251 f251_10 (Wp_step k251 f251_11 ⟨⟨kf_407, Nat.le_of_ble_eq_true rfl⟩, Nat.le_refl _, _, rfl, Sp_E h_1⟩))
theorem b251_14 {X : (Nat → Int) × Nat} {d : Nat} {s : mSt} {Q : mQ} {x1 : Int} {xt0 : Int} (h_1 : Wp X d 251 15 [some (mR 407), some (mI x1)] [] s Q) : Wp X d 251 14 [some (mR 407), some (mI x1)] [mI xt0] s Q := Wp_step k251 f251_14 (h_1)
theorem b251_15 {X : (Nat → Int) × Nat} {d : Nat} {s : mSt} {Q : mQ} {x1 : Int} (h_1 : Q (some (mI x1)) (uS s 417 5 (w32 ((s 417 5) + 1)))) : Wp X d 251 15 [some (mR 407), some (mI x1)] [] s Q := Wp_step k251 f251_15 (Wp_step k251 f251_16 ⟨kf_407, 417, rf_407_20, Wp_step k251 f251_19 (Wp_step k251 f251_20 (Wp_step k251 f251_21 ⟨166, af_417, ⟨by decide, by decide⟩, Wp_step k251 f251_22 (Wp_step k251 f251_23 (Wp_step k251 f251_24 ⟨166, af_417, ⟨by decide, by decide⟩, Wp_step k251 f251_25 (Wp_step k251 f251_26 ⟨⟨rfl, trivial⟩, h_1⟩)⟩))⟩))⟩)
theorem e251 {X : (Nat → Int) × Nat} {d : Nat} {s : mSt} {Q : mQ} (h : Wp X d 251 0 [some (mR 407), none] [] s Q) : Sp X d 251 [mR 407] s Q := Sp_of (show mCe 251 = 0 by decide +kernel) (by rw [show mML 251 = 2 by decide +kernel]; rfl) (Nat.le_trans (Nat.le_of_ble_eq_true (show Nat.ble (mArgs _).length 2 = true from rfl)) (show 2 ≤ mML 251 by decide +kernel)) h
-- 252 ClashDayModel.passesAll(I)V
theorem k252 : mRk 252 = 0 := by decide +kernel
theorem f252_0 : mFetch 252 0 = some (.iconst 0, 1, 0, 0, 0, 0) := by decide +kernel
theorem f252_1 : mFetch 252 1 = some (.istore_n 2, 1, 0, 0, 0, 0) := by decide +kernel
theorem f252_2 : mFetch 252 2 = some (.iload_n 2, 1, 0, 0, 0, 0) := by decide +kernel
theorem f252_3 : mFetch 252 3 = some (.iload_n 1, 1, 0, 0, 0, 0) := by decide +kernel
theorem f252_4 : mFetch 252 4 = some (.if_icmp .ge 14, 3, 18, 0, 0, 0) := by decide +kernel
theorem f252_7 : mFetch 252 7 = some (.aload_n 0, 1, 0, 0, 0, 0) := by decide +kernel
theorem f252_8 : mFetch 252 8 = some (.invokevirtual 452, 3, 251, 0, 1, 12) := by decide +kernel
theorem f252_11 : mFetch 252 11 = some (.pop, 1, 0, 0, 0, 0) := by decide +kernel
theorem f252_12 : mFetch 252 12 = some (.iinc 2 1, 3, 0, 0, 0, 0) := by decide +kernel
theorem f252_15 : mFetch 252 15 = some (.goto (-13), 3, 2, 0, 0, 0) := by decide +kernel
theorem f252_18 : mFetch 252 18 = some (.return_, 1, 0, 0, 0, 0) := by decide +kernel
theorem b252_0 {X : (Nat → Int) × Nat} {d : Nat} {s : mSt} {Q : mQ} {x1 : Int} {l2 : Option mV} (h_1 : Wp X d 252 2 [some (mR 407), some (mI x1), some (mI 0)] [] s Q) : Wp X d 252 0 [some (mR 407), some (mI x1), l2] [] s Q := Wp_step k252 f252_0 (Wp_step k252 f252_1 (h_1))
theorem b252_2 {X : (Nat → Int) × Nat} {d : Nat} {s : mSt} {Q : mQ} {x1 : Int} {x2 : Int} (h_1 : x1 ≤ x2 → Wp X d 252 18 [some (mR 407), some (mI x1), some (mI x2)] [] s Q) (h_2 : ¬ x1 ≤ x2 → Wp X d 252 7 [some (mR 407), some (mI x1), some (mI x2)] [] s Q) : Wp X d 252 2 [some (mR 407), some (mI x1), some (mI x2)] [] s Q := Wp_step k252 f252_2 (Wp_step k252 f252_3 (Wp_step k252 f252_4 ⟨h_1, h_2⟩))
theorem b252_7 {X : (Nat → Int) × Nat} {d : Nat} {s : mSt} {Q : mQ} {x1 : Int} {x2 : Int} (h_1 : Sp X d 251 [mR 407] s (fun r s' => ∃ v : Int, r = some (mI v) ∧ Wp X (d + 1) 252 11 [some (mR 407), some (mI x1), some (mI x2)] [mI v] s' Q)) : Wp X (d + 1) 252 7 [some (mR 407), some (mI x1), some (mI x2)] [] s Q := Wp_step k252 f252_7 (Wp_step k252 f252_8 ⟨⟨kf_407, Nat.le_of_ble_eq_true rfl⟩, Nat.le_refl _, _, rfl, Sp_E h_1⟩)
theorem b252_11 {X : (Nat → Int) × Nat} {d : Nat} {s : mSt} {Q : mQ} {x1 : Int} {x2 : Int} {xt0 : Int} (h_1 : Wp X d 252 2 [some (mR 407), some (mI x1), some (mI (w32 (x2 + 1)))] [] s Q) : Wp X d 252 11 [some (mR 407), some (mI x1), some (mI x2)] [mI xt0] s Q := Wp_step k252 f252_11 (Wp_step k252 f252_12 (Wp_step k252 f252_15 (h_1)))
theorem b252_18 {X : (Nat → Int) × Nat} {d : Nat} {s : mSt} {Q : mQ} {x1 : Int} {x2 : Int} (h_1 : Q none s) : Wp X d 252 18 [some (mR 407), some (mI x1), some (mI x2)] [] s Q := Wp_step k252 f252_18 ⟨⟨rfl, Or.inl rfl⟩, h_1⟩
theorem e252 {X : (Nat → Int) × Nat} {d : Nat} {s : mSt} {Q : mQ} {x1 : Int} (h : Wp X d 252 0 [some (mR 407), some (mI x1), none] [] s Q) : Sp X d 252 [mR 407, mI x1] s Q := Sp_of (show mCe 252 = 0 by decide +kernel) (by rw [show mML 252 = 3 by decide +kernel]; rfl) (Nat.le_trans (Nat.le_of_ble_eq_true (show Nat.ble (mArgs _).length 3 = true from rfl)) (show 3 ≤ mML 252 by decide +kernel)) h
-- 253 ClashDayModel.keepsAct()V
theorem k253 : mRk 253 = 0 := by decide +kernel
theorem f253_0 : mFetch 253 0 = some (.aload_n 0, 1, 0, 0, 0, 0) := by decide +kernel
theorem f253_1 : mFetch 253 1 = some (.getfield 297, 3, 12, 37, 0, 1) := by decide +kernel
theorem f253_4 : mFetch 253 4 = some (.bipush 20, 2, 0, 0, 0, 0) := by decide +kernel
theorem f253_6 : mFetch 253 6 = some (.if_icmp .ne 44, 3, 50, 0, 0, 0) := by decide +kernel
theorem f253_9 : mFetch 253 9 = some (.bipush 72, 2, 0, 0, 0, 0) := by decide +kernel
theorem f253_11 : mFetch 253 11 = some (.istore_n 1, 1, 0, 0, 0, 0) := by decide +kernel
theorem f253_12 : mFetch 253 12 = some (.iload_n 1, 1, 0, 0, 0, 0) := by decide +kernel
theorem f253_13 : mFetch 253 13 = some (.sipush 1440, 3, 0, 0, 0, 0) := by decide +kernel
theorem f253_16 : mFetch 253 16 = some (.if_icmp .ge 24, 3, 40, 0, 0, 0) := by decide +kernel
theorem f253_19 : mFetch 253 19 = some (.aload_n 0, 1, 0, 0, 0, 0) := by decide +kernel
theorem f253_20 : mFetch 253 20 = some (.getfield 61, 3, 12, 36, 2, 1) := by decide +kernel
theorem f253_23 : mFetch 253 23 = some (.iload_n 1, 1, 0, 0, 0, 0) := by decide +kernel
theorem f253_24 : mFetch 253 24 = some (.bipush 72, 2, 0, 0, 0, 0) := by decide +kernel
theorem f253_26 : mFetch 253 26 = some (.isub, 1, 0, 0, 0, 0) := by decide +kernel
theorem f253_27 : mFetch 253 27 = some (.aload_n 0, 1, 0, 0, 0, 0) := by decide +kernel
theorem f253_28 : mFetch 253 28 = some (.getfield 61, 3, 12, 36, 2, 1) := by decide +kernel
theorem f253_31 : mFetch 253 31 = some (.iload_n 1, 1, 0, 0, 0, 0) := by decide +kernel
theorem f253_32 : mFetch 253 32 = some (.iaload, 1, 0, 0, 0, 0) := by decide +kernel
theorem f253_33 : mFetch 253 33 = some (.iastore, 1, 0, 0, 0, 0) := by decide +kernel
theorem f253_34 : mFetch 253 34 = some (.iinc 1 1, 3, 0, 0, 0, 0) := by decide +kernel
theorem f253_37 : mFetch 253 37 = some (.goto (-25), 3, 12, 0, 0, 0) := by decide +kernel
theorem f253_40 : mFetch 253 40 = some (.aload_n 0, 1, 0, 0, 0, 0) := by decide +kernel
theorem f253_41 : mFetch 253 41 = some (.dup, 1, 0, 0, 0, 0) := by decide +kernel
theorem f253_42 : mFetch 253 42 = some (.getfield 297, 3, 12, 37, 0, 1) := by decide +kernel
theorem f253_45 : mFetch 253 45 = some (.iconst 1, 1, 0, 0, 0, 0) := by decide +kernel
theorem f253_46 : mFetch 253 46 = some (.isub, 1, 0, 0, 0, 0) := by decide +kernel
theorem f253_47 : mFetch 253 47 = some (.putfield 297, 3, 12, 37, 0, 1) := by decide +kernel
theorem f253_50 : mFetch 253 50 = some (.iconst 0, 1, 0, 0, 0, 0) := by decide +kernel
theorem f253_51 : mFetch 253 51 = some (.istore_n 1, 1, 0, 0, 0, 0) := by decide +kernel
theorem f253_52 : mFetch 253 52 = some (.iload_n 1, 1, 0, 0, 0, 0) := by decide +kernel
theorem f253_53 : mFetch 253 53 = some (.bipush 72, 2, 0, 0, 0, 0) := by decide +kernel
theorem f253_55 : mFetch 253 55 = some (.if_icmp .ge 31, 3, 86, 0, 0, 0) := by decide +kernel
theorem f253_58 : mFetch 253 58 = some (.aload_n 0, 1, 0, 0, 0, 0) := by decide +kernel
theorem f253_59 : mFetch 253 59 = some (.getfield 61, 3, 12, 36, 2, 1) := by decide +kernel
theorem f253_62 : mFetch 253 62 = some (.bipush 72, 2, 0, 0, 0, 0) := by decide +kernel
theorem f253_64 : mFetch 253 64 = some (.aload_n 0, 1, 0, 0, 0, 0) := by decide +kernel
theorem f253_65 : mFetch 253 65 = some (.getfield 297, 3, 12, 37, 0, 1) := by decide +kernel
theorem f253_68 : mFetch 253 68 = some (.imul, 1, 0, 0, 0, 0) := by decide +kernel
theorem f253_69 : mFetch 253 69 = some (.iload_n 1, 1, 0, 0, 0, 0) := by decide +kernel
theorem f253_70 : mFetch 253 70 = some (.iadd, 1, 0, 0, 0, 0) := by decide +kernel
theorem f253_71 : mFetch 253 71 = some (.aload_n 0, 1, 0, 0, 0, 0) := by decide +kernel
theorem f253_72 : mFetch 253 72 = some (.getfield 39, 3, 12, 20, 2, 1) := by decide +kernel
theorem f253_75 : mFetch 253 75 = some (.iconst 5, 1, 0, 0, 0, 0) := by decide +kernel
theorem f253_76 : mFetch 253 76 = some (.iload_n 1, 1, 0, 0, 0, 0) := by decide +kernel
theorem f253_77 : mFetch 253 77 = some (.iadd, 1, 0, 0, 0, 0) := by decide +kernel
theorem f253_78 : mFetch 253 78 = some (.iaload, 1, 0, 0, 0, 0) := by decide +kernel
theorem f253_79 : mFetch 253 79 = some (.iastore, 1, 0, 0, 0, 0) := by decide +kernel
theorem f253_80 : mFetch 253 80 = some (.iinc 1 1, 3, 0, 0, 0, 0) := by decide +kernel
theorem f253_83 : mFetch 253 83 = some (.goto (-31), 3, 52, 0, 0, 0) := by decide +kernel
theorem f253_86 : mFetch 253 86 = some (.aload_n 0, 1, 0, 0, 0, 0) := by decide +kernel
theorem f253_87 : mFetch 253 87 = some (.dup, 1, 0, 0, 0, 0) := by decide +kernel
theorem f253_88 : mFetch 253 88 = some (.getfield 297, 3, 12, 37, 0, 1) := by decide +kernel
theorem f253_91 : mFetch 253 91 = some (.iconst 1, 1, 0, 0, 0, 0) := by decide +kernel
theorem f253_92 : mFetch 253 92 = some (.iadd, 1, 0, 0, 0, 0) := by decide +kernel
theorem f253_93 : mFetch 253 93 = some (.putfield 297, 3, 12, 37, 0, 1) := by decide +kernel
theorem f253_96 : mFetch 253 96 = some (.return_, 1, 0, 0, 0, 0) := by decide +kernel
theorem b253_0 {X : (Nat → Int) × Nat} {d : Nat} {s : mSt} {Q : mQ} {l1 : Option mV} (h_1 : ¬ (s 407 37) = 20 → Wp X d 253 50 [some (mR 407), l1] [] s Q) (h_2 : (s 407 37) = 20 → Wp X d 253 9 [some (mR 407), l1] [] s Q) : Wp X d 253 0 [some (mR 407), l1] [] s Q := Wp_step k253 f253_0 (Wp_step k253 f253_1 ⟨kf_407, Wp_step k253 f253_4 (Wp_step k253 f253_6 ⟨h_1, h_2⟩)⟩)
theorem b253_9 {X : (Nat → Int) × Nat} {d : Nat} {s : mSt} {Q : mQ} {l1 : Option mV} (h_1 : Wp X d 253 12 [some (mR 407), some (mI 72)] [] s Q) : Wp X d 253 9 [some (mR 407), l1] [] s Q := Wp_step k253 f253_9 (Wp_step k253 f253_11 (h_1))
theorem b253_12 {X : (Nat → Int) × Nat} {d : Nat} {s : mSt} {Q : mQ} {x1 : Int} (h_1 : 1440 ≤ x1 → Wp X d 253 40 [some (mR 407), some (mI x1)] [] s Q) (h_2 : ¬ 1440 ≤ x1 → Wp X d 253 19 [some (mR 407), some (mI x1)] [] s Q) : Wp X d 253 12 [some (mR 407), some (mI x1)] [] s Q := Wp_step k253 f253_12 (Wp_step k253 f253_13 (Wp_step k253 f253_16 ⟨h_1, h_2⟩))
theorem b253_19 {X : (Nat → Int) × Nat} {d : Nat} {s : mSt} {Q : mQ} {x1 : Int} (h_1 : 0 ≤ x1 ∧ x1 < 1440) (h_2 : 0 ≤ (w32 (x1 - 72)) ∧ (w32 (x1 - 72)) < 1440) (h_3 : Wp X d 253 12 [some (mR 407), some (mI (w32 (x1 + 1)))] [] (uS s 423 ((w32 (x1 - 72)).toNat) (s 423 x1.toNat)) Q) : Wp X d 253 19 [some (mR 407), some (mI x1)] [] s Q := Wp_step k253 f253_19 (Wp_step k253 f253_20 ⟨kf_407, 423, rf_407_36, Wp_step k253 f253_23 (Wp_step k253 f253_24 (Wp_step k253 f253_26 (Wp_step k253 f253_27 (Wp_step k253 f253_28 ⟨kf_407, 423, rf_407_36, Wp_step k253 f253_31 (Wp_step k253 f253_32 ⟨1440, af_423, h_1, Wp_step k253 f253_33 ⟨1440, af_423, h_2, Wp_step k253 f253_34 (Wp_step k253 f253_37 (h_3))⟩⟩)⟩))))⟩)
theorem b253_40 {X : (Nat → Int) × Nat} {d : Nat} {s : mSt} {Q : mQ} {x1 : Int} (h_1 : Wp X d 253 50 [some (mR 407), some (mI x1)] [] (uS s 407 37 (w32 ((s 407 37) - 1))) Q) : Wp X d 253 40 [some (mR 407), some (mI x1)] [] s Q := Wp_step k253 f253_40 (Wp_step k253 f253_41 (Wp_step k253 f253_42 ⟨kf_407, Wp_step k253 f253_45 (Wp_step k253 f253_46 (Wp_step k253 f253_47 ⟨kf_407, h_1⟩))⟩))
theorem b253_50 {X : (Nat → Int) × Nat} {d : Nat} {s : mSt} {Q : mQ} {l1 : Option mV} (h_1 : Wp X d 253 52 [some (mR 407), some (mI 0)] [] s Q) : Wp X d 253 50 [some (mR 407), l1] [] s Q := Wp_step k253 f253_50 (Wp_step k253 f253_51 (h_1))
theorem b253_52 {X : (Nat → Int) × Nat} {d : Nat} {s : mSt} {Q : mQ} {x1 : Int} (h_1 : 72 ≤ x1 → Wp X d 253 86 [some (mR 407), some (mI x1)] [] s Q) (h_2 : ¬ 72 ≤ x1 → Wp X d 253 58 [some (mR 407), some (mI x1)] [] s Q) : Wp X d 253 52 [some (mR 407), some (mI x1)] [] s Q := Wp_step k253 f253_52 (Wp_step k253 f253_53 (Wp_step k253 f253_55 ⟨h_1, h_2⟩))
theorem b253_58 {X : (Nat → Int) × Nat} {d : Nat} {s : mSt} {Q : mQ} {x1 : Int} (h_1 : 0 ≤ (w32 (5 + x1)) ∧ (w32 (5 + x1)) < 166) (h_2 : 0 ≤ (w32 ((w32 (72 * (s 407 37))) + x1)) ∧ (w32 ((w32 (72 * (s 407 37))) + x1)) < 1440) (h_3 : Wp X d 253 52 [some (mR 407), some (mI (w32 (x1 + 1)))] [] (uS s 423 ((w32 ((w32 (72 * (s 407 37))) + x1)).toNat) (s 417 (w32 (5 + x1)).toNat)) Q) : Wp X d 253 58 [some (mR 407), some (mI x1)] [] s Q := Wp_step k253 f253_58 (Wp_step k253 f253_59 ⟨kf_407, 423, rf_407_36, Wp_step k253 f253_62 (Wp_step k253 f253_64 (Wp_step k253 f253_65 ⟨kf_407, Wp_step k253 f253_68 (Wp_step k253 f253_69 (Wp_step k253 f253_70 (Wp_step k253 f253_71 (Wp_step k253 f253_72 ⟨kf_407, 417, rf_407_20, Wp_step k253 f253_75 (Wp_step k253 f253_76 (Wp_step k253 f253_77 (Wp_step k253 f253_78 ⟨166, af_417, h_1, Wp_step k253 f253_79 ⟨1440, af_423, h_2, Wp_step k253 f253_80 (Wp_step k253 f253_83 (h_3))⟩⟩)))⟩))))⟩))⟩)
theorem b253_86 {X : (Nat → Int) × Nat} {d : Nat} {s : mSt} {Q : mQ} {x1 : Int} (h_1 : Q none (uS s 407 37 (w32 ((s 407 37) + 1)))) : Wp X d 253 86 [some (mR 407), some (mI x1)] [] s Q := Wp_step k253 f253_86 (Wp_step k253 f253_87 (Wp_step k253 f253_88 ⟨kf_407, Wp_step k253 f253_91 (Wp_step k253 f253_92 (Wp_step k253 f253_93 ⟨kf_407, Wp_step k253 f253_96 ⟨⟨rfl, Or.inl rfl⟩, h_1⟩⟩))⟩))
theorem e253 {X : (Nat → Int) × Nat} {d : Nat} {s : mSt} {Q : mQ} (h : Wp X d 253 0 [some (mR 407), none] [] s Q) : Sp X d 253 [mR 407] s Q := Sp_of (show mCe 253 = 0 by decide +kernel) (by rw [show mML 253 = 2 by decide +kernel]; rfl) (Nat.le_trans (Nat.le_of_ble_eq_true (show Nat.ble (mArgs _).length 2 = true from rfl)) (show 2 ≤ mML 253 by decide +kernel)) h
-- 254 ClashDayModel.undo()I
theorem k254 : mRk 254 = 1 := by decide +kernel
theorem f254_0 : mFetch 254 0 = some (.aload_n 0, 1, 0, 0, 0, 0) := by decide +kernel
theorem f254_1 : mFetch 254 1 = some (.getfield 297, 3, 12, 37, 0, 1) := by decide +kernel
theorem f254_4 : mFetch 254 4 = some (.ifCond .ne 5, 3, 9, 0, 0, 0) := by decide +kernel
theorem f254_7 : mFetch 254 7 = some (.iconst (-1), 1, 0, 0, 0, 0) := by decide +kernel
theorem f254_8 : mFetch 254 8 = some (.ireturn, 1, 0, 0, 0, 0) := by decide +kernel
theorem f254_9 : mFetch 254 9 = some (.aload_n 0, 1, 0, 0, 0, 0) := by decide +kernel
theorem f254_10 : mFetch 254 10 = some (.dup, 1, 0, 0, 0, 0) := by decide +kernel
theorem f254_11 : mFetch 254 11 = some (.getfield 297, 3, 12, 37, 0, 1) := by decide +kernel
theorem f254_14 : mFetch 254 14 = some (.iconst 1, 1, 0, 0, 0, 0) := by decide +kernel
theorem f254_15 : mFetch 254 15 = some (.isub, 1, 0, 0, 0, 0) := by decide +kernel
theorem f254_16 : mFetch 254 16 = some (.putfield 297, 3, 12, 37, 0, 1) := by decide +kernel
theorem f254_19 : mFetch 254 19 = some (.iconst 0, 1, 0, 0, 0, 0) := by decide +kernel
theorem f254_20 : mFetch 254 20 = some (.istore_n 1, 1, 0, 0, 0, 0) := by decide +kernel
theorem f254_21 : mFetch 254 21 = some (.iload_n 1, 1, 0, 0, 0, 0) := by decide +kernel
theorem f254_22 : mFetch 254 22 = some (.bipush 72, 2, 0, 0, 0, 0) := by decide +kernel
theorem f254_24 : mFetch 254 24 = some (.if_icmp .ge 31, 3, 55, 0, 0, 0) := by decide +kernel
theorem f254_27 : mFetch 254 27 = some (.aload_n 0, 1, 0, 0, 0, 0) := by decide +kernel
theorem f254_28 : mFetch 254 28 = some (.getfield 39, 3, 12, 20, 2, 1) := by decide +kernel
theorem f254_31 : mFetch 254 31 = some (.iconst 5, 1, 0, 0, 0, 0) := by decide +kernel
theorem f254_32 : mFetch 254 32 = some (.iload_n 1, 1, 0, 0, 0, 0) := by decide +kernel
theorem f254_33 : mFetch 254 33 = some (.iadd, 1, 0, 0, 0, 0) := by decide +kernel
theorem f254_34 : mFetch 254 34 = some (.aload_n 0, 1, 0, 0, 0, 0) := by decide +kernel
theorem f254_35 : mFetch 254 35 = some (.getfield 61, 3, 12, 36, 2, 1) := by decide +kernel
theorem f254_38 : mFetch 254 38 = some (.bipush 72, 2, 0, 0, 0, 0) := by decide +kernel
theorem f254_40 : mFetch 254 40 = some (.aload_n 0, 1, 0, 0, 0, 0) := by decide +kernel
theorem f254_41 : mFetch 254 41 = some (.getfield 297, 3, 12, 37, 0, 1) := by decide +kernel
theorem f254_44 : mFetch 254 44 = some (.imul, 1, 0, 0, 0, 0) := by decide +kernel
theorem f254_45 : mFetch 254 45 = some (.iload_n 1, 1, 0, 0, 0, 0) := by decide +kernel
theorem f254_46 : mFetch 254 46 = some (.iadd, 1, 0, 0, 0, 0) := by decide +kernel
theorem f254_47 : mFetch 254 47 = some (.iaload, 1, 0, 0, 0, 0) := by decide +kernel
theorem f254_48 : mFetch 254 48 = some (.iastore, 1, 0, 0, 0, 0) := by decide +kernel
theorem f254_49 : mFetch 254 49 = some (.iinc 1 1, 3, 0, 0, 0, 0) := by decide +kernel
theorem f254_52 : mFetch 254 52 = some (.goto (-31), 3, 21, 0, 0, 0) := by decide +kernel
theorem f254_55 : mFetch 254 55 = some (.aload_n 0, 1, 0, 0, 0, 0) := by decide +kernel
theorem f254_56 : mFetch 254 56 = some (.getfield 297, 3, 12, 37, 0, 1) := by decide +kernel
theorem f254_59 : mFetch 254 59 = some (.ireturn, 1, 0, 0, 0, 0) := by decide +kernel
theorem b254_0 {X : (Nat → Int) × Nat} {d : Nat} {s : mSt} {Q : mQ} {l1 : Option mV} (h_1 : ¬ (s 407 37) = 0 → Wp X d 254 9 [some (mR 407), l1] [] s Q) (h_2 : (s 407 37) = 0 → Wp X d 254 7 [some (mR 407), l1] [] s Q) : Wp X d 254 0 [some (mR 407), l1] [] s Q := Wp_step k254 f254_0 (Wp_step k254 f254_1 ⟨kf_407, Wp_step k254 f254_4 ⟨h_1, h_2⟩⟩)
theorem b254_7 {X : (Nat → Int) × Nat} {d : Nat} {s : mSt} {Q : mQ} {l1 : Option mV} (h_1 : Q (some (mI (-1))) s) : Wp X d 254 7 [some (mR 407), l1] [] s Q := Wp_step k254 f254_7 (Wp_step k254 f254_8 ⟨⟨rfl, trivial⟩, h_1⟩)
theorem b254_9 {X : (Nat → Int) × Nat} {d : Nat} {s : mSt} {Q : mQ} {l1 : Option mV} (h_1 : Wp X d 254 21 [some (mR 407), some (mI 0)] [] (uS s 407 37 (w32 ((s 407 37) - 1))) Q) : Wp X d 254 9 [some (mR 407), l1] [] s Q := Wp_step k254 f254_9 (Wp_step k254 f254_10 (Wp_step k254 f254_11 ⟨kf_407, Wp_step k254 f254_14 (Wp_step k254 f254_15 (Wp_step k254 f254_16 ⟨kf_407, Wp_step k254 f254_19 (Wp_step k254 f254_20 (h_1))⟩))⟩))
theorem b254_21 {X : (Nat → Int) × Nat} {d : Nat} {s : mSt} {Q : mQ} {x1 : Int} (h_1 : 72 ≤ x1 → Wp X d 254 55 [some (mR 407), some (mI x1)] [] s Q) (h_2 : ¬ 72 ≤ x1 → Wp X d 254 27 [some (mR 407), some (mI x1)] [] s Q) : Wp X d 254 21 [some (mR 407), some (mI x1)] [] s Q := Wp_step k254 f254_21 (Wp_step k254 f254_22 (Wp_step k254 f254_24 ⟨h_1, h_2⟩))
theorem b254_27 {X : (Nat → Int) × Nat} {d : Nat} {s : mSt} {Q : mQ} {x1 : Int} (h_1 : 0 ≤ (w32 ((w32 (72 * (s 407 37))) + x1)) ∧ (w32 ((w32 (72 * (s 407 37))) + x1)) < 1440) (h_2 : 0 ≤ (w32 (5 + x1)) ∧ (w32 (5 + x1)) < 166) (h_3 : Wp X d 254 21 [some (mR 407), some (mI (w32 (x1 + 1)))] [] (uS s 417 ((w32 (5 + x1)).toNat) (s 423 (w32 ((w32 (72 * (s 407 37))) + x1)).toNat)) Q) : Wp X d 254 27 [some (mR 407), some (mI x1)] [] s Q := Wp_step k254 f254_27 (Wp_step k254 f254_28 ⟨kf_407, 417, rf_407_20, Wp_step k254 f254_31 (Wp_step k254 f254_32 (Wp_step k254 f254_33 (Wp_step k254 f254_34 (Wp_step k254 f254_35 ⟨kf_407, 423, rf_407_36, Wp_step k254 f254_38 (Wp_step k254 f254_40 (Wp_step k254 f254_41 ⟨kf_407, Wp_step k254 f254_44 (Wp_step k254 f254_45 (Wp_step k254 f254_46 (Wp_step k254 f254_47 ⟨1440, af_423, h_1, Wp_step k254 f254_48 ⟨166, af_417, h_2, Wp_step k254 f254_49 (Wp_step k254 f254_52 (h_3))⟩⟩)))⟩))⟩))))⟩)
theorem b254_55 {X : (Nat → Int) × Nat} {d : Nat} {s : mSt} {Q : mQ} {x1 : Int} (h_1 : Q (some (mI (s 407 37))) s) : Wp X d 254 55 [some (mR 407), some (mI x1)] [] s Q := Wp_step k254 f254_55 (Wp_step k254 f254_56 ⟨kf_407, Wp_step k254 f254_59 ⟨⟨rfl, trivial⟩, h_1⟩⟩)
theorem e254 {X : (Nat → Int) × Nat} {d : Nat} {s : mSt} {Q : mQ} (h : Wp X d 254 0 [some (mR 407), none] [] s Q) : Sp X d 254 [mR 407] s Q := Sp_of (show mCe 254 = 0 by decide +kernel) (by rw [show mML 254 = 2 by decide +kernel]; rfl) (Nat.le_trans (Nat.le_of_ble_eq_true (show Nat.ble (mArgs _).length 2 = true from rfl)) (show 2 ≤ mML 254 by decide +kernel)) h
-- 255 ClashDayModel.turn()I
theorem k255 : mRk 255 = 1 := by decide +kernel
theorem f255_0 : mFetch 255 0 = some (.aload_n 0, 1, 0, 0, 0, 0) := by decide +kernel
theorem f255_1 : mFetch 255 1 = some (.invokevirtual 354, 3, 212, 0, 1, 12) := by decide +kernel
theorem f255_4 : mFetch 255 4 = some (.ifCond .eq 15, 3, 19, 0, 0, 0) := by decide +kernel
theorem f255_7 : mFetch 255 7 = some (.aload_n 0, 1, 0, 0, 0, 0) := by decide +kernel
theorem f255_8 : mFetch 255 8 = some (.getfield 39, 3, 12, 20, 2, 1) := by decide +kernel
theorem f255_11 : mFetch 255 11 = some (.iconst 5, 1, 0, 0, 0, 0) := by decide +kernel
theorem f255_12 : mFetch 255 12 = some (.iaload, 1, 0, 0, 0, 0) := by decide +kernel
theorem f255_13 : mFetch 255 13 = some (.sipush 999, 3, 0, 0, 0, 0) := by decide +kernel
theorem f255_16 : mFetch 255 16 = some (.if_icmp .ne 5, 3, 21, 0, 0, 0) := by decide +kernel
theorem f255_19 : mFetch 255 19 = some (.iconst (-1), 1, 0, 0, 0, 0) := by decide +kernel
theorem f255_20 : mFetch 255 20 = some (.ireturn, 1, 0, 0, 0, 0) := by decide +kernel
theorem f255_21 : mFetch 255 21 = some (.aload_n 0, 1, 0, 0, 0, 0) := by decide +kernel
theorem f255_22 : mFetch 255 22 = some (.invokevirtual 455, 3, 253, 0, 1, 12) := by decide +kernel
theorem f255_25 : mFetch 255 25 = some (.aload_n 0, 1, 0, 0, 0, 0) := by decide +kernel
theorem f255_26 : mFetch 255 26 = some (.invokevirtual 452, 3, 251, 0, 1, 12) := by decide +kernel
theorem f255_29 : mFetch 255 29 = some (.istore_n 1, 1, 0, 0, 0, 0) := by decide +kernel
theorem f255_30 : mFetch 255 30 = some (.iload_n 1, 1, 0, 0, 0, 0) := by decide +kernel
theorem f255_31 : mFetch 255 31 = some (.ifCond .ge 8, 3, 39, 0, 0, 0) := by decide +kernel
theorem f255_34 : mFetch 255 34 = some (.bipush (-2), 2, 0, 0, 0, 0) := by decide +kernel
theorem f255_36 : mFetch 255 36 = some (.goto 4, 3, 40, 0, 0, 0) := by decide +kernel
theorem f255_39 : mFetch 255 39 = some (.iload_n 1, 1, 0, 0, 0, 0) := by decide +kernel
theorem f255_40 : mFetch 255 40 = some (.ireturn, 1, 0, 0, 0, 0) := by decide +kernel
theorem b255_0 {X : (Nat → Int) × Nat} {d : Nat} {s : mSt} {Q : mQ} {l1 : Option mV} (h_1 : Sp X d 212 [mR 407] s (fun r s' => ∃ v : Int, r = some (mI v) ∧ Wp X (d + 1) 255 4 [some (mR 407), l1] [mI v] s' Q)) : Wp X (d + 1) 255 0 [some (mR 407), l1] [] s Q := Wp_step k255 f255_0 (Wp_step k255 f255_1 ⟨⟨kf_407, Nat.le_of_ble_eq_true rfl⟩, Nat.le_refl _, _, rfl, Sp_E h_1⟩)
theorem b255_4 {X : (Nat → Int) × Nat} {d : Nat} {s : mSt} {Q : mQ} {l1 : Option mV} {xt0 : Int} (h_1 : xt0 = 0 → Wp X d 255 19 [some (mR 407), l1] [] s Q) (h_2 : ¬ xt0 = 0 → Wp X d 255 7 [some (mR 407), l1] [] s Q) : Wp X d 255 4 [some (mR 407), l1] [mI xt0] s Q := Wp_step k255 f255_4 ⟨h_1, h_2⟩
theorem b255_7 {X : (Nat → Int) × Nat} {d : Nat} {s : mSt} {Q : mQ} {l1 : Option mV} (h_1 : ¬ (s 417 5) = 999 → Wp X d 255 21 [some (mR 407), l1] [] s Q) (h_2 : (s 417 5) = 999 → Wp X d 255 19 [some (mR 407), l1] [] s Q) : Wp X d 255 7 [some (mR 407), l1] [] s Q := Wp_step k255 f255_7 (Wp_step k255 f255_8 ⟨kf_407, 417, rf_407_20, Wp_step k255 f255_11 (Wp_step k255 f255_12 ⟨166, af_417, ⟨by decide, by decide⟩, Wp_step k255 f255_13 (Wp_step k255 f255_16 ⟨h_1, h_2⟩)⟩)⟩)
theorem b255_19 {X : (Nat → Int) × Nat} {d : Nat} {s : mSt} {Q : mQ} {l1 : Option mV} (h_1 : Q (some (mI (-1))) s) : Wp X d 255 19 [some (mR 407), l1] [] s Q := Wp_step k255 f255_19 (Wp_step k255 f255_20 ⟨⟨rfl, trivial⟩, h_1⟩)
theorem b255_21 {X : (Nat → Int) × Nat} {d : Nat} {s : mSt} {Q : mQ} {l1 : Option mV} (h_1 : Sp X d 253 [mR 407] s (fun r s' => r = none ∧ Wp X (d + 1) 255 25 [some (mR 407), l1] [] s' Q)) : Wp X (d + 1) 255 21 [some (mR 407), l1] [] s Q := Wp_step k255 f255_21 (Wp_step k255 f255_22 ⟨⟨kf_407, Nat.le_of_ble_eq_true rfl⟩, Nat.le_refl _, _, rfl, Sp_V h_1⟩)
theorem b255_25 {X : (Nat → Int) × Nat} {d : Nat} {s : mSt} {Q : mQ} {l1 : Option mV} (h_1 : Sp X d 251 [mR 407] s (fun r s' => ∃ v : Int, r = some (mI v) ∧ Wp X (d + 1) 255 29 [some (mR 407), l1] [mI v] s' Q)) : Wp X (d + 1) 255 25 [some (mR 407), l1] [] s Q := Wp_step k255 f255_25 (Wp_step k255 f255_26 ⟨⟨kf_407, Nat.le_of_ble_eq_true rfl⟩, Nat.le_refl _, _, rfl, Sp_E h_1⟩)
theorem b255_29 {X : (Nat → Int) × Nat} {d : Nat} {s : mSt} {Q : mQ} {l1 : Option mV} {xt0 : Int} (h_1 : 0 ≤ xt0 → Wp X d 255 39 [some (mR 407), some (mI xt0)] [] s Q) (h_2 : ¬ 0 ≤ xt0 → Wp X d 255 34 [some (mR 407), some (mI xt0)] [] s Q) : Wp X d 255 29 [some (mR 407), l1] [mI xt0] s Q := Wp_step k255 f255_29 (Wp_step k255 f255_30 (Wp_step k255 f255_31 ⟨h_1, h_2⟩))
theorem b255_34 {X : (Nat → Int) × Nat} {d : Nat} {s : mSt} {Q : mQ} {x1 : Int} (h_1 : Wp X d 255 40 [some (mR 407), some (mI x1)] [mI (-2)] s Q) : Wp X d 255 34 [some (mR 407), some (mI x1)] [] s Q := Wp_step k255 f255_34 (Wp_step k255 f255_36 (h_1))
theorem b255_39 {X : (Nat → Int) × Nat} {d : Nat} {s : mSt} {Q : mQ} {x1 : Int} (h_1 : Wp X d 255 40 [some (mR 407), some (mI x1)] [mI x1] s Q) : Wp X d 255 39 [some (mR 407), some (mI x1)] [] s Q := Wp_step k255 f255_39 (h_1)
theorem b255_40 {X : (Nat → Int) × Nat} {d : Nat} {s : mSt} {Q : mQ} {x1 : Int} {xt0 : Int} (h_1 : Q (some (mI xt0)) s) : Wp X d 255 40 [some (mR 407), some (mI x1)] [mI xt0] s Q := Wp_step k255 f255_40 ⟨⟨rfl, trivial⟩, h_1⟩
theorem e255 {X : (Nat → Int) × Nat} {d : Nat} {s : mSt} {Q : mQ} (h : Wp X d 255 0 [some (mR 407), none] [] s Q) : Sp X d 255 [mR 407] s Q := Sp_of (show mCe 255 = 0 by decide +kernel) (by rw [show mML 255 = 2 by decide +kernel]; rfl) (Nat.le_trans (Nat.le_of_ble_eq_true (show Nat.ble (mArgs _).length 2 = true from rfl)) (show 2 ≤ mML 255 by decide +kernel)) h
-- 256 ClashDayModel.plan(I)I
theorem k256 : mRk 256 = 1 := by decide +kernel
theorem f256_0 : mFetch 256 0 = some (.aload_n 0, 1, 0, 0, 0, 0) := by decide +kernel
theorem f256_1 : mFetch 256 1 = some (.iload_n 1, 1, 0, 0, 0, 0) := by decide +kernel
theorem f256_2 : mFetch 256 2 = some (.invokevirtual 328, 3, 215, 0, 2, 12) := by decide +kernel
theorem f256_5 : mFetch 256 5 = some (.ifCond .eq 11, 3, 16, 0, 0, 0) := by decide +kernel
theorem f256_8 : mFetch 256 8 = some (.aload_n 0, 1, 0, 0, 0, 0) := by decide +kernel
theorem f256_9 : mFetch 256 9 = some (.iload_n 1, 1, 0, 0, 0, 0) := by decide +kernel
theorem f256_10 : mFetch 256 10 = some (.invokevirtual 420, 3, 244, 0, 2, 12) := by decide +kernel
theorem f256_13 : mFetch 256 13 = some (.ifCond .ne 5, 3, 18, 0, 0, 0) := by decide +kernel
theorem f256_16 : mFetch 256 16 = some (.iconst (-1), 1, 0, 0, 0, 0) := by decide +kernel
theorem f256_17 : mFetch 256 17 = some (.ireturn, 1, 0, 0, 0, 0) := by decide +kernel
theorem f256_18 : mFetch 256 18 = some (.aload_n 0, 1, 0, 0, 0, 0) := by decide +kernel
theorem f256_19 : mFetch 256 19 = some (.invokevirtual 455, 3, 253, 0, 1, 12) := by decide +kernel
theorem f256_22 : mFetch 256 22 = some (.aload_n 0, 1, 0, 0, 0, 0) := by decide +kernel
theorem f256_23 : mFetch 256 23 = some (.iload_n 1, 1, 0, 0, 0, 0) := by decide +kernel
theorem f256_24 : mFetch 256 24 = some (.invokevirtual 449, 3, 245, 0, 2, 12) := by decide +kernel
theorem f256_27 : mFetch 256 27 = some (.pop, 1, 0, 0, 0, 0) := by decide +kernel
theorem f256_28 : mFetch 256 28 = some (.aload_n 0, 1, 0, 0, 0, 0) := by decide +kernel
theorem f256_29 : mFetch 256 29 = some (.getfield 402, 3, 12, 31, 0, 1) := by decide +kernel
theorem f256_32 : mFetch 256 32 = some (.ireturn, 1, 0, 0, 0, 0) := by decide +kernel
theorem b256_0 {X : (Nat → Int) × Nat} {d : Nat} {s : mSt} {Q : mQ} {x1 : Int} (h_1 : Sp X d 215 [mR 407, mI x1] s (fun r s' => ∃ v : Int, r = some (mI v) ∧ Wp X (d + 1) 256 5 [some (mR 407), some (mI x1)] [mI v] s' Q)) : Wp X (d + 1) 256 0 [some (mR 407), some (mI x1)] [] s Q := Wp_step k256 f256_0 (Wp_step k256 f256_1 (Wp_step k256 f256_2 ⟨⟨kf_407, Nat.le_of_ble_eq_true rfl⟩, Nat.le_refl _, _, rfl, Sp_E h_1⟩))
theorem b256_5 {X : (Nat → Int) × Nat} {d : Nat} {s : mSt} {Q : mQ} {x1 : Int} {xt0 : Int} (h_1 : xt0 = 0 → Wp X d 256 16 [some (mR 407), some (mI x1)] [] s Q) (h_2 : ¬ xt0 = 0 → Wp X d 256 8 [some (mR 407), some (mI x1)] [] s Q) : Wp X d 256 5 [some (mR 407), some (mI x1)] [mI xt0] s Q := Wp_step k256 f256_5 ⟨h_1, h_2⟩
theorem b256_8 {X : (Nat → Int) × Nat} {d : Nat} {s : mSt} {Q : mQ} {x1 : Int} (h_1 : Sp X d 244 [mR 407, mI x1] s (fun r s' => ∃ v : Int, r = some (mI v) ∧ Wp X (d + 1) 256 13 [some (mR 407), some (mI x1)] [mI v] s' Q)) : Wp X (d + 1) 256 8 [some (mR 407), some (mI x1)] [] s Q := Wp_step k256 f256_8 (Wp_step k256 f256_9 (Wp_step k256 f256_10 ⟨⟨kf_407, Nat.le_of_ble_eq_true rfl⟩, Nat.le_refl _, _, rfl, Sp_E h_1⟩))
theorem b256_13 {X : (Nat → Int) × Nat} {d : Nat} {s : mSt} {Q : mQ} {x1 : Int} {xt0 : Int} (h_1 : ¬ xt0 = 0 → Wp X d 256 18 [some (mR 407), some (mI x1)] [] s Q) (h_2 : xt0 = 0 → Wp X d 256 16 [some (mR 407), some (mI x1)] [] s Q) : Wp X d 256 13 [some (mR 407), some (mI x1)] [mI xt0] s Q := Wp_step k256 f256_13 ⟨h_1, h_2⟩
theorem b256_16 {X : (Nat → Int) × Nat} {d : Nat} {s : mSt} {Q : mQ} {x1 : Int} (h_1 : Q (some (mI (-1))) s) : Wp X d 256 16 [some (mR 407), some (mI x1)] [] s Q := Wp_step k256 f256_16 (Wp_step k256 f256_17 ⟨⟨rfl, trivial⟩, h_1⟩)
theorem b256_18 {X : (Nat → Int) × Nat} {d : Nat} {s : mSt} {Q : mQ} {x1 : Int} (h_1 : Sp X d 253 [mR 407] s (fun r s' => r = none ∧ Wp X (d + 1) 256 22 [some (mR 407), some (mI x1)] [] s' Q)) : Wp X (d + 1) 256 18 [some (mR 407), some (mI x1)] [] s Q := Wp_step k256 f256_18 (Wp_step k256 f256_19 ⟨⟨kf_407, Nat.le_of_ble_eq_true rfl⟩, Nat.le_refl _, _, rfl, Sp_V h_1⟩)
theorem b256_22 {X : (Nat → Int) × Nat} {d : Nat} {s : mSt} {Q : mQ} {x1 : Int} (h_1 : Sp X d 245 [mR 407, mI x1] s (fun r s' => ∃ v : Int, r = some (mI v) ∧ Wp X (d + 1) 256 27 [some (mR 407), some (mI x1)] [mI v] s' Q)) : Wp X (d + 1) 256 22 [some (mR 407), some (mI x1)] [] s Q := Wp_step k256 f256_22 (Wp_step k256 f256_23 (Wp_step k256 f256_24 ⟨⟨kf_407, Nat.le_of_ble_eq_true rfl⟩, Nat.le_refl _, _, rfl, Sp_E h_1⟩))
theorem b256_27 {X : (Nat → Int) × Nat} {d : Nat} {s : mSt} {Q : mQ} {x1 : Int} {xt0 : Int} (h_1 : Q (some (mI (s 407 31))) s) : Wp X d 256 27 [some (mR 407), some (mI x1)] [mI xt0] s Q := Wp_step k256 f256_27 (Wp_step k256 f256_28 (Wp_step k256 f256_29 ⟨kf_407, Wp_step k256 f256_32 ⟨⟨rfl, trivial⟩, h_1⟩⟩))
theorem e256 {X : (Nat → Int) × Nat} {d : Nat} {s : mSt} {Q : mQ} {x1 : Int} (h : Wp X d 256 0 [some (mR 407), some (mI x1)] [] s Q) : Sp X d 256 [mR 407, mI x1] s Q := Sp_of (show mCe 256 = 0 by decide +kernel) (by rw [show mML 256 = 2 by decide +kernel]; rfl) (Nat.le_trans (Nat.le_of_ble_eq_true (show Nat.ble (mArgs _).length 2 = true from rfl)) (show 2 ≤ mML 256 by decide +kernel)) h
-- 257 ClashDayModel.drop(I)I
theorem k257 : mRk 257 = 1 := by decide +kernel
theorem f257_0 : mFetch 257 0 = some (.aload_n 0, 1, 0, 0, 0, 0) := by decide +kernel
theorem f257_1 : mFetch 257 1 = some (.iload_n 1, 1, 0, 0, 0, 0) := by decide +kernel
theorem f257_2 : mFetch 257 2 = some (.invokevirtual 334, 3, 216, 0, 2, 12) := by decide +kernel
theorem f257_5 : mFetch 257 5 = some (.ifCond .ne 5, 3, 10, 0, 0, 0) := by decide +kernel
theorem f257_8 : mFetch 257 8 = some (.iconst (-1), 1, 0, 0, 0, 0) := by decide +kernel
theorem f257_9 : mFetch 257 9 = some (.ireturn, 1, 0, 0, 0, 0) := by decide +kernel
theorem f257_10 : mFetch 257 10 = some (.aload_n 0, 1, 0, 0, 0, 0) := by decide +kernel
theorem f257_11 : mFetch 257 11 = some (.invokevirtual 455, 3, 253, 0, 1, 12) := by decide +kernel
theorem f257_14 : mFetch 257 14 = some (.aload_n 0, 1, 0, 0, 0, 0) := by decide +kernel
theorem f257_15 : mFetch 257 15 = some (.iload_n 1, 1, 0, 0, 0, 0) := by decide +kernel
theorem f257_16 : mFetch 257 16 = some (.invokevirtual 458, 3, 246, 0, 2, 12) := by decide +kernel
theorem f257_19 : mFetch 257 19 = some (.aload_n 0, 1, 0, 0, 0, 0) := by decide +kernel
theorem f257_20 : mFetch 257 20 = some (.invokevirtual 436, 3, 221, 0, 1, 12) := by decide +kernel
theorem f257_23 : mFetch 257 23 = some (.invokestatic 427, 3, 169, 0, 1, 99) := by decide +kernel
theorem f257_26 : mFetch 257 26 = some (.ireturn, 1, 0, 0, 0, 0) := by decide +kernel
theorem b257_0 {X : (Nat → Int) × Nat} {d : Nat} {s : mSt} {Q : mQ} {x1 : Int} (h_1 : Sp X d 216 [mR 407, mI x1] s (fun r s' => ∃ v : Int, r = some (mI v) ∧ Wp X (d + 1) 257 5 [some (mR 407), some (mI x1)] [mI v] s' Q)) : Wp X (d + 1) 257 0 [some (mR 407), some (mI x1)] [] s Q := Wp_step k257 f257_0 (Wp_step k257 f257_1 (Wp_step k257 f257_2 ⟨⟨kf_407, Nat.le_of_ble_eq_true rfl⟩, Nat.le_refl _, _, rfl, Sp_E h_1⟩))
theorem b257_5 {X : (Nat → Int) × Nat} {d : Nat} {s : mSt} {Q : mQ} {x1 : Int} {xt0 : Int} (h_1 : ¬ xt0 = 0 → Wp X d 257 10 [some (mR 407), some (mI x1)] [] s Q) (h_2 : xt0 = 0 → Wp X d 257 8 [some (mR 407), some (mI x1)] [] s Q) : Wp X d 257 5 [some (mR 407), some (mI x1)] [mI xt0] s Q := Wp_step k257 f257_5 ⟨h_1, h_2⟩
theorem b257_8 {X : (Nat → Int) × Nat} {d : Nat} {s : mSt} {Q : mQ} {x1 : Int} (h_1 : Q (some (mI (-1))) s) : Wp X d 257 8 [some (mR 407), some (mI x1)] [] s Q := Wp_step k257 f257_8 (Wp_step k257 f257_9 ⟨⟨rfl, trivial⟩, h_1⟩)
theorem b257_10 {X : (Nat → Int) × Nat} {d : Nat} {s : mSt} {Q : mQ} {x1 : Int} (h_1 : Sp X d 253 [mR 407] s (fun r s' => r = none ∧ Wp X (d + 1) 257 14 [some (mR 407), some (mI x1)] [] s' Q)) : Wp X (d + 1) 257 10 [some (mR 407), some (mI x1)] [] s Q := Wp_step k257 f257_10 (Wp_step k257 f257_11 ⟨⟨kf_407, Nat.le_of_ble_eq_true rfl⟩, Nat.le_refl _, _, rfl, Sp_V h_1⟩)
theorem b257_14 {X : (Nat → Int) × Nat} {d : Nat} {s : mSt} {Q : mQ} {x1 : Int} (h_1 : Sp X d 246 [mR 407, mI x1] s (fun r s' => r = none ∧ Wp X (d + 1) 257 19 [some (mR 407), some (mI x1)] [] s' Q)) : Wp X (d + 1) 257 14 [some (mR 407), some (mI x1)] [] s Q := Wp_step k257 f257_14 (Wp_step k257 f257_15 (Wp_step k257 f257_16 ⟨⟨kf_407, Nat.le_of_ble_eq_true rfl⟩, Nat.le_refl _, _, rfl, Sp_V h_1⟩))
theorem b257_19 {X : (Nat → Int) × Nat} {d : Nat} {s : mSt} {Q : mQ} {x1 : Int} (h_1 : Sp X d 221 [mR 407] s (fun r s' => ∃ v : Int, r = some (mI v) ∧ Wp X (d + 1) 257 23 [some (mR 407), some (mI x1)] [mI v] s' Q)) : Wp X (d + 1) 257 19 [some (mR 407), some (mI x1)] [] s Q := Wp_step k257 f257_19 (Wp_step k257 f257_20 ⟨⟨kf_407, Nat.le_of_ble_eq_true rfl⟩, Nat.le_refl _, _, rfl, Sp_E h_1⟩)
theorem b257_23 {X : (Nat → Int) × Nat} {d : Nat} {s : mSt} {Q : mQ} {x1 : Int} {xt0 : Int} (h_1 : Sp X d 169 [mI xt0] s (fun r s' => ∃ v : Int, r = some (mI v) ∧ Wp X (d + 1) 257 26 [some (mR 407), some (mI x1)] [mI v] s' Q)) : Wp X (d + 1) 257 23 [some (mR 407), some (mI x1)] [mI xt0] s Q := Wp_step k257 f257_23 ⟨⟨Nat.le_of_ble_eq_true rfl, Nat.le_refl _⟩, _, rfl, Sp_E h_1⟩
theorem b257_26 {X : (Nat → Int) × Nat} {d : Nat} {s : mSt} {Q : mQ} {x1 : Int} {xt0 : Int} (h_1 : Q (some (mI xt0)) s) : Wp X d 257 26 [some (mR 407), some (mI x1)] [mI xt0] s Q := Wp_step k257 f257_26 ⟨⟨rfl, trivial⟩, h_1⟩
theorem e257 {X : (Nat → Int) × Nat} {d : Nat} {s : mSt} {Q : mQ} {x1 : Int} (h : Wp X d 257 0 [some (mR 407), some (mI x1)] [] s Q) : Sp X d 257 [mR 407, mI x1] s Q := Sp_of (show mCe 257 = 0 by decide +kernel) (by rw [show mML 257 = 2 by decide +kernel]; rfl) (Nat.le_trans (Nat.le_of_ble_eq_true (show Nat.ble (mArgs _).length 2 = true from rfl)) (show 2 ≤ mML 257 by decide +kernel)) h
