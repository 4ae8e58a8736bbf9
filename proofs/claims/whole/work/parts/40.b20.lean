-- 292 ClashDayModel.pence(II)I
theorem k292 : mRk 292 = 1 := by decide +kernel
theorem f292_0 : mFetch 292 0 = some (.aload_n 0, 1, 0, 0, 0, 0) := by decide +kernel
theorem f292_1 : mFetch 292 1 = some (.iload_n 2, 1, 0, 0, 0, 0) := by decide +kernel
theorem f292_2 : mFetch 292 2 = some (.invokevirtual 315, 3, 214, 0, 2, 12) := by decide +kernel
theorem f292_5 : mFetch 292 5 = some (.ifCond .eq 15, 3, 20, 0, 0, 0) := by decide +kernel
theorem f292_8 : mFetch 292 8 = some (.iload_n 1, 1, 0, 0, 0, 0) := by decide +kernel
theorem f292_9 : mFetch 292 9 = some (.i2l, 1, 0, 0, 0, 0) := by decide +kernel
theorem f292_10 : mFetch 292 10 = some (.lconst 0, 1, 0, 0, 0, 0) := by decide +kernel
theorem f292_11 : mFetch 292 11 = some (.ldc2_w 537, 3, 9999, 0, 0, 0) := by decide +kernel
theorem f292_14 : mFetch 292 14 = some (.invokestatic 151, 3, 167, 0, 3, 99) := by decide +kernel
theorem f292_17 : mFetch 292 17 = some (.ifCond .ne 5, 3, 22, 0, 0, 0) := by decide +kernel
theorem f292_20 : mFetch 292 20 = some (.iconst (-1), 1, 0, 0, 0, 0) := by decide +kernel
theorem f292_21 : mFetch 292 21 = some (.ireturn, 1, 0, 0, 0, 0) := by decide +kernel
theorem f292_22 : mFetch 292 22 = some (.iconst 0, 1, 0, 0, 0, 0) := by decide +kernel
theorem f292_23 : mFetch 292 23 = some (.istore_n 3, 1, 0, 0, 0, 0) := by decide +kernel
theorem f292_24 : mFetch 292 24 = some (.iconst 0, 1, 0, 0, 0, 0) := by decide +kernel
theorem f292_25 : mFetch 292 25 = some (.istore 4, 2, 0, 0, 0, 0) := by decide +kernel
theorem f292_27 : mFetch 292 27 = some (.iload 4, 2, 0, 0, 0, 0) := by decide +kernel
theorem f292_29 : mFetch 292 29 = some (.aload_n 0, 1, 0, 0, 0, 0) := by decide +kernel
theorem f292_30 : mFetch 292 30 = some (.getfield 39, 3, 12, 20, 2, 1) := by decide +kernel
theorem f292_33 : mFetch 292 33 = some (.iconst 4, 1, 0, 0, 0, 0) := by decide +kernel
theorem f292_34 : mFetch 292 34 = some (.iaload, 1, 0, 0, 0, 0) := by decide +kernel
theorem f292_35 : mFetch 292 35 = some (.if_icmp .ge 31, 3, 66, 0, 0, 0) := by decide +kernel
theorem f292_38 : mFetch 292 38 = some (.iload_n 3, 1, 0, 0, 0, 0) := by decide +kernel
theorem f292_39 : mFetch 292 39 = some (.aload_n 0, 1, 0, 0, 0, 0) := by decide +kernel
theorem f292_40 : mFetch 292 40 = some (.iload 4, 2, 0, 0, 0, 0) := by decide +kernel
theorem f292_42 : mFetch 292 42 = some (.invokevirtual 334, 3, 216, 0, 2, 12) := by decide +kernel
theorem f292_45 : mFetch 292 45 = some (.ifCond .eq 12, 3, 57, 0, 0, 0) := by decide +kernel
theorem f292_48 : mFetch 292 48 = some (.aload_n 0, 1, 0, 0, 0, 0) := by decide +kernel
theorem f292_49 : mFetch 292 49 = some (.iload 4, 2, 0, 0, 0, 0) := by decide +kernel
theorem f292_51 : mFetch 292 51 = some (.invokevirtual 430, 3, 220, 0, 2, 12) := by decide +kernel
theorem f292_54 : mFetch 292 54 = some (.goto 4, 3, 58, 0, 0, 0) := by decide +kernel
theorem f292_57 : mFetch 292 57 = some (.iconst 0, 1, 0, 0, 0, 0) := by decide +kernel
theorem f292_58 : mFetch 292 58 = some (.iadd, 1, 0, 0, 0, 0) := by decide +kernel
theorem f292_59 : mFetch 292 59 = some (.istore_n 3, 1, 0, 0, 0, 0) := by decide +kernel
theorem f292_60 : mFetch 292 60 = some (.iinc 4 1, 3, 0, 0, 0, 0) := by decide +kernel
theorem f292_63 : mFetch 292 63 = some (.goto (-36), 3, 27, 0, 0, 0) := by decide +kernel
theorem f292_66 : mFetch 292 66 = some (.aload_n 0, 1, 0, 0, 0, 0) := by decide +kernel
theorem f292_67 : mFetch 292 67 = some (.iload_n 2, 1, 0, 0, 0, 0) := by decide +kernel
theorem f292_68 : mFetch 292 68 = some (.invokevirtual 334, 3, 216, 0, 2, 12) := by decide +kernel
theorem f292_71 : mFetch 292 71 = some (.ifCond .ne 5, 3, 76, 0, 0, 0) := by decide +kernel
theorem f292_74 : mFetch 292 74 = some (.iconst 0, 1, 0, 0, 0, 0) := by decide +kernel
theorem f292_75 : mFetch 292 75 = some (.ireturn, 1, 0, 0, 0, 0) := by decide +kernel
theorem f292_76 : mFetch 292 76 = some (.iload_n 1, 1, 0, 0, 0, 0) := by decide +kernel
theorem f292_77 : mFetch 292 77 = some (.aload_n 0, 1, 0, 0, 0, 0) := by decide +kernel
theorem f292_78 : mFetch 292 78 = some (.iload_n 2, 1, 0, 0, 0, 0) := by decide +kernel
theorem f292_79 : mFetch 292 79 = some (.invokevirtual 430, 3, 220, 0, 2, 12) := by decide +kernel
theorem f292_82 : mFetch 292 82 = some (.imul, 1, 0, 0, 0, 0) := by decide +kernel
theorem f292_83 : mFetch 292 83 = some (.istore 4, 2, 0, 0, 0, 0) := by decide +kernel
theorem f292_85 : mFetch 292 85 = some (.iload_n 1, 1, 0, 0, 0, 0) := by decide +kernel
theorem f292_86 : mFetch 292 86 = some (.istore 5, 2, 0, 0, 0, 0) := by decide +kernel
theorem f292_88 : mFetch 292 88 = some (.iconst 0, 1, 0, 0, 0, 0) := by decide +kernel
theorem f292_89 : mFetch 292 89 = some (.istore 6, 2, 0, 0, 0, 0) := by decide +kernel
theorem f292_91 : mFetch 292 91 = some (.iconst 0, 1, 0, 0, 0, 0) := by decide +kernel
theorem f292_92 : mFetch 292 92 = some (.istore 7, 2, 0, 0, 0, 0) := by decide +kernel
theorem f292_94 : mFetch 292 94 = some (.iload 7, 2, 0, 0, 0, 0) := by decide +kernel
theorem f292_96 : mFetch 292 96 = some (.aload_n 0, 1, 0, 0, 0, 0) := by decide +kernel
theorem f292_97 : mFetch 292 97 = some (.getfield 39, 3, 12, 20, 2, 1) := by decide +kernel
theorem f292_100 : mFetch 292 100 = some (.iconst 4, 1, 0, 0, 0, 0) := by decide +kernel
theorem f292_101 : mFetch 292 101 = some (.iaload, 1, 0, 0, 0, 0) := by decide +kernel
theorem f292_102 : mFetch 292 102 = some (.if_icmp .ge 78, 3, 180, 0, 0, 0) := by decide +kernel
theorem f292_105 : mFetch 292 105 = some (.aload_n 0, 1, 0, 0, 0, 0) := by decide +kernel
theorem f292_106 : mFetch 292 106 = some (.iload 7, 2, 0, 0, 0, 0) := by decide +kernel
theorem f292_108 : mFetch 292 108 = some (.invokevirtual 334, 3, 216, 0, 2, 12) := by decide +kernel
theorem f292_111 : mFetch 292 111 = some (.ifCond .ne 6, 3, 117, 0, 0, 0) := by decide +kernel
theorem f292_114 : mFetch 292 114 = some (.goto 60, 3, 174, 0, 0, 0) := by decide +kernel
theorem f292_117 : mFetch 292 117 = some (.iload_n 1, 1, 0, 0, 0, 0) := by decide +kernel
theorem f292_118 : mFetch 292 118 = some (.aload_n 0, 1, 0, 0, 0, 0) := by decide +kernel
theorem f292_119 : mFetch 292 119 = some (.iload 7, 2, 0, 0, 0, 0) := by decide +kernel
theorem f292_121 : mFetch 292 121 = some (.invokevirtual 430, 3, 220, 0, 2, 12) := by decide +kernel
theorem f292_124 : mFetch 292 124 = some (.imul, 1, 0, 0, 0, 0) := by decide +kernel
theorem f292_125 : mFetch 292 125 = some (.istore 8, 2, 0, 0, 0, 0) := by decide +kernel
theorem f292_127 : mFetch 292 127 = some (.iload 5, 2, 0, 0, 0, 0) := by decide +kernel
theorem f292_129 : mFetch 292 129 = some (.iload 8, 2, 0, 0, 0, 0) := by decide +kernel
theorem f292_131 : mFetch 292 131 = some (.iload_n 3, 1, 0, 0, 0, 0) := by decide +kernel
theorem f292_132 : mFetch 292 132 = some (.idiv, 1, 0, 0, 0, 0) := by decide +kernel
theorem f292_133 : mFetch 292 133 = some (.isub, 1, 0, 0, 0, 0) := by decide +kernel
theorem f292_134 : mFetch 292 134 = some (.istore 5, 2, 0, 0, 0, 0) := by decide +kernel
theorem f292_136 : mFetch 292 136 = some (.iload 6, 2, 0, 0, 0, 0) := by decide +kernel
theorem f292_138 : mFetch 292 138 = some (.iload 8, 2, 0, 0, 0, 0) := by decide +kernel
theorem f292_140 : mFetch 292 140 = some (.iload_n 3, 1, 0, 0, 0, 0) := by decide +kernel
theorem f292_141 : mFetch 292 141 = some (.irem, 1, 0, 0, 0, 0) := by decide +kernel
theorem f292_142 : mFetch 292 142 = some (.iload 4, 2, 0, 0, 0, 0) := by decide +kernel
theorem f292_144 : mFetch 292 144 = some (.iload_n 3, 1, 0, 0, 0, 0) := by decide +kernel
theorem f292_145 : mFetch 292 145 = some (.irem, 1, 0, 0, 0, 0) := by decide +kernel
theorem f292_146 : mFetch 292 146 = some (.if_icmp .gt 20, 3, 166, 0, 0, 0) := by decide +kernel
theorem f292_149 : mFetch 292 149 = some (.iload 8, 2, 0, 0, 0, 0) := by decide +kernel
theorem f292_151 : mFetch 292 151 = some (.iload_n 3, 1, 0, 0, 0, 0) := by decide +kernel
theorem f292_152 : mFetch 292 152 = some (.irem, 1, 0, 0, 0, 0) := by decide +kernel
theorem f292_153 : mFetch 292 153 = some (.iload 4, 2, 0, 0, 0, 0) := by decide +kernel
theorem f292_155 : mFetch 292 155 = some (.iload_n 3, 1, 0, 0, 0, 0) := by decide +kernel
theorem f292_156 : mFetch 292 156 = some (.irem, 1, 0, 0, 0, 0) := by decide +kernel
theorem f292_157 : mFetch 292 157 = some (.if_icmp .ne 13, 3, 170, 0, 0, 0) := by decide +kernel
theorem f292_160 : mFetch 292 160 = some (.iload 7, 2, 0, 0, 0, 0) := by decide +kernel
theorem f292_162 : mFetch 292 162 = some (.iload_n 2, 1, 0, 0, 0, 0) := by decide +kernel
theorem f292_163 : mFetch 292 163 = some (.if_icmp .ge 7, 3, 170, 0, 0, 0) := by decide +kernel
theorem f292_166 : mFetch 292 166 = some (.iconst 1, 1, 0, 0, 0, 0) := by decide +kernel
theorem f292_167 : mFetch 292 167 = some (.goto 4, 3, 171, 0, 0, 0) := by decide +kernel
theorem f292_170 : mFetch 292 170 = some (.iconst 0, 1, 0, 0, 0, 0) := by decide +kernel
theorem f292_171 : mFetch 292 171 = some (.iadd, 1, 0, 0, 0, 0) := by decide +kernel
theorem f292_172 : mFetch 292 172 = some (.istore 6, 2, 0, 0, 0, 0) := by decide +kernel
theorem f292_174 : mFetch 292 174 = some (.iinc 7 1, 3, 0, 0, 0, 0) := by decide +kernel
theorem f292_177 : mFetch 292 177 = some (.goto (-83), 3, 94, 0, 0, 0) := by decide +kernel
theorem f292_180 : mFetch 292 180 = some (.iload 4, 2, 0, 0, 0, 0) := by decide +kernel
theorem f292_182 : mFetch 292 182 = some (.iload_n 3, 1, 0, 0, 0, 0) := by decide +kernel
theorem f292_183 : mFetch 292 183 = some (.idiv, 1, 0, 0, 0, 0) := by decide +kernel
theorem f292_184 : mFetch 292 184 = some (.iload 6, 2, 0, 0, 0, 0) := by decide +kernel
theorem f292_186 : mFetch 292 186 = some (.iload 5, 2, 0, 0, 0, 0) := by decide +kernel
theorem f292_188 : mFetch 292 188 = some (.if_icmp .ge 7, 3, 195, 0, 0, 0) := by decide +kernel
theorem f292_191 : mFetch 292 191 = some (.iconst 1, 1, 0, 0, 0, 0) := by decide +kernel
theorem f292_192 : mFetch 292 192 = some (.goto 4, 3, 196, 0, 0, 0) := by decide +kernel
theorem f292_195 : mFetch 292 195 = some (.iconst 0, 1, 0, 0, 0, 0) := by decide +kernel
theorem f292_196 : mFetch 292 196 = some (.iadd, 1, 0, 0, 0, 0) := by decide +kernel
theorem f292_197 : mFetch 292 197 = some (.ireturn, 1, 0, 0, 0, 0) := by decide +kernel
theorem b292_0 {X : (Nat → Int) × Nat} {d : Nat} {s : mSt} {Q : mQ} {x1 : Int} {x2 : Int} {l3 : Option mV} {l4 : Option mV} {l5 : Option mV} {l6 : Option mV} {l7 : Option mV} {l8 : Option mV} (h_1 : Sp X d 214 [mR 407, mI x2] s (fun r s' => ∃ v : Int, r = some (mI v) ∧ Wp X (d + 1) 292 5 [some (mR 407), some (mI x1), some (mI x2), l3, l4, l5, l6, l7, l8] [mI v] s' Q)) : Wp X (d + 1) 292 0 [some (mR 407), some (mI x1), some (mI x2), l3, l4, l5, l6, l7, l8] [] s Q := Wp_step k292 f292_0 (Wp_step k292 f292_1 (Wp_step k292 f292_2 ⟨⟨kf_407, Nat.le_of_ble_eq_true rfl⟩, Nat.le_refl _, _, rfl, Sp_E h_1⟩))
theorem b292_5 {X : (Nat → Int) × Nat} {d : Nat} {s : mSt} {Q : mQ} {x1 : Int} {x2 : Int} {l3 : Option mV} {l4 : Option mV} {l5 : Option mV} {l6 : Option mV} {l7 : Option mV} {l8 : Option mV} {xt0 : Int} (h_1 : xt0 = 0 → Wp X d 292 20 [some (mR 407), some (mI x1), some (mI x2), l3, l4, l5, l6, l7, l8] [] s Q) (h_2 : ¬ xt0 = 0 → Wp X d 292 8 [some (mR 407), some (mI x1), some (mI x2), l3, l4, l5, l6, l7, l8] [] s Q) : Wp X d 292 5 [some (mR 407), some (mI x1), some (mI x2), l3, l4, l5, l6, l7, l8] [mI xt0] s Q := Wp_step k292 f292_5 ⟨h_1, h_2⟩
theorem b292_8 {X : (Nat → Int) × Nat} {d : Nat} {s : mSt} {Q : mQ} {x1 : Int} {x2 : Int} {l3 : Option mV} {l4 : Option mV} {l5 : Option mV} {l6 : Option mV} {l7 : Option mV} {l8 : Option mV} (h_1 : Sp X d 167 [mJ x1, mJ 0, mJ 9999] s (fun r s' => ∃ v : Int, r = some (mI v) ∧ Wp X (d + 1) 292 17 [some (mR 407), some (mI x1), some (mI x2), l3, l4, l5, l6, l7, l8] [mI v] s' Q)) : Wp X (d + 1) 292 8 [some (mR 407), some (mI x1), some (mI x2), l3, l4, l5, l6, l7, l8] [] s Q := Wp_step k292 f292_8 (Wp_step k292 f292_9 (Wp_step k292 f292_10 (Wp_step k292 f292_11 (Wp_step k292 f292_14 ⟨⟨Nat.le_of_ble_eq_true rfl, Nat.le_refl _⟩, _, rfl, Sp_E h_1⟩))))
theorem b292_17 {X : (Nat → Int) × Nat} {d : Nat} {s : mSt} {Q : mQ} {x1 : Int} {x2 : Int} {l3 : Option mV} {l4 : Option mV} {l5 : Option mV} {l6 : Option mV} {l7 : Option mV} {l8 : Option mV} {xt0 : Int} (h_1 : ¬ xt0 = 0 → Wp X d 292 22 [some (mR 407), some (mI x1), some (mI x2), l3, l4, l5, l6, l7, l8] [] s Q) (h_2 : xt0 = 0 → Wp X d 292 20 [some (mR 407), some (mI x1), some (mI x2), l3, l4, l5, l6, l7, l8] [] s Q) : Wp X d 292 17 [some (mR 407), some (mI x1), some (mI x2), l3, l4, l5, l6, l7, l8] [mI xt0] s Q := Wp_step k292 f292_17 ⟨h_1, h_2⟩
theorem b292_20 {X : (Nat → Int) × Nat} {d : Nat} {s : mSt} {Q : mQ} {x1 : Int} {x2 : Int} {l3 : Option mV} {l4 : Option mV} {l5 : Option mV} {l6 : Option mV} {l7 : Option mV} {l8 : Option mV} (h_1 : Q (some (mI (-1))) s) : Wp X d 292 20 [some (mR 407), some (mI x1), some (mI x2), l3, l4, l5, l6, l7, l8] [] s Q := Wp_step k292 f292_20 (Wp_step k292 f292_21 ⟨⟨rfl, trivial⟩, h_1⟩)
theorem b292_22 {X : (Nat → Int) × Nat} {d : Nat} {s : mSt} {Q : mQ} {x1 : Int} {x2 : Int} {l3 : Option mV} {l4 : Option mV} {l5 : Option mV} {l6 : Option mV} {l7 : Option mV} {l8 : Option mV} (h_1 : Wp X d 292 27 [some (mR 407), some (mI x1), some (mI x2), some (mI 0), some (mI 0), l5, l6, l7, l8] [] s Q) : Wp X d 292 22 [some (mR 407), some (mI x1), some (mI x2), l3, l4, l5, l6, l7, l8] [] s Q := Wp_step k292 f292_22 (Wp_step k292 f292_23 (Wp_step k292 f292_24 (Wp_step k292 f292_25 (h_1))))
theorem b292_27 {X : (Nat → Int) × Nat} {d : Nat} {s : mSt} {Q : mQ} {x1 : Int} {x2 : Int} {x3 : Int} {x4 : Int} {l5 : Option mV} {l6 : Option mV} {l7 : Option mV} {l8 : Option mV} (h_1 : (s 417 4) ≤ x4 → Wp X d 292 66 [some (mR 407), some (mI x1), some (mI x2), some (mI x3), some (mI x4), l5, l6, l7, l8] [] s Q) (h_2 : ¬ (s 417 4) ≤ x4 → Wp X d 292 38 [some (mR 407), some (mI x1), some (mI x2), some (mI x3), some (mI x4), l5, l6, l7, l8] [] s Q) : Wp X d 292 27 [some (mR 407), some (mI x1), some (mI x2), some (mI x3), some (mI x4), l5, l6, l7, l8] [] s Q := Wp_step k292 f292_27 (Wp_step k292 f292_29 (Wp_step k292 f292_30 ⟨kf_407, 417, rf_407_20, Wp_step k292 f292_33 (Wp_step k292 f292_34 ⟨166, af_417, ⟨by decide, by decide⟩, Wp_step k292 f292_35 ⟨h_1, h_2⟩⟩)⟩))
theorem b292_38 {X : (Nat → Int) × Nat} {d : Nat} {s : mSt} {Q : mQ} {x1 : Int} {x2 : Int} {x3 : Int} {x4 : Int} {l5 : Option mV} {l6 : Option mV} {l7 : Option mV} {l8 : Option mV} (h_1 : Sp X d 216 [mR 407, mI x4] s (fun r s' => ∃ v : Int, r = some (mI v) ∧ Wp X (d + 1) 292 45 [some (mR 407), some (mI x1), some (mI x2), some (mI x3), some (mI x4), l5, l6, l7, l8] [mI v, mI x3] s' Q)) : Wp X (d + 1) 292 38 [some (mR 407), some (mI x1), some (mI x2), some (mI x3), some (mI x4), l5, l6, l7, l8] [] s Q := Wp_step k292 f292_38 (Wp_step k292 f292_39 (Wp_step k292 f292_40 (Wp_step k292 f292_42 ⟨⟨kf_407, Nat.le_of_ble_eq_true rfl⟩, Nat.le_refl _, _, rfl, Sp_E h_1⟩)))
theorem b292_45 {X : (Nat → Int) × Nat} {d : Nat} {s : mSt} {Q : mQ} {x1 : Int} {x2 : Int} {x3 : Int} {x4 : Int} {l5 : Option mV} {l6 : Option mV} {l7 : Option mV} {l8 : Option mV} {xt0 : Int} {xt1 : Int} (h_1 : xt1 = 0 → Wp X d 292 57 [some (mR 407), some (mI x1), some (mI x2), some (mI x3), some (mI x4), l5, l6, l7, l8] [mI xt0] s Q) (h_2 : ¬ xt1 = 0 → Wp X d 292 48 [some (mR 407), some (mI x1), some (mI x2), some (mI x3), some (mI x4), l5, l6, l7, l8] [mI xt0] s Q) : Wp X d 292 45 [some (mR 407), some (mI x1), some (mI x2), some (mI x3), some (mI x4), l5, l6, l7, l8] [mI xt1, mI xt0] s Q := Wp_step k292 f292_45 ⟨h_1, h_2⟩
theorem b292_48 {X : (Nat → Int) × Nat} {d : Nat} {s : mSt} {Q : mQ} {x1 : Int} {x2 : Int} {x3 : Int} {x4 : Int} {l5 : Option mV} {l6 : Option mV} {l7 : Option mV} {l8 : Option mV} {xt0 : Int} (h_1 : Sp X d 220 [mR 407, mI x4] s (fun r s' => ∃ v : Int, r = some (mI v) ∧ Wp X (d + 1) 292 54 [some (mR 407), some (mI x1), some (mI x2), some (mI x3), some (mI x4), l5, l6, l7, l8] [mI v, mI xt0] s' Q)) : Wp X (d + 1) 292 48 [some (mR 407), some (mI x1), some (mI x2), some (mI x3), some (mI x4), l5, l6, l7, l8] [mI xt0] s Q := Wp_step k292 f292_48 (Wp_step k292 f292_49 (Wp_step k292 f292_51 ⟨⟨kf_407, Nat.le_of_ble_eq_true rfl⟩, Nat.le_refl _, _, rfl, Sp_E h_1⟩))
theorem b292_54 {X : (Nat → Int) × Nat} {d : Nat} {s : mSt} {Q : mQ} {x1 : Int} {x2 : Int} {x3 : Int} {x4 : Int} {l5 : Option mV} {l6 : Option mV} {l7 : Option mV} {l8 : Option mV} {xt0 : Int} {xt1 : Int} (h_1 : Wp X d 292 58 [some (mR 407), some (mI x1), some (mI x2), some (mI x3), some (mI x4), l5, l6, l7, l8] [mI xt1, mI xt0] s Q) : Wp X d 292 54 [some (mR 407), some (mI x1), some (mI x2), some (mI x3), some (mI x4), l5, l6, l7, l8] [mI xt1, mI xt0] s Q := Wp_step k292 f292_54 (h_1)
theorem b292_57 {X : (Nat → Int) × Nat} {d : Nat} {s : mSt} {Q : mQ} {x1 : Int} {x2 : Int} {x3 : Int} {x4 : Int} {l5 : Option mV} {l6 : Option mV} {l7 : Option mV} {l8 : Option mV} {xt0 : Int} (h_1 : Wp X d 292 58 [some (mR 407), some (mI x1), some (mI x2), some (mI x3), some (mI x4), l5, l6, l7, l8] [mI 0, mI xt0] s Q) : Wp X d 292 57 [some (mR 407), some (mI x1), some (mI x2), some (mI x3), some (mI x4), l5, l6, l7, l8] [mI xt0] s Q := Wp_step k292 f292_57 (h_1)
theorem b292_58 {X : (Nat → Int) × Nat} {d : Nat} {s : mSt} {Q : mQ} {x1 : Int} {x2 : Int} {x3 : Int} {x4 : Int} {l5 : Option mV} {l6 : Option mV} {l7 : Option mV} {l8 : Option mV} {xt0 : Int} {xt1 : Int} (h_1 : Wp X d 292 27 [some (mR 407), some (mI x1), some (mI x2), some (mI (w32 (xt0 + xt1))), some (mI (w32 (x4 + 1))), l5, l6, l7, l8] [] s Q) : Wp X d 292 58 [some (mR 407), some (mI x1), some (mI x2), some (mI x3), some (mI x4), l5, l6, l7, l8] [mI xt1, mI xt0] s Q := Wp_step k292 f292_58 (Wp_step k292 f292_59 (Wp_step k292 f292_60 (Wp_step k292 f292_63 (h_1))))
theorem b292_66 {X : (Nat → Int) × Nat} {d : Nat} {s : mSt} {Q : mQ} {x1 : Int} {x2 : Int} {x3 : Int} {x4 : Int} {l5 : Option mV} {l6 : Option mV} {l7 : Option mV} {l8 : Option mV} (h_1 : Sp X d 216 [mR 407, mI x2] s (fun r s' => ∃ v : Int, r = some (mI v) ∧ Wp X (d + 1) 292 71 [some (mR 407), some (mI x1), some (mI x2), some (mI x3), some (mI x4), l5, l6, l7, l8] [mI v] s' Q)) : Wp X (d + 1) 292 66 [some (mR 407), some (mI x1), some (mI x2), some (mI x3), some (mI x4), l5, l6, l7, l8] [] s Q := Wp_step k292 f292_66 (Wp_step k292 f292_67 (Wp_step k292 f292_68 ⟨⟨kf_407, Nat.le_of_ble_eq_true rfl⟩, Nat.le_refl _, _, rfl, Sp_E h_1⟩))
theorem b292_71 {X : (Nat → Int) × Nat} {d : Nat} {s : mSt} {Q : mQ} {x1 : Int} {x2 : Int} {x3 : Int} {x4 : Int} {l5 : Option mV} {l6 : Option mV} {l7 : Option mV} {l8 : Option mV} {xt0 : Int} (h_1 : ¬ xt0 = 0 → Wp X d 292 76 [some (mR 407), some (mI x1), some (mI x2), some (mI x3), some (mI x4), l5, l6, l7, l8] [] s Q) (h_2 : xt0 = 0 → Wp X d 292 74 [some (mR 407), some (mI x1), some (mI x2), some (mI x3), some (mI x4), l5, l6, l7, l8] [] s Q) : Wp X d 292 71 [some (mR 407), some (mI x1), some (mI x2), some (mI x3), some (mI x4), l5, l6, l7, l8] [mI xt0] s Q := Wp_step k292 f292_71 ⟨h_1, h_2⟩
theorem b292_74 {X : (Nat → Int) × Nat} {d : Nat} {s : mSt} {Q : mQ} {x1 : Int} {x2 : Int} {x3 : Int} {x4 : Int} {l5 : Option mV} {l6 : Option mV} {l7 : Option mV} {l8 : Option mV} (h_1 : Q (some (mI 0)) s) : Wp X d 292 74 [some (mR 407), some (mI x1), some (mI x2), some (mI x3), some (mI x4), l5, l6, l7, l8] [] s Q := Wp_step k292 f292_74 (Wp_step k292 f292_75 ⟨⟨rfl, trivial⟩, h_1⟩)
theorem b292_76 {X : (Nat → Int) × Nat} {d : Nat} {s : mSt} {Q : mQ} {x1 : Int} {x2 : Int} {x3 : Int} {x4 : Int} {l5 : Option mV} {l6 : Option mV} {l7 : Option mV} {l8 : Option mV} (h_1 : Sp X d 220 [mR 407, mI x2] s (fun r s' => ∃ v : Int, r = some (mI v) ∧ Wp X (d + 1) 292 82 [some (mR 407), some (mI x1), some (mI x2), some (mI x3), some (mI x4), l5, l6, l7, l8] [mI v, mI x1] s' Q)) : Wp X (d + 1) 292 76 [some (mR 407), some (mI x1), some (mI x2), some (mI x3), some (mI x4), l5, l6, l7, l8] [] s Q := Wp_step k292 f292_76 (Wp_step k292 f292_77 (Wp_step k292 f292_78 (Wp_step k292 f292_79 ⟨⟨kf_407, Nat.le_of_ble_eq_true rfl⟩, Nat.le_refl _, _, rfl, Sp_E h_1⟩)))
theorem b292_82 {X : (Nat → Int) × Nat} {d : Nat} {s : mSt} {Q : mQ} {x1 : Int} {x2 : Int} {x3 : Int} {x4 : Int} {l5 : Option mV} {l6 : Option mV} {l7 : Option mV} {l8 : Option mV} {xt0 : Int} {xt1 : Int} (h_1 : Wp X d 292 94 [some (mR 407), some (mI x1), some (mI x2), some (mI x3), some (mI (w32 (xt0 * xt1))), some (mI x1), some (mI 0), some (mI 0), l8] [] s Q) : Wp X d 292 82 [some (mR 407), some (mI x1), some (mI x2), some (mI x3), some (mI x4), l5, l6, l7, l8] [mI xt1, mI xt0] s Q := Wp_step k292 f292_82 (Wp_step k292 f292_83 (Wp_step k292 f292_85 (Wp_step k292 f292_86 (Wp_step k292 f292_88 (Wp_step k292 f292_89 (Wp_step k292 f292_91 (Wp_step k292 f292_92 (h_1))))))))
theorem b292_94 {X : (Nat → Int) × Nat} {d : Nat} {s : mSt} {Q : mQ} {x1 : Int} {x2 : Int} {x3 : Int} {x4 : Int} {x5 : Int} {x6 : Int} {x7 : Int} {l8 : Option mV} (h_1 : (s 417 4) ≤ x7 → Wp X d 292 180 [some (mR 407), some (mI x1), some (mI x2), some (mI x3), some (mI x4), some (mI x5), some (mI x6), some (mI x7), l8] [] s Q) (h_2 : ¬ (s 417 4) ≤ x7 → Wp X d 292 105 [some (mR 407), some (mI x1), some (mI x2), some (mI x3), some (mI x4), some (mI x5), some (mI x6), some (mI x7), l8] [] s Q) : Wp X d 292 94 [some (mR 407), some (mI x1), some (mI x2), some (mI x3), some (mI x4), some (mI x5), some (mI x6), some (mI x7), l8] [] s Q := Wp_step k292 f292_94 (Wp_step k292 f292_96 (Wp_step k292 f292_97 ⟨kf_407, 417, rf_407_20, Wp_step k292 f292_100 (Wp_step k292 f292_101 ⟨166, af_417, ⟨by decide, by decide⟩, Wp_step k292 f292_102 ⟨h_1, h_2⟩⟩)⟩))
theorem b292_105 {X : (Nat → Int) × Nat} {d : Nat} {s : mSt} {Q : mQ} {x1 : Int} {x2 : Int} {x3 : Int} {x4 : Int} {x5 : Int} {x6 : Int} {x7 : Int} {l8 : Option mV} (h_1 : Sp X d 216 [mR 407, mI x7] s (fun r s' => ∃ v : Int, r = some (mI v) ∧ Wp X (d + 1) 292 111 [some (mR 407), some (mI x1), some (mI x2), some (mI x3), some (mI x4), some (mI x5), some (mI x6), some (mI x7), l8] [mI v] s' Q)) : Wp X (d + 1) 292 105 [some (mR 407), some (mI x1), some (mI x2), some (mI x3), some (mI x4), some (mI x5), some (mI x6), some (mI x7), l8] [] s Q := Wp_step k292 f292_105 (Wp_step k292 f292_106 (Wp_step k292 f292_108 ⟨⟨kf_407, Nat.le_of_ble_eq_true rfl⟩, Nat.le_refl _, _, rfl, Sp_E h_1⟩))
theorem b292_111 {X : (Nat → Int) × Nat} {d : Nat} {s : mSt} {Q : mQ} {x1 : Int} {x2 : Int} {x3 : Int} {x4 : Int} {x5 : Int} {x6 : Int} {x7 : Int} {l8 : Option mV} {xt0 : Int} (h_1 : ¬ xt0 = 0 → Wp X d 292 117 [some (mR 407), some (mI x1), some (mI x2), some (mI x3), some (mI x4), some (mI x5), some (mI x6), some (mI x7), l8] [] s Q) (h_2 : xt0 = 0 → Wp X d 292 114 [some (mR 407), some (mI x1), some (mI x2), some (mI x3), some (mI x4), some (mI x5), some (mI x6), some (mI x7), l8] [] s Q) : Wp X d 292 111 [some (mR 407), some (mI x1), some (mI x2), some (mI x3), some (mI x4), some (mI x5), some (mI x6), some (mI x7), l8] [mI xt0] s Q := Wp_step k292 f292_111 ⟨h_1, h_2⟩
theorem b292_114 {X : (Nat → Int) × Nat} {d : Nat} {s : mSt} {Q : mQ} {x1 : Int} {x2 : Int} {x3 : Int} {x4 : Int} {x5 : Int} {x6 : Int} {x7 : Int} {l8 : Option mV} (h_1 : Wp X d 292 174 [some (mR 407), some (mI x1), some (mI x2), some (mI x3), some (mI x4), some (mI x5), some (mI x6), some (mI x7), l8] [] s Q) : Wp X d 292 114 [some (mR 407), some (mI x1), some (mI x2), some (mI x3), some (mI x4), some (mI x5), some (mI x6), some (mI x7), l8] [] s Q := Wp_step k292 f292_114 (h_1)
theorem b292_117 {X : (Nat → Int) × Nat} {d : Nat} {s : mSt} {Q : mQ} {x1 : Int} {x2 : Int} {x3 : Int} {x4 : Int} {x5 : Int} {x6 : Int} {x7 : Int} {l8 : Option mV} (h_1 : Sp X d 220 [mR 407, mI x7] s (fun r s' => ∃ v : Int, r = some (mI v) ∧ Wp X (d + 1) 292 124 [some (mR 407), some (mI x1), some (mI x2), some (mI x3), some (mI x4), some (mI x5), some (mI x6), some (mI x7), l8] [mI v, mI x1] s' Q)) : Wp X (d + 1) 292 117 [some (mR 407), some (mI x1), some (mI x2), some (mI x3), some (mI x4), some (mI x5), some (mI x6), some (mI x7), l8] [] s Q := Wp_step k292 f292_117 (Wp_step k292 f292_118 (Wp_step k292 f292_119 (Wp_step k292 f292_121 ⟨⟨kf_407, Nat.le_of_ble_eq_true rfl⟩, Nat.le_refl _, _, rfl, Sp_E h_1⟩)))
theorem b292_124 {X : (Nat → Int) × Nat} {d : Nat} {s : mSt} {Q : mQ} {x1 : Int} {x2 : Int} {x3 : Int} {x4 : Int} {x5 : Int} {x6 : Int} {x7 : Int} {l8 : Option mV} {xt0 : Int} {xt1 : Int} (h_1 : x3 ≠ 0) (h_2 : x3 ≠ 0) (h_3 : x3 ≠ 0) (h_4 : (Int.tmod x4 x3) < (Int.tmod (w32 (xt0 * xt1)) x3) → Wp X d 292 166 [some (mR 407), some (mI x1), some (mI x2), some (mI x3), some (mI x4), some (mI (w32 (x5 - (w32 (Int.tdiv (w32 (xt0 * xt1)) x3))))), some (mI x6), some (mI x7), some (mI (w32 (xt0 * xt1)))] [mI x6] s Q) (h_5 : ¬ (Int.tmod x4 x3) < (Int.tmod (w32 (xt0 * xt1)) x3) → Wp X d 292 149 [some (mR 407), some (mI x1), some (mI x2), some (mI x3), some (mI x4), some (mI (w32 (x5 - (w32 (Int.tdiv (w32 (xt0 * xt1)) x3))))), some (mI x6), some (mI x7), some (mI (w32 (xt0 * xt1)))] [mI x6] s Q) : Wp X d 292 124 [some (mR 407), some (mI x1), some (mI x2), some (mI x3), some (mI x4), some (mI x5), some (mI x6), some (mI x7), l8] [mI xt1, mI xt0] s Q := Wp_step k292 f292_124 (Wp_step k292 f292_125 (Wp_step k292 f292_127 (Wp_step k292 f292_129 (Wp_step k292 f292_131 (Wp_step k292 f292_132 ⟨h_1, Wp_step k292 f292_133 (Wp_step k292 f292_134 (Wp_step k292 f292_136 (Wp_step k292 f292_138 (Wp_step k292 f292_140 (Wp_step k292 f292_141 ⟨h_2, Wp_step k292 f292_142 (Wp_step k292 f292_144 (Wp_step k292 f292_145 ⟨h_3, Wp_step k292 f292_146 ⟨h_4, h_5⟩⟩))⟩)))))⟩)))))
theorem b292_149 {X : (Nat → Int) × Nat} {d : Nat} {s : mSt} {Q : mQ} {x1 : Int} {x2 : Int} {x3 : Int} {x4 : Int} {x5 : Int} {x6 : Int} {x7 : Int} {x8 : Int} {xt0 : Int} (h_1 : x3 ≠ 0) (h_2 : x3 ≠ 0) (h_3 : ¬ (Int.tmod x8 x3) = (Int.tmod x4 x3) → Wp X d 292 170 [some (mR 407), some (mI x1), some (mI x2), some (mI x3), some (mI x4), some (mI x5), some (mI x6), some (mI x7), some (mI x8)] [mI xt0] s Q) (h_4 : (Int.tmod x8 x3) = (Int.tmod x4 x3) → Wp X d 292 160 [some (mR 407), some (mI x1), some (mI x2), some (mI x3), some (mI x4), some (mI x5), some (mI x6), some (mI x7), some (mI x8)] [mI xt0] s Q) : Wp X d 292 149 [some (mR 407), some (mI x1), some (mI x2), some (mI x3), some (mI x4), some (mI x5), some (mI x6), some (mI x7), some (mI x8)] [mI xt0] s Q := Wp_step k292 f292_149 (Wp_step k292 f292_151 (Wp_step k292 f292_152 ⟨h_1, Wp_step k292 f292_153 (Wp_step k292 f292_155 (Wp_step k292 f292_156 ⟨h_2, Wp_step k292 f292_157 ⟨h_3, h_4⟩⟩))⟩))
theorem b292_160 {X : (Nat → Int) × Nat} {d : Nat} {s : mSt} {Q : mQ} {x1 : Int} {x2 : Int} {x3 : Int} {x4 : Int} {x5 : Int} {x6 : Int} {x7 : Int} {x8 : Int} {xt0 : Int} (h_1 : x2 ≤ x7 → Wp X d 292 170 [some (mR 407), some (mI x1), some (mI x2), some (mI x3), some (mI x4), some (mI x5), some (mI x6), some (mI x7), some (mI x8)] [mI xt0] s Q) (h_2 : ¬ x2 ≤ x7 → Wp X d 292 166 [some (mR 407), some (mI x1), some (mI x2), some (mI x3), some (mI x4), some (mI x5), some (mI x6), some (mI x7), some (mI x8)] [mI xt0] s Q) : Wp X d 292 160 [some (mR 407), some (mI x1), some (mI x2), some (mI x3), some (mI x4), some (mI x5), some (mI x6), some (mI x7), some (mI x8)] [mI xt0] s Q := Wp_step k292 f292_160 (Wp_step k292 f292_162 (Wp_step k292 f292_163 ⟨h_1, h_2⟩))
theorem b292_166 {X : (Nat → Int) × Nat} {d : Nat} {s : mSt} {Q : mQ} {x1 : Int} {x2 : Int} {x3 : Int} {x4 : Int} {x5 : Int} {x6 : Int} {x7 : Int} {x8 : Int} {xt0 : Int} (h_1 : Wp X d 292 171 [some (mR 407), some (mI x1), some (mI x2), some (mI x3), some (mI x4), some (mI x5), some (mI x6), some (mI x7), some (mI x8)] [mI 1, mI xt0] s Q) : Wp X d 292 166 [some (mR 407), some (mI x1), some (mI x2), some (mI x3), some (mI x4), some (mI x5), some (mI x6), some (mI x7), some (mI x8)] [mI xt0] s Q := Wp_step k292 f292_166 (Wp_step k292 f292_167 (h_1))
theorem b292_170 {X : (Nat → Int) × Nat} {d : Nat} {s : mSt} {Q : mQ} {x1 : Int} {x2 : Int} {x3 : Int} {x4 : Int} {x5 : Int} {x6 : Int} {x7 : Int} {x8 : Int} {xt0 : Int} (h_1 : Wp X d 292 171 [some (mR 407), some (mI x1), some (mI x2), some (mI x3), some (mI x4), some (mI x5), some (mI x6), some (mI x7), some (mI x8)] [mI 0, mI xt0] s Q) : Wp X d 292 170 [some (mR 407), some (mI x1), some (mI x2), some (mI x3), some (mI x4), some (mI x5), some (mI x6), some (mI x7), some (mI x8)] [mI xt0] s Q := Wp_step k292 f292_170 (h_1)
theorem b292_171 {X : (Nat → Int) × Nat} {d : Nat} {s : mSt} {Q : mQ} {x1 : Int} {x2 : Int} {x3 : Int} {x4 : Int} {x5 : Int} {x6 : Int} {x7 : Int} {x8 : Int} {xt0 : Int} {xt1 : Int} (h_1 : Wp X d 292 174 [some (mR 407), some (mI x1), some (mI x2), some (mI x3), some (mI x4), some (mI x5), some (mI (w32 (xt0 + xt1))), some (mI x7), some (mI x8)] [] s Q) : Wp X d 292 171 [some (mR 407), some (mI x1), some (mI x2), some (mI x3), some (mI x4), some (mI x5), some (mI x6), some (mI x7), some (mI x8)] [mI xt1, mI xt0] s Q := Wp_step k292 f292_171 (Wp_step k292 f292_172 (h_1))
theorem b292_174 {X : (Nat → Int) × Nat} {d : Nat} {s : mSt} {Q : mQ} {x1 : Int} {x2 : Int} {x3 : Int} {x4 : Int} {x5 : Int} {x6 : Int} {x7 : Int} {l8 : Option mV} (h_1 : Wp X d 292 94 [some (mR 407), some (mI x1), some (mI x2), some (mI x3), some (mI x4), some (mI x5), some (mI x6), some (mI (w32 (x7 + 1))), l8] [] s Q) : Wp X d 292 174 [some (mR 407), some (mI x1), some (mI x2), some (mI x3), some (mI x4), some (mI x5), some (mI x6), some (mI x7), l8] [] s Q := Wp_step k292 f292_174 (Wp_step k292 f292_177 (h_1))
theorem b292_180 {X : (Nat → Int) × Nat} {d : Nat} {s : mSt} {Q : mQ} {x1 : Int} {x2 : Int} {x3 : Int} {x4 : Int} {x5 : Int} {x6 : Int} {x7 : Int} {l8 : Option mV} (h_1 : x3 ≠ 0) (h_2 : x5 ≤ x6 → Wp X d 292 195 [some (mR 407), some (mI x1), some (mI x2), some (mI x3), some (mI x4), some (mI x5), some (mI x6), some (mI x7), l8] [mI (w32 (Int.tdiv x4 x3))] s Q) (h_3 : ¬ x5 ≤ x6 → Wp X d 292 191 [some (mR 407), some (mI x1), some (mI x2), some (mI x3), some (mI x4), some (mI x5), some (mI x6), some (mI x7), l8] [mI (w32 (Int.tdiv x4 x3))] s Q) : Wp X d 292 180 [some (mR 407), some (mI x1), some (mI x2), some (mI x3), some (mI x4), some (mI x5), some (mI x6), some (mI x7), l8] [] s Q := Wp_step k292 f292_180 (Wp_step k292 f292_182 (Wp_step k292 f292_183 ⟨h_1, Wp_step k292 f292_184 (Wp_step k292 f292_186 (Wp_step k292 f292_188 ⟨h_2, h_3⟩))⟩))
theorem b292_191 {X : (Nat → Int) × Nat} {d : Nat} {s : mSt} {Q : mQ} {x1 : Int} {x2 : Int} {x3 : Int} {x4 : Int} {x5 : Int} {x6 : Int} {x7 : Int} {l8 : Option mV} {xt0 : Int} (h_1 : Wp X d 292 196 [some (mR 407), some (mI x1), some (mI x2), some (mI x3), some (mI x4), some (mI x5), some (mI x6), some (mI x7), l8] [mI 1, mI xt0] s Q) : Wp X d 292 191 [some (mR 407), some (mI x1), some (mI x2), some (mI x3), some (mI x4), some (mI x5), some (mI x6), some (mI x7), l8] [mI xt0] s Q := Wp_step k292 f292_191 (Wp_step k292 f292_192 (h_1))
theorem b292_195 {X : (Nat → Int) × Nat} {d : Nat} {s : mSt} {Q : mQ} {x1 : Int} {x2 : Int} {x3 : Int} {x4 : Int} {x5 : Int} {x6 : Int} {x7 : Int} {l8 : Option mV} {xt0 : Int} (h_1 : Wp X d 292 196 [some (mR 407), some (mI x1), some (mI x2), some (mI x3), some (mI x4), some (mI x5), some (mI x6), some (mI x7), l8] [mI 0, mI xt0] s Q) : Wp X d 292 195 [some (mR 407), some (mI x1), some (mI x2), some (mI x3), some (mI x4), some (mI x5), some (mI x6), some (mI x7), l8] [mI xt0] s Q := Wp_step k292 f292_195 (h_1)
theorem b292_196 {X : (Nat → Int) × Nat} {d : Nat} {s : mSt} {Q : mQ} {x1 : Int} {x2 : Int} {x3 : Int} {x4 : Int} {x5 : Int} {x6 : Int} {x7 : Int} {l8 : Option mV} {xt0 : Int} {xt1 : Int} (h_1 : Q (some (mI (w32 (xt0 + xt1)))) s) : Wp X d 292 196 [some (mR 407), some (mI x1), some (mI x2), some (mI x3), some (mI x4), some (mI x5), some (mI x6), some (mI x7), l8] [mI xt1, mI xt0] s Q := Wp_step k292 f292_196 (Wp_step k292 f292_197 ⟨⟨rfl, trivial⟩, h_1⟩)
theorem e292 {X : (Nat → Int) × Nat} {d : Nat} {s : mSt} {Q : mQ} {x1 : Int} {x2 : Int} (h : Wp X d 292 0 [some (mR 407), some (mI x1), some (mI x2), none, none, none, none, none, none] [] s Q) : Sp X d 292 [mR 407, mI x1, mI x2] s Q := Sp_of (show mCe 292 = 0 by decide +kernel) (by rw [show mML 292 = 9 by decide +kernel]; rfl) (Nat.le_trans (Nat.le_of_ble_eq_true (show Nat.ble (mArgs _).length 9 = true from rfl)) (show 9 ≤ mML 292 by decide +kernel)) h
-- 293 ClashDayModel.note(III)I
theorem k293 : mRk 293 = 1 := by decide +kernel
theorem f293_0 : mFetch 293 0 = some (.iload_n 1, 1, 0, 0, 0, 0) := by decide +kernel
theorem f293_1 : mFetch 293 1 = some (.iconst (-1), 1, 0, 0, 0, 0) := by decide +kernel
theorem f293_2 : mFetch 293 2 = some (.if_icmp .ne 14, 3, 16, 0, 0, 0) := by decide +kernel
theorem f293_5 : mFetch 293 5 = some (.aload_n 0, 1, 0, 0, 0, 0) := by decide +kernel
theorem f293_6 : mFetch 293 6 = some (.getfield 39, 3, 12, 20, 2, 1) := by decide +kernel
theorem f293_9 : mFetch 293 9 = some (.sipush 165, 3, 0, 0, 0, 0) := by decide +kernel
theorem f293_12 : mFetch 293 12 = some (.iconst 0, 1, 0, 0, 0, 0) := by decide +kernel
theorem f293_13 : mFetch 293 13 = some (.iastore, 1, 0, 0, 0, 0) := by decide +kernel
theorem f293_14 : mFetch 293 14 = some (.iconst 0, 1, 0, 0, 0, 0) := by decide +kernel
theorem f293_15 : mFetch 293 15 = some (.ireturn, 1, 0, 0, 0, 0) := by decide +kernel
theorem f293_16 : mFetch 293 16 = some (.aload_n 0, 1, 0, 0, 0, 0) := by decide +kernel
theorem f293_17 : mFetch 293 17 = some (.invokevirtual 354, 3, 212, 0, 1, 12) := by decide +kernel
theorem f293_20 : mFetch 293 20 = some (.ifCond .eq 52, 3, 72, 0, 0, 0) := by decide +kernel
theorem f293_23 : mFetch 293 23 = some (.iload_n 1, 1, 0, 0, 0, 0) := by decide +kernel
theorem f293_24 : mFetch 293 24 = some (.i2l, 1, 0, 0, 0, 0) := by decide +kernel
theorem f293_25 : mFetch 293 25 = some (.lconst 0, 1, 0, 0, 0, 0) := by decide +kernel
theorem f293_26 : mFetch 293 26 = some (.ldc2_w 461, 3, 9, 0, 0, 0) := by decide +kernel
theorem f293_29 : mFetch 293 29 = some (.invokestatic 151, 3, 167, 0, 3, 99) := by decide +kernel
theorem f293_32 : mFetch 293 32 = some (.ifCond .eq 40, 3, 72, 0, 0, 0) := by decide +kernel
theorem f293_35 : mFetch 293 35 = some (.iload_n 2, 1, 0, 0, 0, 0) := by decide +kernel
theorem f293_36 : mFetch 293 36 = some (.i2l, 1, 0, 0, 0, 0) := by decide +kernel
theorem f293_37 : mFetch 293 37 = some (.lconst 0, 1, 0, 0, 0, 0) := by decide +kernel
theorem f293_38 : mFetch 293 38 = some (.ldc2_w 357, 3, 29, 0, 0, 0) := by decide +kernel
theorem f293_41 : mFetch 293 41 = some (.invokestatic 151, 3, 167, 0, 3, 99) := by decide +kernel
theorem f293_44 : mFetch 293 44 = some (.ifCond .eq 28, 3, 72, 0, 0, 0) := by decide +kernel
theorem f293_47 : mFetch 293 47 = some (.iload_n 3, 1, 0, 0, 0, 0) := by decide +kernel
theorem f293_48 : mFetch 293 48 = some (.i2l, 1, 0, 0, 0, 0) := by decide +kernel
theorem f293_49 : mFetch 293 49 = some (.lconst 0, 1, 0, 0, 0, 0) := by decide +kernel
theorem f293_50 : mFetch 293 50 = some (.ldc2_w 461, 3, 9, 0, 0, 0) := by decide +kernel
theorem f293_53 : mFetch 293 53 = some (.invokestatic 151, 3, 167, 0, 3, 99) := by decide +kernel
theorem f293_56 : mFetch 293 56 = some (.ifCond .eq 16, 3, 72, 0, 0, 0) := by decide +kernel
theorem f293_59 : mFetch 293 59 = some (.aload_n 0, 1, 0, 0, 0, 0) := by decide +kernel
theorem f293_60 : mFetch 293 60 = some (.getfield 39, 3, 12, 20, 2, 1) := by decide +kernel
theorem f293_63 : mFetch 293 63 = some (.sipush 165, 3, 0, 0, 0, 0) := by decide +kernel
theorem f293_66 : mFetch 293 66 = some (.iaload, 1, 0, 0, 0, 0) := by decide +kernel
theorem f293_67 : mFetch 293 67 = some (.bipush 10, 2, 0, 0, 0, 0) := by decide +kernel
theorem f293_69 : mFetch 293 69 = some (.if_icmp .ne 6, 3, 75, 0, 0, 0) := by decide +kernel
theorem f293_72 : mFetch 293 72 = some (.bipush (-2), 2, 0, 0, 0, 0) := by decide +kernel
theorem f293_74 : mFetch 293 74 = some (.ireturn, 1, 0, 0, 0, 0) := by decide +kernel
theorem f293_75 : mFetch 293 75 = some (.sipush 135, 3, 0, 0, 0, 0) := by decide +kernel
theorem f293_78 : mFetch 293 78 = some (.iconst 3, 1, 0, 0, 0, 0) := by decide +kernel
theorem f293_79 : mFetch 293 79 = some (.aload_n 0, 1, 0, 0, 0, 0) := by decide +kernel
theorem f293_80 : mFetch 293 80 = some (.getfield 39, 3, 12, 20, 2, 1) := by decide +kernel
theorem f293_83 : mFetch 293 83 = some (.sipush 165, 3, 0, 0, 0, 0) := by decide +kernel
theorem f293_86 : mFetch 293 86 = some (.iaload, 1, 0, 0, 0, 0) := by decide +kernel
theorem f293_87 : mFetch 293 87 = some (.imul, 1, 0, 0, 0, 0) := by decide +kernel
theorem f293_88 : mFetch 293 88 = some (.iadd, 1, 0, 0, 0, 0) := by decide +kernel
theorem f293_89 : mFetch 293 89 = some (.istore 4, 2, 0, 0, 0, 0) := by decide +kernel
theorem f293_91 : mFetch 293 91 = some (.aload_n 0, 1, 0, 0, 0, 0) := by decide +kernel
theorem f293_92 : mFetch 293 92 = some (.getfield 39, 3, 12, 20, 2, 1) := by decide +kernel
theorem f293_95 : mFetch 293 95 = some (.iload 4, 2, 0, 0, 0, 0) := by decide +kernel
theorem f293_97 : mFetch 293 97 = some (.iload_n 1, 1, 0, 0, 0, 0) := by decide +kernel
theorem f293_98 : mFetch 293 98 = some (.iastore, 1, 0, 0, 0, 0) := by decide +kernel
theorem f293_99 : mFetch 293 99 = some (.aload_n 0, 1, 0, 0, 0, 0) := by decide +kernel
theorem f293_100 : mFetch 293 100 = some (.getfield 39, 3, 12, 20, 2, 1) := by decide +kernel
theorem f293_103 : mFetch 293 103 = some (.iload 4, 2, 0, 0, 0, 0) := by decide +kernel
theorem f293_105 : mFetch 293 105 = some (.iconst 1, 1, 0, 0, 0, 0) := by decide +kernel
theorem f293_106 : mFetch 293 106 = some (.iadd, 1, 0, 0, 0, 0) := by decide +kernel
theorem f293_107 : mFetch 293 107 = some (.iload_n 2, 1, 0, 0, 0, 0) := by decide +kernel
theorem f293_108 : mFetch 293 108 = some (.iastore, 1, 0, 0, 0, 0) := by decide +kernel
theorem f293_109 : mFetch 293 109 = some (.aload_n 0, 1, 0, 0, 0, 0) := by decide +kernel
theorem f293_110 : mFetch 293 110 = some (.getfield 39, 3, 12, 20, 2, 1) := by decide +kernel
theorem f293_113 : mFetch 293 113 = some (.iload 4, 2, 0, 0, 0, 0) := by decide +kernel
theorem f293_115 : mFetch 293 115 = some (.iconst 2, 1, 0, 0, 0, 0) := by decide +kernel
theorem f293_116 : mFetch 293 116 = some (.iadd, 1, 0, 0, 0, 0) := by decide +kernel
theorem f293_117 : mFetch 293 117 = some (.iload_n 3, 1, 0, 0, 0, 0) := by decide +kernel
theorem f293_118 : mFetch 293 118 = some (.iastore, 1, 0, 0, 0, 0) := by decide +kernel
theorem f293_119 : mFetch 293 119 = some (.aload_n 0, 1, 0, 0, 0, 0) := by decide +kernel
theorem f293_120 : mFetch 293 120 = some (.getfield 39, 3, 12, 20, 2, 1) := by decide +kernel
theorem f293_123 : mFetch 293 123 = some (.sipush 165, 3, 0, 0, 0, 0) := by decide +kernel
theorem f293_126 : mFetch 293 126 = some (.dup2, 1, 0, 0, 0, 0) := by decide +kernel
theorem f293_127 : mFetch 293 127 = some (.iaload, 1, 0, 0, 0, 0) := by decide +kernel
theorem f293_128 : mFetch 293 128 = some (.iconst 1, 1, 0, 0, 0, 0) := by decide +kernel
theorem f293_129 : mFetch 293 129 = some (.iadd, 1, 0, 0, 0, 0) := by decide +kernel
theorem f293_130 : mFetch 293 130 = some (.iastore, 1, 0, 0, 0, 0) := by decide +kernel
theorem f293_131 : mFetch 293 131 = some (.aload_n 0, 1, 0, 0, 0, 0) := by decide +kernel
theorem f293_132 : mFetch 293 132 = some (.getfield 39, 3, 12, 20, 2, 1) := by decide +kernel
theorem f293_135 : mFetch 293 135 = some (.sipush 165, 3, 0, 0, 0, 0) := by decide +kernel
theorem f293_138 : mFetch 293 138 = some (.iaload, 1, 0, 0, 0, 0) := by decide +kernel
theorem f293_139 : mFetch 293 139 = some (.ireturn, 1, 0, 0, 0, 0) := by decide +kernel
theorem b293_0 {X : (Nat → Int) × Nat} {d : Nat} {s : mSt} {Q : mQ} {x1 : Int} {x2 : Int} {x3 : Int} {l4 : Option mV} (h_1 : ¬ x1 = (-1) → Wp X d 293 16 [some (mR 407), some (mI x1), some (mI x2), some (mI x3), l4] [] s Q) (h_2 : x1 = (-1) → Wp X d 293 5 [some (mR 407), some (mI x1), some (mI x2), some (mI x3), l4] [] s Q) : Wp X d 293 0 [some (mR 407), some (mI x1), some (mI x2), some (mI x3), l4] [] s Q := Wp_step k293 f293_0 (Wp_step k293 f293_1 (Wp_step k293 f293_2 ⟨h_1, h_2⟩))
theorem b293_5 {X : (Nat → Int) × Nat} {d : Nat} {s : mSt} {Q : mQ} {x1 : Int} {x2 : Int} {x3 : Int} {l4 : Option mV} (h_1 : Q (some (mI 0)) (uS s 417 165 0)) : Wp X d 293 5 [some (mR 407), some (mI x1), some (mI x2), some (mI x3), l4] [] s Q := Wp_step k293 f293_5 (Wp_step k293 f293_6 ⟨kf_407, 417, rf_407_20, Wp_step k293 f293_9 (Wp_step k293 f293_12 (Wp_step k293 f293_13 ⟨166, af_417, ⟨by decide, by decide⟩, Wp_step k293 f293_14 (Wp_step k293 f293_15 ⟨⟨rfl, trivial⟩, h_1⟩)⟩))⟩)
theorem b293_16 {X : (Nat → Int) × Nat} {d : Nat} {s : mSt} {Q : mQ} {x1 : Int} {x2 : Int} {x3 : Int} {l4 : Option mV} (h_1 : Sp X d 212 [mR 407] s (fun r s' => ∃ v : Int, r = some (mI v) ∧ Wp X (d + 1) 293 20 [some (mR 407), some (mI x1), some (mI x2), some (mI x3), l4] [mI v] s' Q)) : Wp X (d + 1) 293 16 [some (mR 407), some (mI x1), some (mI x2), some (mI x3), l4] [] s Q := Wp_step k293 f293_16 (Wp_step k293 f293_17 ⟨⟨kf_407, Nat.le_of_ble_eq_true rfl⟩, Nat.le_refl _, _, rfl, Sp_E h_1⟩)
theorem b293_20 {X : (Nat → Int) × Nat} {d : Nat} {s : mSt} {Q : mQ} {x1 : Int} {x2 : Int} {x3 : Int} {l4 : Option mV} {xt0 : Int} (h_1 : xt0 = 0 → Wp X d 293 72 [some (mR 407), some (mI x1), some (mI x2), some (mI x3), l4] [] s Q) (h_2 : ¬ xt0 = 0 → Wp X d 293 23 [some (mR 407), some (mI x1), some (mI x2), some (mI x3), l4] [] s Q) : Wp X d 293 20 [some (mR 407), some (mI x1), some (mI x2), some (mI x3), l4] [mI xt0] s Q := Wp_step k293 f293_20 ⟨h_1, h_2⟩
theorem b293_23 {X : (Nat → Int) × Nat} {d : Nat} {s : mSt} {Q : mQ} {x1 : Int} {x2 : Int} {x3 : Int} {l4 : Option mV} (h_1 : Sp X d 167 [mJ x1, mJ 0, mJ 9] s (fun r s' => ∃ v : Int, r = some (mI v) ∧ Wp X (d + 1) 293 32 [some (mR 407), some (mI x1), some (mI x2), some (mI x3), l4] [mI v] s' Q)) : Wp X (d + 1) 293 23 [some (mR 407), some (mI x1), some (mI x2), some (mI x3), l4] [] s Q := Wp_step k293 f293_23 (Wp_step k293 f293_24 (Wp_step k293 f293_25 (Wp_step k293 f293_26 (Wp_step k293 f293_29 ⟨⟨Nat.le_of_ble_eq_true rfl, Nat.le_refl _⟩, _, rfl, Sp_E h_1⟩))))
theorem b293_32 {X : (Nat → Int) × Nat} {d : Nat} {s : mSt} {Q : mQ} {x1 : Int} {x2 : Int} {x3 : Int} {l4 : Option mV} {xt0 : Int} (h_1 : xt0 = 0 → Wp X d 293 72 [some (mR 407), some (mI x1), some (mI x2), some (mI x3), l4] [] s Q) (h_2 : ¬ xt0 = 0 → Wp X d 293 35 [some (mR 407), some (mI x1), some (mI x2), some (mI x3), l4] [] s Q) : Wp X d 293 32 [some (mR 407), some (mI x1), some (mI x2), some (mI x3), l4] [mI xt0] s Q := Wp_step k293 f293_32 ⟨h_1, h_2⟩
theorem b293_35 {X : (Nat → Int) × Nat} {d : Nat} {s : mSt} {Q : mQ} {x1 : Int} {x2 : Int} {x3 : Int} {l4 : Option mV} (h_1 : Sp X d 167 [mJ x2, mJ 0, mJ 29] s (fun r s' => ∃ v : Int, r = some (mI v) ∧ Wp X (d + 1) 293 44 [some (mR 407), some (mI x1), some (mI x2), some (mI x3), l4] [mI v] s' Q)) : Wp X (d + 1) 293 35 [some (mR 407), some (mI x1), some (mI x2), some (mI x3), l4] [] s Q := Wp_step k293 f293_35 (Wp_step k293 f293_36 (Wp_step k293 f293_37 (Wp_step k293 f293_38 (Wp_step k293 f293_41 ⟨⟨Nat.le_of_ble_eq_true rfl, Nat.le_refl _⟩, _, rfl, Sp_E h_1⟩))))
theorem b293_44 {X : (Nat → Int) × Nat} {d : Nat} {s : mSt} {Q : mQ} {x1 : Int} {x2 : Int} {x3 : Int} {l4 : Option mV} {xt0 : Int} (h_1 : xt0 = 0 → Wp X d 293 72 [some (mR 407), some (mI x1), some (mI x2), some (mI x3), l4] [] s Q) (h_2 : ¬ xt0 = 0 → Wp X d 293 47 [some (mR 407), some (mI x1), some (mI x2), some (mI x3), l4] [] s Q) : Wp X d 293 44 [some (mR 407), some (mI x1), some (mI x2), some (mI x3), l4] [mI xt0] s Q := Wp_step k293 f293_44 ⟨h_1, h_2⟩
theorem b293_47 {X : (Nat → Int) × Nat} {d : Nat} {s : mSt} {Q : mQ} {x1 : Int} {x2 : Int} {x3 : Int} {l4 : Option mV} (h_1 : Sp X d 167 [mJ x3, mJ 0, mJ 9] s (fun r s' => ∃ v : Int, r = some (mI v) ∧ Wp X (d + 1) 293 56 [some (mR 407), some (mI x1), some (mI x2), some (mI x3), l4] [mI v] s' Q)) : Wp X (d + 1) 293 47 [some (mR 407), some (mI x1), some (mI x2), some (mI x3), l4] [] s Q := Wp_step k293 f293_47 (Wp_step k293 f293_48 (Wp_step k293 f293_49 (Wp_step k293 f293_50 (Wp_step k293 f293_53 ⟨⟨Nat.le_of_ble_eq_true rfl, Nat.le_refl _⟩, _, rfl, Sp_E h_1⟩))))
theorem b293_56 {X : (Nat → Int) × Nat} {d : Nat} {s : mSt} {Q : mQ} {x1 : Int} {x2 : Int} {x3 : Int} {l4 : Option mV} {xt0 : Int} (h_1 : xt0 = 0 → Wp X d 293 72 [some (mR 407), some (mI x1), some (mI x2), some (mI x3), l4] [] s Q) (h_2 : ¬ xt0 = 0 → Wp X d 293 59 [some (mR 407), some (mI x1), some (mI x2), some (mI x3), l4] [] s Q) : Wp X d 293 56 [some (mR 407), some (mI x1), some (mI x2), some (mI x3), l4] [mI xt0] s Q := Wp_step k293 f293_56 ⟨h_1, h_2⟩
theorem b293_59 {X : (Nat → Int) × Nat} {d : Nat} {s : mSt} {Q : mQ} {x1 : Int} {x2 : Int} {x3 : Int} {l4 : Option mV} (h_1 : ¬ (s 417 165) = 10 → Wp X d 293 75 [some (mR 407), some (mI x1), some (mI x2), some (mI x3), l4] [] s Q) (h_2 : (s 417 165) = 10 → Wp X d 293 72 [some (mR 407), some (mI x1), some (mI x2), some (mI x3), l4] [] s Q) : Wp X d 293 59 [some (mR 407), some (mI x1), some (mI x2), some (mI x3), l4] [] s Q := Wp_step k293 f293_59 (Wp_step k293 f293_60 ⟨kf_407, 417, rf_407_20, Wp_step k293 f293_63 (Wp_step k293 f293_66 ⟨166, af_417, ⟨by decide, by decide⟩, Wp_step k293 f293_67 (Wp_step k293 f293_69 ⟨h_1, h_2⟩)⟩)⟩)
theorem b293_72 {X : (Nat → Int) × Nat} {d : Nat} {s : mSt} {Q : mQ} {x1 : Int} {x2 : Int} {x3 : Int} {l4 : Option mV} (h_1 : Q (some (mI (-2))) s) : Wp X d 293 72 [some (mR 407), some (mI x1), some (mI x2), some (mI x3), l4] [] s Q := Wp_step k293 f293_72 (Wp_step k293 f293_74 ⟨⟨rfl, trivial⟩, h_1⟩)
theorem b293_75 {X : (Nat → Int) × Nat} {d : Nat} {s : mSt} {Q : mQ} {x1 : Int} {x2 : Int} {x3 : Int} {l4 : Option mV} (h_1 : 0 ≤ (w32 (135 + (w32 (3 * (s 417 165))))) ∧ (w32 (135 + (w32 (3 * (s 417 165))))) < 166) (h_2 : 0 ≤ (w32 ((w32 (135 + (w32 (3 * (s 417 165))))) + 1)) ∧ (w32 ((w32 (135 + (w32 (3 * (s 417 165))))) + 1)) < 166) (h_3 : 0 ≤ (w32 ((w32 (135 + (w32 (3 * (s 417 165))))) + 2)) ∧ (w32 ((w32 (135 + (w32 (3 * (s 417 165))))) + 2)) < 166) (h_4 : Q (some (mI ((uS (uS (uS (uS s 417 ((w32 (135 + (w32 (3 * (s 417 165))))).toNat) x1) 417 ((w32 ((w32 (135 + (w32 (3 * (s 417 165))))) + 1)).toNat) x2) 417 ((w32 ((w32 (135 + (w32 (3 * (s 417 165))))) + 2)).toNat) x3) 417 165 (w32 (((uS (uS (uS s 417 ((w32 (135 + (w32 (3 * (s 417 165))))).toNat) x1) 417 ((w32 ((w32 (135 + (w32 (3 * (s 417 165))))) + 1)).toNat) x2) 417 ((w32 ((w32 (135 + (w32 (3 * (s 417 165))))) + 2)).toNat) x3) 417 165) + 1))) 417 165))) (uS (uS (uS (uS s 417 ((w32 (135 + (w32 (3 * (s 417 165))))).toNat) x1) 417 ((w32 ((w32 (135 + (w32 (3 * (s 417 165))))) + 1)).toNat) x2) 417 ((w32 ((w32 (135 + (w32 (3 * (s 417 165))))) + 2)).toNat) x3) 417 165 (w32 (((uS (uS (uS s 417 ((w32 (135 + (w32 (3 * (s 417 165))))).toNat) x1) 417 ((w32 ((w32 (135 + (w32 (3 * (s 417 165))))) + 1)).toNat) x2) 417 ((w32 ((w32 (135 + (w32 (3 * (s 417 165))))) + 2)).toNat) x3) 417 165) + 1)))) : Wp X d 293 75 [some (mR 407), some (mI x1), some (mI x2), some (mI x3), l4] [] s Q := Wp_step k293 f293_75 (Wp_step k293 f293_78 (Wp_step k293 f293_79 (Wp_step k293 f293_80 ⟨kf_407, 417, rf_407_20, Wp_step k293 f293_83 (Wp_step k293 f293_86 ⟨166, af_417, ⟨by decide, by decide⟩, Wp_step k293 f293_87 (Wp_step k293 f293_88 (Wp_step k293 f293_89 (Wp_step k293 f293_91 (Wp_step k293 f293_92 ⟨kf_407, 417, rf_407_20, Wp_step k293 f293_95 (Wp_step k293 f293_97 (Wp_step k293 f293_98 ⟨166, af_417, h_1, Wp_step k293 f293_99 (Wp_step k293 f293_100 ⟨kf_407, 417, rf_407_20, Wp_step k293 f293_103 (Wp_step k293 f293_105 (Wp_step k293 f293_106 (Wp_step k293 f293_107 (Wp_step k293 f293_108 ⟨166, af_417, h_2, Wp_step k293 f293_109 (Wp_step k293 f293_110 ⟨kf_407, 417, rf_407_20, Wp_step k293 f293_113 (Wp_step k293 f293_115 (Wp_step k293 f293_116 (Wp_step k293 f293_117 (Wp_step k293 f293_118 ⟨166, af_417, h_3, Wp_step k293 f293_119 (Wp_step k293 f293_120 ⟨kf_407, 417, rf_407_20, Wp_step k293 f293_123 (Wp_step k293 f293_126 (Wp_step k293 f293_127 ⟨166, af_417, ⟨by decide, by decide⟩, Wp_step k293 f293_128 (Wp_step k293 f293_129 (Wp_step k293 f293_130 ⟨166, af_417, ⟨by decide, by decide⟩, Wp_step k293 f293_131 (Wp_step k293 f293_132 ⟨kf_407, 417, rf_407_20, Wp_step k293 f293_135 (Wp_step k293 f293_138 ⟨166, af_417, ⟨by decide, by decide⟩, Wp_step k293 f293_139 ⟨⟨rfl, trivial⟩, h_4⟩⟩)⟩)⟩))⟩))⟩)⟩))))⟩)⟩))))⟩)⟩))⟩))))⟩)⟩)))
theorem e293 {X : (Nat → Int) × Nat} {d : Nat} {s : mSt} {Q : mQ} {x1 : Int} {x2 : Int} {x3 : Int} (h : Wp X d 293 0 [some (mR 407), some (mI x1), some (mI x2), some (mI x3), none] [] s Q) : Sp X d 293 [mR 407, mI x1, mI x2, mI x3] s Q := Sp_of (show mCe 293 = 0 by decide +kernel) (by rw [show mML 293 = 5 by decide +kernel]; rfl) (Nat.le_trans (Nat.le_of_ble_eq_true (show Nat.ble (mArgs _).length 5 = true from rfl)) (show 5 ≤ mML 293 by decide +kernel)) h
-- 294 ClashDayModel.areNotesSo(I)Z
theorem k294 : mRk 294 = 2 := by decide +kernel
theorem f294_0 : mFetch 294 0 = some (.iconst 0, 1, 0, 0, 0, 0) := by decide +kernel
theorem f294_1 : mFetch 294 1 = some (.istore_n 2, 1, 0, 0, 0, 0) := by decide +kernel
theorem f294_2 : mFetch 294 2 = some (.iload_n 2, 1, 0, 0, 0, 0) := by decide +kernel
theorem f294_3 : mFetch 294 3 = some (.iconst 3, 1, 0, 0, 0, 0) := by decide +kernel
theorem f294_4 : mFetch 294 4 = some (.aload_n 0, 1, 0, 0, 0, 0) := by decide +kernel
theorem f294_5 : mFetch 294 5 = some (.getfield 39, 3, 12, 20, 2, 1) := by decide +kernel
theorem f294_8 : mFetch 294 8 = some (.sipush 165, 3, 0, 0, 0, 0) := by decide +kernel
theorem f294_11 : mFetch 294 11 = some (.iaload, 1, 0, 0, 0, 0) := by decide +kernel
theorem f294_12 : mFetch 294 12 = some (.imul, 1, 0, 0, 0, 0) := by decide +kernel
theorem f294_13 : mFetch 294 13 = some (.if_icmp .ge 56, 3, 69, 0, 0, 0) := by decide +kernel
theorem f294_16 : mFetch 294 16 = some (.aload_n 0, 1, 0, 0, 0, 0) := by decide +kernel
theorem f294_17 : mFetch 294 17 = some (.getfield 39, 3, 12, 20, 2, 1) := by decide +kernel
theorem f294_20 : mFetch 294 20 = some (.sipush 135, 3, 0, 0, 0, 0) := by decide +kernel
theorem f294_23 : mFetch 294 23 = some (.iload_n 2, 1, 0, 0, 0, 0) := by decide +kernel
theorem f294_24 : mFetch 294 24 = some (.iadd, 1, 0, 0, 0, 0) := by decide +kernel
theorem f294_25 : mFetch 294 25 = some (.iaload, 1, 0, 0, 0, 0) := by decide +kernel
theorem f294_26 : mFetch 294 26 = some (.iload_n 1, 1, 0, 0, 0, 0) := by decide +kernel
theorem f294_27 : mFetch 294 27 = some (.if_icmp .ne 36, 3, 63, 0, 0, 0) := by decide +kernel
theorem f294_30 : mFetch 294 30 = some (.aload_n 0, 1, 0, 0, 0, 0) := by decide +kernel
theorem f294_31 : mFetch 294 31 = some (.aload_n 0, 1, 0, 0, 0, 0) := by decide +kernel
theorem f294_32 : mFetch 294 32 = some (.getfield 39, 3, 12, 20, 2, 1) := by decide +kernel
theorem f294_35 : mFetch 294 35 = some (.sipush 135, 3, 0, 0, 0, 0) := by decide +kernel
theorem f294_38 : mFetch 294 38 = some (.iload_n 2, 1, 0, 0, 0, 0) := by decide +kernel
theorem f294_39 : mFetch 294 39 = some (.iadd, 1, 0, 0, 0, 0) := by decide +kernel
theorem f294_40 : mFetch 294 40 = some (.iconst 1, 1, 0, 0, 0, 0) := by decide +kernel
theorem f294_41 : mFetch 294 41 = some (.iadd, 1, 0, 0, 0, 0) := by decide +kernel
theorem f294_42 : mFetch 294 42 = some (.iaload, 1, 0, 0, 0, 0) := by decide +kernel
theorem f294_43 : mFetch 294 43 = some (.invokevirtual 359, 3, 223, 0, 2, 12) := by decide +kernel
theorem f294_46 : mFetch 294 46 = some (.aload_n 0, 1, 0, 0, 0, 0) := by decide +kernel
theorem f294_47 : mFetch 294 47 = some (.getfield 39, 3, 12, 20, 2, 1) := by decide +kernel
theorem f294_50 : mFetch 294 50 = some (.sipush 135, 3, 0, 0, 0, 0) := by decide +kernel
theorem f294_53 : mFetch 294 53 = some (.iload_n 2, 1, 0, 0, 0, 0) := by decide +kernel
theorem f294_54 : mFetch 294 54 = some (.iadd, 1, 0, 0, 0, 0) := by decide +kernel
theorem f294_55 : mFetch 294 55 = some (.iconst 2, 1, 0, 0, 0, 0) := by decide +kernel
theorem f294_56 : mFetch 294 56 = some (.iadd, 1, 0, 0, 0, 0) := by decide +kernel
theorem f294_57 : mFetch 294 57 = some (.iaload, 1, 0, 0, 0, 0) := by decide +kernel
theorem f294_58 : mFetch 294 58 = some (.if_icmp .eq 5, 3, 63, 0, 0, 0) := by decide +kernel
theorem f294_61 : mFetch 294 61 = some (.iconst 0, 1, 0, 0, 0, 0) := by decide +kernel
theorem f294_62 : mFetch 294 62 = some (.ireturn, 1, 0, 0, 0, 0) := by decide +kernel
theorem f294_63 : mFetch 294 63 = some (.iinc 2 3, 3, 0, 0, 0, 0) := by decide +kernel
theorem f294_66 : mFetch 294 66 = some (.goto (-64), 3, 2, 0, 0, 0) := by decide +kernel
theorem f294_69 : mFetch 294 69 = some (.iconst 1, 1, 0, 0, 0, 0) := by decide +kernel
theorem f294_70 : mFetch 294 70 = some (.ireturn, 1, 0, 0, 0, 0) := by decide +kernel
theorem b294_0 {X : (Nat → Int) × Nat} {d : Nat} {s : mSt} {Q : mQ} {x1 : Int} {l2 : Option mV} (h_1 : Wp X d 294 2 [some (mR 407), some (mI x1), some (mI 0)] [] s Q) : Wp X d 294 0 [some (mR 407), some (mI x1), l2] [] s Q := Wp_step k294 f294_0 (Wp_step k294 f294_1 (h_1))
theorem b294_2 {X : (Nat → Int) × Nat} {d : Nat} {s : mSt} {Q : mQ} {x1 : Int} {x2 : Int} (h_1 : (w32 (3 * (s 417 165))) ≤ x2 → Wp X d 294 69 [some (mR 407), some (mI x1), some (mI x2)] [] s Q) (h_2 : ¬ (w32 (3 * (s 417 165))) ≤ x2 → Wp X d 294 16 [some (mR 407), some (mI x1), some (mI x2)] [] s Q) : Wp X d 294 2 [some (mR 407), some (mI x1), some (mI x2)] [] s Q := Wp_step k294 f294_2 (Wp_step k294 f294_3 (Wp_step k294 f294_4 (Wp_step k294 f294_5 ⟨kf_407, 417, rf_407_20, Wp_step k294 f294_8 (Wp_step k294 f294_11 ⟨166, af_417, ⟨by decide, by decide⟩, Wp_step k294 f294_12 (Wp_step k294 f294_13 ⟨h_1, h_2⟩)⟩)⟩)))
theorem b294_16 {X : (Nat → Int) × Nat} {d : Nat} {s : mSt} {Q : mQ} {x1 : Int} {x2 : Int} (h_1 : 0 ≤ (w32 (135 + x2)) ∧ (w32 (135 + x2)) < 166) (h_2 : ¬ (s 417 (w32 (135 + x2)).toNat) = x1 → Wp X d 294 63 [some (mR 407), some (mI x1), some (mI x2)] [] s Q) (h_3 : (s 417 (w32 (135 + x2)).toNat) = x1 → Wp X d 294 30 [some (mR 407), some (mI x1), some (mI x2)] [] s Q) : Wp X d 294 16 [some (mR 407), some (mI x1), some (mI x2)] [] s Q := Wp_step k294 f294_16 (Wp_step k294 f294_17 ⟨kf_407, 417, rf_407_20, Wp_step k294 f294_20 (Wp_step k294 f294_23 (Wp_step k294 f294_24 (Wp_step k294 f294_25 ⟨166, af_417, h_1, Wp_step k294 f294_26 (Wp_step k294 f294_27 ⟨h_2, h_3⟩)⟩)))⟩)
theorem b294_30 {X : (Nat → Int) × Nat} {d : Nat} {s : mSt} {Q : mQ} {x1 : Int} {x2 : Int} (h_1 : 0 ≤ (w32 ((w32 (135 + x2)) + 1)) ∧ (w32 ((w32 (135 + x2)) + 1)) < 166) (h_2 : Sp X d 223 [mR 407, mI (s 417 (w32 ((w32 (135 + x2)) + 1)).toNat)] s (fun r s' => ∃ v : Int, r = some (mI v) ∧ Wp X (d + 1) 294 46 [some (mR 407), some (mI x1), some (mI x2)] [mI v] s' Q)) : Wp X (d + 1) 294 30 [some (mR 407), some (mI x1), some (mI x2)] [] s Q := Wp_step k294 f294_30 (Wp_step k294 f294_31 (Wp_step k294 f294_32 ⟨kf_407, 417, rf_407_20, Wp_step k294 f294_35 (Wp_step k294 f294_38 (Wp_step k294 f294_39 (Wp_step k294 f294_40 (Wp_step k294 f294_41 (Wp_step k294 f294_42 ⟨166, af_417, h_1, Wp_step k294 f294_43 ⟨⟨kf_407, Nat.le_of_ble_eq_true rfl⟩, Nat.le_refl _, _, rfl, Sp_E h_2⟩⟩)))))⟩))
theorem b294_46 {X : (Nat → Int) × Nat} {d : Nat} {s : mSt} {Q : mQ} {x1 : Int} {x2 : Int} {xt0 : Int} (h_1 : 0 ≤ (w32 ((w32 (135 + x2)) + 2)) ∧ (w32 ((w32 (135 + x2)) + 2)) < 166) (h_2 : xt0 = (s 417 (w32 ((w32 (135 + x2)) + 2)).toNat) → Wp X d 294 63 [some (mR 407), some (mI x1), some (mI x2)] [] s Q) (h_3 : ¬ xt0 = (s 417 (w32 ((w32 (135 + x2)) + 2)).toNat) → Wp X d 294 61 [some (mR 407), some (mI x1), some (mI x2)] [] s Q) : Wp X d 294 46 [some (mR 407), some (mI x1), some (mI x2)] [mI xt0] s Q := Wp_step k294 f294_46 (Wp_step k294 f294_47 ⟨kf_407, 417, rf_407_20, Wp_step k294 f294_50 (Wp_step k294 f294_53 (Wp_step k294 f294_54 (Wp_step k294 f294_55 (Wp_step k294 f294_56 (Wp_step k294 f294_57 ⟨166, af_417, h_1, Wp_step k294 f294_58 ⟨h_2, h_3⟩⟩)))))⟩)
theorem b294_61 {X : (Nat → Int) × Nat} {d : Nat} {s : mSt} {Q : mQ} {x1 : Int} {x2 : Int} (h_1 : Q (some (mI 0)) s) : Wp X d 294 61 [some (mR 407), some (mI x1), some (mI x2)] [] s Q := Wp_step k294 f294_61 (Wp_step k294 f294_62 ⟨⟨rfl, (Or.inl rfl)⟩, h_1⟩)
theorem b294_63 {X : (Nat → Int) × Nat} {d : Nat} {s : mSt} {Q : mQ} {x1 : Int} {x2 : Int} (h_1 : Wp X d 294 2 [some (mR 407), some (mI x1), some (mI (w32 (x2 + 3)))] [] s Q) : Wp X d 294 63 [some (mR 407), some (mI x1), some (mI x2)] [] s Q := Wp_step k294 f294_63 (Wp_step k294 f294_66 (h_1))
theorem b294_69 {X : (Nat → Int) × Nat} {d : Nat} {s : mSt} {Q : mQ} {x1 : Int} {x2 : Int} (h_1 : Q (some (mI 1)) s) : Wp X d 294 69 [some (mR 407), some (mI x1), some (mI x2)] [] s Q := Wp_step k294 f294_69 (Wp_step k294 f294_70 ⟨⟨rfl, (Or.inr rfl)⟩, h_1⟩)
theorem e294 {X : (Nat → Int) × Nat} {d : Nat} {s : mSt} {Q : mQ} {x1 : Int} (h : Wp X d 294 0 [some (mR 407), some (mI x1), none] [] s Q) : Sp X d 294 [mR 407, mI x1] s Q := Sp_of (show mCe 294 = 0 by decide +kernel) (by rw [show mML 294 = 3 by decide +kernel]; rfl) (Nat.le_trans (Nat.le_of_ble_eq_true (show Nat.ble (mArgs _).length 3 = true from rfl)) (show 3 ≤ mML 294 by decide +kernel)) h
-- 295 ClashDayModel.areAllSo(II)Z
theorem k295 : mRk 295 = 2 := by decide +kernel
theorem f295_0 : mFetch 295 0 = some (.iconst 1, 1, 0, 0, 0, 0) := by decide +kernel
theorem f295_1 : mFetch 295 1 = some (.istore_n 3, 1, 0, 0, 0, 0) := by decide +kernel
theorem f295_2 : mFetch 295 2 = some (.aload_n 0, 1, 0, 0, 0, 0) := by decide +kernel
theorem f295_3 : mFetch 295 3 = some (.invokevirtual 294, 3, 227, 0, 1, 12) := by decide +kernel
theorem f295_6 : mFetch 295 6 = some (.iconst 0, 1, 0, 0, 0, 0) := by decide +kernel
theorem f295_7 : mFetch 295 7 = some (.istore 4, 2, 0, 0, 0, 0) := by decide +kernel
theorem f295_9 : mFetch 295 9 = some (.iload 4, 2, 0, 0, 0, 0) := by decide +kernel
theorem f295_11 : mFetch 295 11 = some (.bipush 9, 2, 0, 0, 0, 0) := by decide +kernel
theorem f295_13 : mFetch 295 13 = some (.if_icmp .gt 73, 3, 86, 0, 0, 0) := by decide +kernel
theorem f295_16 : mFetch 295 16 = some (.aload_n 0, 1, 0, 0, 0, 0) := by decide +kernel
theorem f295_17 : mFetch 295 17 = some (.invokevirtual 452, 3, 251, 0, 1, 12) := by decide +kernel
theorem f295_20 : mFetch 295 20 = some (.pop, 1, 0, 0, 0, 0) := by decide +kernel
theorem f295_21 : mFetch 295 21 = some (.iload_n 3, 1, 0, 0, 0, 0) := by decide +kernel
theorem f295_22 : mFetch 295 22 = some (.ifCond .eq 16, 3, 38, 0, 0, 0) := by decide +kernel
theorem f295_25 : mFetch 295 25 = some (.aload_n 0, 1, 0, 0, 0, 0) := by decide +kernel
theorem f295_26 : mFetch 295 26 = some (.iload 4, 2, 0, 0, 0, 0) := by decide +kernel
theorem f295_28 : mFetch 295 28 = some (.invokevirtual 539, 3, 294, 0, 2, 12) := by decide +kernel
theorem f295_31 : mFetch 295 31 = some (.ifCond .eq 7, 3, 38, 0, 0, 0) := by decide +kernel
theorem f295_34 : mFetch 295 34 = some (.iconst 1, 1, 0, 0, 0, 0) := by decide +kernel
theorem f295_35 : mFetch 295 35 = some (.goto 4, 3, 39, 0, 0, 0) := by decide +kernel
theorem f295_38 : mFetch 295 38 = some (.iconst 0, 1, 0, 0, 0, 0) := by decide +kernel
theorem f295_39 : mFetch 295 39 = some (.istore_n 3, 1, 0, 0, 0, 0) := by decide +kernel
theorem f295_40 : mFetch 295 40 = some (.iconst 0, 1, 0, 0, 0, 0) := by decide +kernel
theorem f295_41 : mFetch 295 41 = some (.istore 5, 2, 0, 0, 0, 0) := by decide +kernel
theorem f295_43 : mFetch 295 43 = some (.iload 5, 2, 0, 0, 0, 0) := by decide +kernel
theorem f295_45 : mFetch 295 45 = some (.bipush 30, 2, 0, 0, 0, 0) := by decide +kernel
theorem f295_47 : mFetch 295 47 = some (.if_icmp .ge 33, 3, 80, 0, 0, 0) := by decide +kernel
theorem f295_50 : mFetch 295 50 = some (.iload 4, 2, 0, 0, 0, 0) := by decide +kernel
theorem f295_52 : mFetch 295 52 = some (.iload_n 2, 1, 0, 0, 0, 0) := by decide +kernel
theorem f295_53 : mFetch 295 53 = some (.if_icmp .ne 27, 3, 80, 0, 0, 0) := by decide +kernel
theorem f295_56 : mFetch 295 56 = some (.aload_n 0, 1, 0, 0, 0, 0) := by decide +kernel
theorem f295_57 : mFetch 295 57 = some (.getfield 98, 3, 12, 52, 2, 1) := by decide +kernel
theorem f295_60 : mFetch 295 60 = some (.bipush 30, 2, 0, 0, 0, 0) := by decide +kernel
theorem f295_62 : mFetch 295 62 = some (.iload_n 1, 1, 0, 0, 0, 0) := by decide +kernel
theorem f295_63 : mFetch 295 63 = some (.imul, 1, 0, 0, 0, 0) := by decide +kernel
theorem f295_64 : mFetch 295 64 = some (.iload 5, 2, 0, 0, 0, 0) := by decide +kernel
theorem f295_66 : mFetch 295 66 = some (.iadd, 1, 0, 0, 0, 0) := by decide +kernel
theorem f295_67 : mFetch 295 67 = some (.aload_n 0, 1, 0, 0, 0, 0) := by decide +kernel
theorem f295_68 : mFetch 295 68 = some (.iload 5, 2, 0, 0, 0, 0) := by decide +kernel
theorem f295_70 : mFetch 295 70 = some (.invokevirtual 359, 3, 223, 0, 2, 12) := by decide +kernel
theorem f295_73 : mFetch 295 73 = some (.iastore, 1, 0, 0, 0, 0) := by decide +kernel
theorem f295_74 : mFetch 295 74 = some (.iinc 5 1, 3, 0, 0, 0, 0) := by decide +kernel
theorem f295_77 : mFetch 295 77 = some (.goto (-34), 3, 43, 0, 0, 0) := by decide +kernel
theorem f295_80 : mFetch 295 80 = some (.iinc 4 1, 3, 0, 0, 0, 0) := by decide +kernel
theorem f295_83 : mFetch 295 83 = some (.goto (-74), 3, 9, 0, 0, 0) := by decide +kernel
theorem f295_86 : mFetch 295 86 = some (.iload_n 3, 1, 0, 0, 0, 0) := by decide +kernel
theorem f295_87 : mFetch 295 87 = some (.ireturn, 1, 0, 0, 0, 0) := by decide +kernel
theorem b295_0 {X : (Nat → Int) × Nat} {d : Nat} {s : mSt} {Q : mQ} {x1 : Int} {x2 : Int} {l3 : Option mV} {l4 : Option mV} {l5 : Option mV} (h_1 : Sp X d 227 [mR 407] s (fun r s' => r = none ∧ Wp X (d + 1) 295 6 [some (mR 407), some (mI x1), some (mI x2), some (mI 1), l4, l5] [] s' Q)) : Wp X (d + 1) 295 0 [some (mR 407), some (mI x1), some (mI x2), l3, l4, l5] [] s Q := Wp_step k295 f295_0 (Wp_step k295 f295_1 (Wp_step k295 f295_2 (Wp_step k295 f295_3 ⟨⟨kf_407, Nat.le_of_ble_eq_true rfl⟩, Nat.le_refl _, _, rfl, Sp_V h_1⟩)))
theorem b295_6 {X : (Nat → Int) × Nat} {d : Nat} {s : mSt} {Q : mQ} {x1 : Int} {x2 : Int} {x3 : Int} {l4 : Option mV} {l5 : Option mV} (h_1 : Wp X d 295 9 [some (mR 407), some (mI x1), some (mI x2), some (mI x3), some (mI 0), l5] [] s Q) : Wp X d 295 6 [some (mR 407), some (mI x1), some (mI x2), some (mI x3), l4, l5] [] s Q := Wp_step k295 f295_6 (Wp_step k295 f295_7 (h_1))
theorem b295_9 {X : (Nat → Int) × Nat} {d : Nat} {s : mSt} {Q : mQ} {x1 : Int} {x2 : Int} {x3 : Int} {x4 : Int} {l5 : Option mV} (h_1 : 9 < x4 → Wp X d 295 86 [some (mR 407), some (mI x1), some (mI x2), some (mI x3), some (mI x4), l5] [] s Q) (h_2 : ¬ 9 < x4 → Wp X d 295 16 [some (mR 407), some (mI x1), some (mI x2), some (mI x3), some (mI x4), l5] [] s Q) : Wp X d 295 9 [some (mR 407), some (mI x1), some (mI x2), some (mI x3), some (mI x4), l5] [] s Q := Wp_step k295 f295_9 (Wp_step k295 f295_11 (Wp_step k295 f295_13 ⟨h_1, h_2⟩))
theorem b295_16 {X : (Nat → Int) × Nat} {d : Nat} {s : mSt} {Q : mQ} {x1 : Int} {x2 : Int} {x3 : Int} {x4 : Int} {l5 : Option mV} (h_1 : Sp X d 251 [mR 407] s (fun r s' => ∃ v : Int, r = some (mI v) ∧ Wp X (d + 1) 295 20 [some (mR 407), some (mI x1), some (mI x2), some (mI x3), some (mI x4), l5] [mI v] s' Q)) : Wp X (d + 1) 295 16 [some (mR 407), some (mI x1), some (mI x2), some (mI x3), some (mI x4), l5] [] s Q := Wp_step k295 f295_16 (Wp_step k295 f295_17 ⟨⟨kf_407, Nat.le_of_ble_eq_true rfl⟩, Nat.le_refl _, _, rfl, Sp_E h_1⟩)
theorem b295_20 {X : (Nat → Int) × Nat} {d : Nat} {s : mSt} {Q : mQ} {x1 : Int} {x2 : Int} {x3 : Int} {x4 : Int} {l5 : Option mV} {xt0 : Int} (h_1 : x3 = 0 → Wp X d 295 38 [some (mR 407), some (mI x1), some (mI x2), some (mI x3), some (mI x4), l5] [] s Q) (h_2 : ¬ x3 = 0 → Wp X d 295 25 [some (mR 407), some (mI x1), some (mI x2), some (mI x3), some (mI x4), l5] [] s Q) : Wp X d 295 20 [some (mR 407), some (mI x1), some (mI x2), some (mI x3), some (mI x4), l5] [mI xt0] s Q := Wp_step k295 f295_20 (Wp_step k295 f295_21 (Wp_step k295 f295_22 ⟨h_1, h_2⟩))
theorem b295_25 {X : (Nat → Int) × Nat} {d : Nat} {s : mSt} {Q : mQ} {x1 : Int} {x2 : Int} {x3 : Int} {x4 : Int} {l5 : Option mV} (h_1 : Sp X d 294 [mR 407, mI x4] s (fun r s' => ∃ v : Int, r = some (mI v) ∧ Wp X (d + 1) 295 31 [some (mR 407), some (mI x1), some (mI x2), some (mI x3), some (mI x4), l5] [mI v] s' Q)) : Wp X (d + 1) 295 25 [some (mR 407), some (mI x1), some (mI x2), some (mI x3), some (mI x4), l5] [] s Q := Wp_step k295 f295_25 (Wp_step k295 f295_26 (Wp_step k295 f295_28 ⟨⟨kf_407, Nat.le_of_ble_eq_true rfl⟩, Nat.le_refl _, _, rfl, Sp_E h_1⟩))
theorem b295_31 {X : (Nat → Int) × Nat} {d : Nat} {s : mSt} {Q : mQ} {x1 : Int} {x2 : Int} {x3 : Int} {x4 : Int} {l5 : Option mV} {xt0 : Int} (h_1 : xt0 = 0 → Wp X d 295 38 [some (mR 407), some (mI x1), some (mI x2), some (mI x3), some (mI x4), l5] [] s Q) (h_2 : ¬ xt0 = 0 → Wp X d 295 34 [some (mR 407), some (mI x1), some (mI x2), some (mI x3), some (mI x4), l5] [] s Q) : Wp X d 295 31 [some (mR 407), some (mI x1), some (mI x2), some (mI x3), some (mI x4), l5] [mI xt0] s Q := Wp_step k295 f295_31 ⟨h_1, h_2⟩
theorem b295_34 {X : (Nat → Int) × Nat} {d : Nat} {s : mSt} {Q : mQ} {x1 : Int} {x2 : Int} {x3 : Int} {x4 : Int} {l5 : Option mV} (h_1 : Wp X d 295 39 [some (mR 407), some (mI x1), some (mI x2), some (mI x3), some (mI x4), l5] [mI 1] s Q) : Wp X d 295 34 [some (mR 407), some (mI x1), some (mI x2), some (mI x3), some (mI x4), l5] [] s Q := Wp_step k295 f295_34 (Wp_step k295 f295_35 (h_1))
theorem b295_38 {X : (Nat → Int) × Nat} {d : Nat} {s : mSt} {Q : mQ} {x1 : Int} {x2 : Int} {x3 : Int} {x4 : Int} {l5 : Option mV} (h_1 : Wp X d 295 39 [some (mR 407), some (mI x1), some (mI x2), some (mI x3), some (mI x4), l5] [mI 0] s Q) : Wp X d 295 38 [some (mR 407), some (mI x1), some (mI x2), some (mI x3), some (mI x4), l5] [] s Q := Wp_step k295 f295_38 (h_1)
theorem b295_39 {X : (Nat → Int) × Nat} {d : Nat} {s : mSt} {Q : mQ} {x1 : Int} {x2 : Int} {x3 : Int} {x4 : Int} {l5 : Option mV} {xt0 : Int} (h_1 : Wp X d 295 43 [some (mR 407), some (mI x1), some (mI x2), some (mI xt0), some (mI x4), some (mI 0)] [] s Q) : Wp X d 295 39 [some (mR 407), some (mI x1), some (mI x2), some (mI x3), some (mI x4), l5] [mI xt0] s Q := Wp_step k295 f295_39 (Wp_step k295 f295_40 (Wp_step k295 f295_41 (h_1)))
theorem b295_43 {X : (Nat → Int) × Nat} {d : Nat} {s : mSt} {Q : mQ} {x1 : Int} {x2 : Int} {x3 : Int} {x4 : Int} {x5 : Int} (h_1 : 30 ≤ x5 → Wp X d 295 80 [some (mR 407), some (mI x1), some (mI x2), some (mI x3), some (mI x4), some (mI x5)] [] s Q) (h_2 : ¬ 30 ≤ x5 → Wp X d 295 50 [some (mR 407), some (mI x1), some (mI x2), some (mI x3), some (mI x4), some (mI x5)] [] s Q) : Wp X d 295 43 [some (mR 407), some (mI x1), some (mI x2), some (mI x3), some (mI x4), some (mI x5)] [] s Q := Wp_step k295 f295_43 (Wp_step k295 f295_45 (Wp_step k295 f295_47 ⟨h_1, h_2⟩))
theorem b295_50 {X : (Nat → Int) × Nat} {d : Nat} {s : mSt} {Q : mQ} {x1 : Int} {x2 : Int} {x3 : Int} {x4 : Int} {x5 : Int} (h_1 : ¬ x4 = x2 → Wp X d 295 80 [some (mR 407), some (mI x1), some (mI x2), some (mI x3), some (mI x4), some (mI x5)] [] s Q) (h_2 : x4 = x2 → Wp X d 295 56 [some (mR 407), some (mI x1), some (mI x2), some (mI x3), some (mI x4), some (mI x5)] [] s Q) : Wp X d 295 50 [some (mR 407), some (mI x1), some (mI x2), some (mI x3), some (mI x4), some (mI x5)] [] s Q := Wp_step k295 f295_50 (Wp_step k295 f295_52 (Wp_step k295 f295_53 ⟨h_1, h_2⟩))
theorem b295_56 {X : (Nat → Int) × Nat} {d : Nat} {s : mSt} {Q : mQ} {x1 : Int} {x2 : Int} {x3 : Int} {x4 : Int} {x5 : Int} (h_1 : Sp X d 223 [mR 407, mI x5] s (fun r s' => ∃ v : Int, r = some (mI v) ∧ Wp X (d + 1) 295 73 [some (mR 407), some (mI x1), some (mI x2), some (mI x3), some (mI x4), some (mI x5)] [mI v, mI (w32 ((w32 (30 * x1)) + x5)), mR 435] s' Q)) : Wp X (d + 1) 295 56 [some (mR 407), some (mI x1), some (mI x2), some (mI x3), some (mI x4), some (mI x5)] [] s Q := Wp_step k295 f295_56 (Wp_step k295 f295_57 ⟨kf_407, 435, rf_407_52, Wp_step k295 f295_60 (Wp_step k295 f295_62 (Wp_step k295 f295_63 (Wp_step k295 f295_64 (Wp_step k295 f295_66 (Wp_step k295 f295_67 (Wp_step k295 f295_68 (Wp_step k295 f295_70 ⟨⟨kf_407, Nat.le_of_ble_eq_true rfl⟩, Nat.le_refl _, _, rfl, Sp_E h_1⟩)))))))⟩)
theorem b295_73 {X : (Nat → Int) × Nat} {d : Nat} {s : mSt} {Q : mQ} {x1 : Int} {x2 : Int} {x3 : Int} {x4 : Int} {x5 : Int} {xt1 : Int} {xt2 : Int} (h_1 : 0 ≤ xt1 ∧ xt1 < 210) (h_2 : Wp X d 295 43 [some (mR 407), some (mI x1), some (mI x2), some (mI x3), some (mI x4), some (mI (w32 (x5 + 1)))] [] (uS s 435 xt1.toNat xt2) Q) : Wp X d 295 73 [some (mR 407), some (mI x1), some (mI x2), some (mI x3), some (mI x4), some (mI x5)] [mI xt2, mI xt1, mR 435] s Q := Wp_step k295 f295_73 ⟨210, af_435, h_1, Wp_step k295 f295_74 (Wp_step k295 f295_77 (h_2))⟩
theorem b295_80 {X : (Nat → Int) × Nat} {d : Nat} {s : mSt} {Q : mQ} {x1 : Int} {x2 : Int} {x3 : Int} {x4 : Int} {x5 : Int} (h_1 : Wp X d 295 9 [some (mR 407), some (mI x1), some (mI x2), some (mI x3), some (mI (w32 (x4 + 1))), some (mI x5)] [] s Q) : Wp X d 295 80 [some (mR 407), some (mI x1), some (mI x2), some (mI x3), some (mI x4), some (mI x5)] [] s Q := Wp_step k295 f295_80 (Wp_step k295 f295_83 (h_1))
theorem b295_86 {X : (Nat → Int) × Nat} {d : Nat} {s : mSt} {Q : mQ} {x1 : Int} {x2 : Int} {x3 : Int} {x4 : Int} {l5 : Option mV} (h_1 : Q (some (mI x3)) s) (h_2 : x3 = 0 ∨ x3 = 1) : Wp X d 295 86 [some (mR 407), some (mI x1), some (mI x2), some (mI x3), some (mI x4), l5] [] s Q := Wp_step k295 f295_86 (Wp_step k295 f295_87 ⟨⟨rfl, h_2⟩, h_1⟩)
theorem e295 {X : (Nat → Int) × Nat} {d : Nat} {s : mSt} {Q : mQ} {x1 : Int} {x2 : Int} (h : Wp X d 295 0 [some (mR 407), some (mI x1), some (mI x2), none, none, none] [] s Q) : Sp X d 295 [mR 407, mI x1, mI x2] s Q := Sp_of (show mCe 295 = 0 by decide +kernel) (by rw [show mML 295 = 6 by decide +kernel]; rfl) (Nat.le_trans (Nat.le_of_ble_eq_true (show Nat.ble (mArgs _).length 6 = true from rfl)) (show 6 ≤ mML 295 by decide +kernel)) h
-- 296 ClashDayModel.fillsFits(I)V
theorem k296 : mRk 296 = 0 := by decide +kernel
theorem f296_0 : mFetch 296 0 = some (.aload_n 0, 1, 0, 0, 0, 0) := by decide +kernel
theorem f296_1 : mFetch 296 1 = some (.getfield 42, 3, 12, 21, 0, 1) := by decide +kernel
theorem f296_4 : mFetch 296 4 = some (.istore_n 2, 1, 0, 0, 0, 0) := by decide +kernel
theorem f296_5 : mFetch 296 5 = some (.aload_n 0, 1, 0, 0, 0, 0) := by decide +kernel
theorem f296_6 : mFetch 296 6 = some (.invokevirtual 502, 3, 277, 0, 1, 12) := by decide +kernel
theorem f296_9 : mFetch 296 9 = some (.iconst 0, 1, 0, 0, 0, 0) := by decide +kernel
theorem f296_10 : mFetch 296 10 = some (.istore_n 3, 1, 0, 0, 0, 0) := by decide +kernel
theorem f296_11 : mFetch 296 11 = some (.iload_n 3, 1, 0, 0, 0, 0) := by decide +kernel
theorem f296_12 : mFetch 296 12 = some (.aload_n 0, 1, 0, 0, 0, 0) := by decide +kernel
theorem f296_13 : mFetch 296 13 = some (.getfield 288, 3, 12, 2, 0, 1) := by decide +kernel
theorem f296_16 : mFetch 296 16 = some (.if_icmp .gt 28, 3, 44, 0, 0, 0) := by decide +kernel
theorem f296_19 : mFetch 296 19 = some (.aload_n 0, 1, 0, 0, 0, 0) := by decide +kernel
theorem f296_20 : mFetch 296 20 = some (.iload_n 3, 1, 0, 0, 0, 0) := by decide +kernel
theorem f296_21 : mFetch 296 21 = some (.iconst 1, 1, 0, 0, 0, 0) := by decide +kernel
theorem f296_22 : mFetch 296 22 = some (.isub, 1, 0, 0, 0, 0) := by decide +kernel
theorem f296_23 : mFetch 296 23 = some (.putfield 42, 3, 12, 21, 0, 1) := by decide +kernel
theorem f296_26 : mFetch 296 26 = some (.aload_n 0, 1, 0, 0, 0, 0) := by decide +kernel
theorem f296_27 : mFetch 296 27 = some (.getfield 94, 3, 12, 51, 2, 1) := by decide +kernel
theorem f296_30 : mFetch 296 30 = some (.iload_n 3, 1, 0, 0, 0, 0) := by decide +kernel
theorem f296_31 : mFetch 296 31 = some (.aload_n 0, 1, 0, 0, 0, 0) := by decide +kernel
theorem f296_32 : mFetch 296 32 = some (.iload_n 3, 1, 0, 0, 0, 0) := by decide +kernel
theorem f296_33 : mFetch 296 33 = some (.iload_n 1, 1, 0, 0, 0, 0) := by decide +kernel
theorem f296_34 : mFetch 296 34 = some (.invokevirtual 542, 3, 295, 0, 3, 12) := by decide +kernel
theorem f296_37 : mFetch 296 37 = some (.bastore, 1, 0, 0, 0, 0) := by decide +kernel
theorem f296_38 : mFetch 296 38 = some (.iinc 3 1, 3, 0, 0, 0, 0) := by decide +kernel
theorem f296_41 : mFetch 296 41 = some (.goto (-30), 3, 11, 0, 0, 0) := by decide +kernel
theorem f296_44 : mFetch 296 44 = some (.aload_n 0, 1, 0, 0, 0, 0) := by decide +kernel
theorem f296_45 : mFetch 296 45 = some (.iload_n 2, 1, 0, 0, 0, 0) := by decide +kernel
theorem f296_46 : mFetch 296 46 = some (.putfield 42, 3, 12, 21, 0, 1) := by decide +kernel
theorem f296_49 : mFetch 296 49 = some (.aload_n 0, 1, 0, 0, 0, 0) := by decide +kernel
theorem f296_50 : mFetch 296 50 = some (.invokevirtual 491, 3, 278, 0, 1, 12) := by decide +kernel
theorem f296_53 : mFetch 296 53 = some (.return_, 1, 0, 0, 0, 0) := by decide +kernel
theorem b296_0 {X : (Nat → Int) × Nat} {d : Nat} {s : mSt} {Q : mQ} {x1 : Int} {l2 : Option mV} {l3 : Option mV} (h_1 : Sp X d 277 [mR 407] s (fun r s' => r = none ∧ Wp X (d + 1) 296 9 [some (mR 407), some (mI x1), some (mI (s 407 21)), l3] [] s' Q)) : Wp X (d + 1) 296 0 [some (mR 407), some (mI x1), l2, l3] [] s Q := Wp_step k296 f296_0 (Wp_step k296 f296_1 ⟨kf_407, Wp_step k296 f296_4 (Wp_step k296 f296_5 (Wp_step k296 f296_6 ⟨⟨kf_407, Nat.le_of_ble_eq_true rfl⟩, Nat.le_refl _, _, rfl, Sp_V h_1⟩))⟩)
theorem b296_9 {X : (Nat → Int) × Nat} {d : Nat} {s : mSt} {Q : mQ} {x1 : Int} {x2 : Int} {l3 : Option mV} (h_1 : Wp X d 296 11 [some (mR 407), some (mI x1), some (mI x2), some (mI 0)] [] s Q) : Wp X d 296 9 [some (mR 407), some (mI x1), some (mI x2), l3] [] s Q := Wp_step k296 f296_9 (Wp_step k296 f296_10 (h_1))
theorem b296_11 {X : (Nat → Int) × Nat} {d : Nat} {s : mSt} {Q : mQ} {x1 : Int} {x2 : Int} {x3 : Int} (h_1 : (s 407 2) < x3 → Wp X d 296 44 [some (mR 407), some (mI x1), some (mI x2), some (mI x3)] [] s Q) (h_2 : ¬ (s 407 2) < x3 → Wp X d 296 19 [some (mR 407), some (mI x1), some (mI x2), some (mI x3)] [] s Q) : Wp X d 296 11 [some (mR 407), some (mI x1), some (mI x2), some (mI x3)] [] s Q := Wp_step k296 f296_11 (Wp_step k296 f296_12 (Wp_step k296 f296_13 ⟨kf_407, Wp_step k296 f296_16 ⟨h_1, h_2⟩⟩))
theorem b296_19 {X : (Nat → Int) × Nat} {d : Nat} {s : mSt} {Q : mQ} {x1 : Int} {x2 : Int} {x3 : Int} (h_1 : Sp X d 295 [mR 407, mI x3, mI x1] (uS s 407 21 (w32 (x3 - 1))) (fun r s' => ∃ v : Int, r = some (mI v) ∧ Wp X (d + 1) 296 37 [some (mR 407), some (mI x1), some (mI x2), some (mI x3)] [mI v, mI x3, mR 434] s' Q)) : Wp X (d + 1) 296 19 [some (mR 407), some (mI x1), some (mI x2), some (mI x3)] [] s Q := Wp_step k296 f296_19 (Wp_step k296 f296_20 (Wp_step k296 f296_21 (Wp_step k296 f296_22 (Wp_step k296 f296_23 ⟨kf_407, Wp_step k296 f296_26 (Wp_step k296 f296_27 ⟨kf_407, 434, rf_407_51, Wp_step k296 f296_30 (Wp_step k296 f296_31 (Wp_step k296 f296_32 (Wp_step k296 f296_33 (Wp_step k296 f296_34 ⟨⟨kf_407, Nat.le_of_ble_eq_true rfl⟩, Nat.le_refl _, _, rfl, Sp_E h_1⟩))))⟩)⟩))))
theorem b296_37 {X : (Nat → Int) × Nat} {d : Nat} {s : mSt} {Q : mQ} {x1 : Int} {x2 : Int} {x3 : Int} {xt1 : Int} {xt2 : Int} (h_1 : 0 ≤ xt1 ∧ xt1 < 7) (h_2 : xt2 = 0 ∨ xt2 = 1) (h_3 : Wp X d 296 11 [some (mR 407), some (mI x1), some (mI x2), some (mI (w32 (x3 + 1)))] [] (uS s 434 xt1.toNat xt2) Q) : Wp X d 296 37 [some (mR 407), some (mI x1), some (mI x2), some (mI x3)] [mI xt2, mI xt1, mR 434] s Q := Wp_step k296 f296_37 ⟨24, 7, af_434, Or.inr ⟨rfl, h_2⟩, h_1, Wp_step k296 f296_38 (Wp_step k296 f296_41 (h_3))⟩
theorem b296_44 {X : (Nat → Int) × Nat} {d : Nat} {s : mSt} {Q : mQ} {x1 : Int} {x2 : Int} {x3 : Int} (h_1 : Sp X d 278 [mR 407] (uS s 407 21 x2) (fun r s' => r = none ∧ Wp X (d + 1) 296 53 [some (mR 407), some (mI x1), some (mI x2), some (mI x3)] [] s' Q)) : Wp X (d + 1) 296 44 [some (mR 407), some (mI x1), some (mI x2), some (mI x3)] [] s Q := Wp_step k296 f296_44 (Wp_step k296 f296_45 (Wp_step k296 f296_46 ⟨kf_407, Wp_step k296 f296_49 (Wp_step k296 f296_50 ⟨⟨kf_407, Nat.le_of_ble_eq_true rfl⟩, Nat.le_refl _, _, rfl, Sp_V h_1⟩)⟩))
theorem b296_53 {X : (Nat → Int) × Nat} {d : Nat} {s : mSt} {Q : mQ} {x1 : Int} {x2 : Int} {x3 : Int} (h_1 : Q none s) : Wp X d 296 53 [some (mR 407), some (mI x1), some (mI x2), some (mI x3)] [] s Q := Wp_step k296 f296_53 ⟨⟨rfl, Or.inl rfl⟩, h_1⟩
theorem e296 {X : (Nat → Int) × Nat} {d : Nat} {s : mSt} {Q : mQ} {x1 : Int} (h : Wp X d 296 0 [some (mR 407), some (mI x1), none, none] [] s Q) : Sp X d 296 [mR 407, mI x1] s Q := Sp_of (show mCe 296 = 0 by decide +kernel) (by rw [show mML 296 = 4 by decide +kernel]; rfl) (Nat.le_trans (Nat.le_of_ble_eq_true (show Nat.ble (mArgs _).length 4 = true from rfl)) (show 4 ≤ mML 296 by decide +kernel)) h
-- 297 ClashDayModel.ruled(I)I
theorem k297 : mRk 297 = 1 := by decide +kernel
theorem f297_0 : mFetch 297 0 = some (.aload_n 0, 1, 0, 0, 0, 0) := by decide +kernel
theorem f297_1 : mFetch 297 1 = some (.invokevirtual 354, 3, 212, 0, 1, 12) := by decide +kernel
theorem f297_4 : mFetch 297 4 = some (.ifCond .eq 13, 3, 17, 0, 0, 0) := by decide +kernel
theorem f297_7 : mFetch 297 7 = some (.iload_n 1, 1, 0, 0, 0, 0) := by decide +kernel
theorem f297_8 : mFetch 297 8 = some (.i2l, 1, 0, 0, 0, 0) := by decide +kernel
theorem f297_9 : mFetch 297 9 = some (.lconst 0, 1, 0, 0, 0, 0) := by decide +kernel
theorem f297_10 : mFetch 297 10 = some (.lconst 1, 1, 0, 0, 0, 0) := by decide +kernel
theorem f297_11 : mFetch 297 11 = some (.invokestatic 151, 3, 167, 0, 3, 99) := by decide +kernel
theorem f297_14 : mFetch 297 14 = some (.ifCond .ne 6, 3, 20, 0, 0, 0) := by decide +kernel
theorem f297_17 : mFetch 297 17 = some (.bipush (-3), 2, 0, 0, 0, 0) := by decide +kernel
theorem f297_19 : mFetch 297 19 = some (.ireturn, 1, 0, 0, 0, 0) := by decide +kernel
theorem f297_20 : mFetch 297 20 = some (.aload_n 0, 1, 0, 0, 0, 0) := by decide +kernel
theorem f297_21 : mFetch 297 21 = some (.iconst 0, 1, 0, 0, 0, 0) := by decide +kernel
theorem f297_22 : mFetch 297 22 = some (.invokevirtual 545, 3, 296, 0, 2, 12) := by decide +kernel
theorem f297_25 : mFetch 297 25 = some (.iconst 0, 1, 0, 0, 0, 0) := by decide +kernel
theorem f297_26 : mFetch 297 26 = some (.istore_n 2, 1, 0, 0, 0, 0) := by decide +kernel
theorem f297_27 : mFetch 297 27 = some (.bipush (-2), 2, 0, 0, 0, 0) := by decide +kernel
theorem f297_29 : mFetch 297 29 = some (.istore_n 3, 1, 0, 0, 0, 0) := by decide +kernel
theorem f297_30 : mFetch 297 30 = some (.aload_n 0, 1, 0, 0, 0, 0) := by decide +kernel
theorem f297_31 : mFetch 297 31 = some (.getfield 288, 3, 12, 2, 0, 1) := by decide +kernel
theorem f297_34 : mFetch 297 34 = some (.istore 4, 2, 0, 0, 0, 0) := by decide +kernel
theorem f297_36 : mFetch 297 36 = some (.iload 4, 2, 0, 0, 0, 0) := by decide +kernel
theorem f297_38 : mFetch 297 38 = some (.ifCond .lt 30, 3, 68, 0, 0, 0) := by decide +kernel
theorem f297_41 : mFetch 297 41 = some (.aload_n 0, 1, 0, 0, 0, 0) := by decide +kernel
theorem f297_42 : mFetch 297 42 = some (.getfield 94, 3, 12, 51, 2, 1) := by decide +kernel
theorem f297_45 : mFetch 297 45 = some (.iload 4, 2, 0, 0, 0, 0) := by decide +kernel
theorem f297_47 : mFetch 297 47 = some (.baload, 1, 0, 0, 0, 0) := by decide +kernel
theorem f297_48 : mFetch 297 48 = some (.ifCond .ne 6, 3, 54, 0, 0, 0) := by decide +kernel
theorem f297_51 : mFetch 297 51 = some (.goto 11, 3, 62, 0, 0, 0) := by decide +kernel
theorem f297_54 : mFetch 297 54 = some (.iload 4, 2, 0, 0, 0, 0) := by decide +kernel
theorem f297_56 : mFetch 297 56 = some (.iconst 1, 1, 0, 0, 0, 0) := by decide +kernel
theorem f297_57 : mFetch 297 57 = some (.isub, 1, 0, 0, 0, 0) := by decide +kernel
theorem f297_58 : mFetch 297 58 = some (.istore_n 3, 1, 0, 0, 0, 0) := by decide +kernel
theorem f297_59 : mFetch 297 59 = some (.iinc 2 1, 3, 0, 0, 0, 0) := by decide +kernel
theorem f297_62 : mFetch 297 62 = some (.iinc 4 (-1), 3, 0, 0, 0, 0) := by decide +kernel
theorem f297_65 : mFetch 297 65 = some (.goto (-29), 3, 36, 0, 0, 0) := by decide +kernel
theorem f297_68 : mFetch 297 68 = some (.iload_n 1, 1, 0, 0, 0, 0) := by decide +kernel
theorem f297_69 : mFetch 297 69 = some (.ifCond .ne 7, 3, 76, 0, 0, 0) := by decide +kernel
theorem f297_72 : mFetch 297 72 = some (.iload_n 2, 1, 0, 0, 0, 0) := by decide +kernel
theorem f297_73 : mFetch 297 73 = some (.goto 4, 3, 77, 0, 0, 0) := by decide +kernel
theorem f297_76 : mFetch 297 76 = some (.iload_n 3, 1, 0, 0, 0, 0) := by decide +kernel
theorem f297_77 : mFetch 297 77 = some (.ireturn, 1, 0, 0, 0, 0) := by decide +kernel
theorem b297_0 {X : (Nat → Int) × Nat} {d : Nat} {s : mSt} {Q : mQ} {x1 : Int} {l2 : Option mV} {l3 : Option mV} {l4 : Option mV} (h_1 : Sp X d 212 [mR 407] s (fun r s' => ∃ v : Int, r = some (mI v) ∧ Wp X (d + 1) 297 4 [some (mR 407), some (mI x1), l2, l3, l4] [mI v] s' Q)) : Wp X (d + 1) 297 0 [some (mR 407), some (mI x1), l2, l3, l4] [] s Q := Wp_step k297 f297_0 (Wp_step k297 f297_1 ⟨⟨kf_407, Nat.le_of_ble_eq_true rfl⟩, Nat.le_refl _, _, rfl, Sp_E h_1⟩)
theorem b297_4 {X : (Nat → Int) × Nat} {d : Nat} {s : mSt} {Q : mQ} {x1 : Int} {l2 : Option mV} {l3 : Option mV} {l4 : Option mV} {xt0 : Int} (h_1 : xt0 = 0 → Wp X d 297 17 [some (mR 407), some (mI x1), l2, l3, l4] [] s Q) (h_2 : ¬ xt0 = 0 → Wp X d 297 7 [some (mR 407), some (mI x1), l2, l3, l4] [] s Q) : Wp X d 297 4 [some (mR 407), some (mI x1), l2, l3, l4] [mI xt0] s Q := Wp_step k297 f297_4 ⟨h_1, h_2⟩
theorem b297_7 {X : (Nat → Int) × Nat} {d : Nat} {s : mSt} {Q : mQ} {x1 : Int} {l2 : Option mV} {l3 : Option mV} {l4 : Option mV} (h_1 : Sp X d 167 [mJ x1, mJ 0, mJ 1] s (fun r s' => ∃ v : Int, r = some (mI v) ∧ Wp X (d + 1) 297 14 [some (mR 407), some (mI x1), l2, l3, l4] [mI v] s' Q)) : Wp X (d + 1) 297 7 [some (mR 407), some (mI x1), l2, l3, l4] [] s Q := Wp_step k297 f297_7 (Wp_step k297 f297_8 (Wp_step k297 f297_9 (Wp_step k297 f297_10 (Wp_step k297 f297_11 ⟨⟨Nat.le_of_ble_eq_true rfl, Nat.le_refl _⟩, _, rfl, Sp_E h_1⟩))))
theorem b297_14 {X : (Nat → Int) × Nat} {d : Nat} {s : mSt} {Q : mQ} {x1 : Int} {l2 : Option mV} {l3 : Option mV} {l4 : Option mV} {xt0 : Int} (h_1 : ¬ xt0 = 0 → Wp X d 297 20 [some (mR 407), some (mI x1), l2, l3, l4] [] s Q) (h_2 : xt0 = 0 → Wp X d 297 17 [some (mR 407), some (mI x1), l2, l3, l4] [] s Q) : Wp X d 297 14 [some (mR 407), some (mI x1), l2, l3, l4] [mI xt0] s Q := Wp_step k297 f297_14 ⟨h_1, h_2⟩
theorem b297_17 {X : (Nat → Int) × Nat} {d : Nat} {s : mSt} {Q : mQ} {x1 : Int} {l2 : Option mV} {l3 : Option mV} {l4 : Option mV} (h_1 : Q (some (mI (-3))) s) : Wp X d 297 17 [some (mR 407), some (mI x1), l2, l3, l4] [] s Q := Wp_step k297 f297_17 (Wp_step k297 f297_19 ⟨⟨rfl, trivial⟩, h_1⟩)
theorem b297_20 {X : (Nat → Int) × Nat} {d : Nat} {s : mSt} {Q : mQ} {x1 : Int} {l2 : Option mV} {l3 : Option mV} {l4 : Option mV} (h_1 : Sp X d 296 [mR 407, mI 0] s (fun r s' => r = none ∧ Wp X (d + 1) 297 25 [some (mR 407), some (mI x1), l2, l3, l4] [] s' Q)) : Wp X (d + 1) 297 20 [some (mR 407), some (mI x1), l2, l3, l4] [] s Q := Wp_step k297 f297_20 (Wp_step k297 f297_21 (Wp_step k297 f297_22 ⟨⟨kf_407, Nat.le_of_ble_eq_true rfl⟩, Nat.le_refl _, _, rfl, Sp_V h_1⟩))
theorem b297_25 {X : (Nat → Int) × Nat} {d : Nat} {s : mSt} {Q : mQ} {x1 : Int} {l2 : Option mV} {l3 : Option mV} {l4 : Option mV} (h_1 : Wp X d 297 36 [some (mR 407), some (mI x1), some (mI 0), some (mI (-2)), some (mI (s 407 2))] [] s Q) : Wp X d 297 25 [some (mR 407), some (mI x1), l2, l3, l4] [] s Q := Wp_step k297 f297_25 (Wp_step k297 f297_26 (Wp_step k297 f297_27 (Wp_step k297 f297_29 (Wp_step k297 f297_30 (Wp_step k297 f297_31 ⟨kf_407, Wp_step k297 f297_34 (h_1)⟩)))))
theorem b297_36 {X : (Nat → Int) × Nat} {d : Nat} {s : mSt} {Q : mQ} {x1 : Int} {x2 : Int} {x3 : Int} {x4 : Int} (h_1 : x4 < 0 → Wp X d 297 68 [some (mR 407), some (mI x1), some (mI x2), some (mI x3), some (mI x4)] [] s Q) (h_2 : ¬ x4 < 0 → Wp X d 297 41 [some (mR 407), some (mI x1), some (mI x2), some (mI x3), some (mI x4)] [] s Q) : Wp X d 297 36 [some (mR 407), some (mI x1), some (mI x2), some (mI x3), some (mI x4)] [] s Q := Wp_step k297 f297_36 (Wp_step k297 f297_38 ⟨h_1, h_2⟩)
theorem b297_41 {X : (Nat → Int) × Nat} {d : Nat} {s : mSt} {Q : mQ} {x1 : Int} {x2 : Int} {x3 : Int} {x4 : Int} (h_1 : 0 ≤ x4 ∧ x4 < 7) (h_2 : ¬ (s 434 x4.toNat) = 0 → Wp X d 297 54 [some (mR 407), some (mI x1), some (mI x2), some (mI x3), some (mI x4)] [] s Q) (h_3 : (s 434 x4.toNat) = 0 → Wp X d 297 51 [some (mR 407), some (mI x1), some (mI x2), some (mI x3), some (mI x4)] [] s Q) : Wp X d 297 41 [some (mR 407), some (mI x1), some (mI x2), some (mI x3), some (mI x4)] [] s Q := Wp_step k297 f297_41 (Wp_step k297 f297_42 ⟨kf_407, 434, rf_407_51, Wp_step k297 f297_45 (Wp_step k297 f297_47 ⟨24, 7, af_434, (Or.inr rfl), h_1, Wp_step k297 f297_48 ⟨h_2, h_3⟩⟩)⟩)
theorem b297_51 {X : (Nat → Int) × Nat} {d : Nat} {s : mSt} {Q : mQ} {x1 : Int} {x2 : Int} {x3 : Int} {x4 : Int} (h_1 : Wp X d 297 62 [some (mR 407), some (mI x1), some (mI x2), some (mI x3), some (mI x4)] [] s Q) : Wp X d 297 51 [some (mR 407), some (mI x1), some (mI x2), some (mI x3), some (mI x4)] [] s Q := Wp_step k297 f297_51 (h_1)
theorem b297_54 {X : (Nat → Int) × Nat} {d : Nat} {s : mSt} {Q : mQ} {x1 : Int} {x2 : Int} {x3 : Int} {x4 : Int} (h_1 : Wp X d 297 62 [some (mR 407), some (mI x1), some (mI (w32 (x2 + 1))), some (mI (w32 (x4 - 1))), some (mI x4)] [] s Q) : Wp X d 297 54 [some (mR 407), some (mI x1), some (mI x2), some (mI x3), some (mI x4)] [] s Q := Wp_step k297 f297_54 (Wp_step k297 f297_56 (Wp_step k297 f297_57 (Wp_step k297 f297_58 (Wp_step k297 f297_59 (h_1)))))
theorem b297_62 {X : (Nat → Int) × Nat} {d : Nat} {s : mSt} {Q : mQ} {x1 : Int} {x2 : Int} {x3 : Int} {x4 : Int} (h_1 : Wp X d 297 36 [some (mR 407), some (mI x1), some (mI x2), some (mI x3), some (mI (w32 (x4 + (-1))))] [] s Q) : Wp X d 297 62 [some (mR 407), some (mI x1), some (mI x2), some (mI x3), some (mI x4)] [] s Q := Wp_step k297 f297_62 (Wp_step k297 f297_65 (h_1))
theorem b297_68 {X : (Nat → Int) × Nat} {d : Nat} {s : mSt} {Q : mQ} {x1 : Int} {x2 : Int} {x3 : Int} {x4 : Int} (h_1 : ¬ x1 = 0 → Wp X d 297 76 [some (mR 407), some (mI x1), some (mI x2), some (mI x3), some (mI x4)] [] s Q) (h_2 : x1 = 0 → Wp X d 297 72 [some (mR 407), some (mI x1), some (mI x2), some (mI x3), some (mI x4)] [] s Q) : Wp X d 297 68 [some (mR 407), some (mI x1), some (mI x2), some (mI x3), some (mI x4)] [] s Q := Wp_step k297 f297_68 (Wp_step k297 f297_69 ⟨h_1, h_2⟩)
theorem b297_72 {X : (Nat → Int) × Nat} {d : Nat} {s : mSt} {Q : mQ} {x1 : Int} {x2 : Int} {x3 : Int} {x4 : Int} (h_1 : Wp X d 297 77 [some (mR 407), some (mI x1), some (mI x2), some (mI x3), some (mI x4)] [mI x2] s Q) : Wp X d 297 72 [some (mR 407), some (mI x1), some (mI x2), some (mI x3), some (mI x4)] [] s Q := Wp_step k297 f297_72 (Wp_step k297 f297_73 (h_1))
theorem b297_76 {X : (Nat → Int) × Nat} {d : Nat} {s : mSt} {Q : mQ} {x1 : Int} {x2 : Int} {x3 : Int} {x4 : Int} (h_1 : Wp X d 297 77 [some (mR 407), some (mI x1), some (mI x2), some (mI x3), some (mI x4)] [mI x3] s Q) : Wp X d 297 76 [some (mR 407), some (mI x1), some (mI x2), some (mI x3), some (mI x4)] [] s Q := Wp_step k297 f297_76 (h_1)
theorem b297_77 {X : (Nat → Int) × Nat} {d : Nat} {s : mSt} {Q : mQ} {x1 : Int} {x2 : Int} {x3 : Int} {x4 : Int} {xt0 : Int} (h_1 : Q (some (mI xt0)) s) : Wp X d 297 77 [some (mR 407), some (mI x1), some (mI x2), some (mI x3), some (mI x4)] [mI xt0] s Q := Wp_step k297 f297_77 ⟨⟨rfl, trivial⟩, h_1⟩
theorem e297 {X : (Nat → Int) × Nat} {d : Nat} {s : mSt} {Q : mQ} {x1 : Int} (h : Wp X d 297 0 [some (mR 407), some (mI x1), none, none, none] [] s Q) : Sp X d 297 [mR 407, mI x1] s Q := Sp_of (show mCe 297 = 0 by decide +kernel) (by rw [show mML 297 = 5 by decide +kernel]; rfl) (Nat.le_trans (Nat.le_of_ble_eq_true (show Nat.ble (mArgs _).length 5 = true from rfl)) (show 5 ≤ mML 297 by decide +kernel)) h
-- 298 ClashDayModel.alikeAt(I)I
theorem k298 : mRk 298 = 1 := by decide +kernel
theorem f298_0 : mFetch 298 0 = some (.iconst 0, 1, 0, 0, 0, 0) := by decide +kernel
theorem f298_1 : mFetch 298 1 = some (.istore_n 2, 1, 0, 0, 0, 0) := by decide +kernel
theorem f298_2 : mFetch 298 2 = some (.iconst 0, 1, 0, 0, 0, 0) := by decide +kernel
theorem f298_3 : mFetch 298 3 = some (.istore_n 3, 1, 0, 0, 0, 0) := by decide +kernel
theorem f298_4 : mFetch 298 4 = some (.iload_n 3, 1, 0, 0, 0, 0) := by decide +kernel
theorem f298_5 : mFetch 298 5 = some (.aload_n 0, 1, 0, 0, 0, 0) := by decide +kernel
theorem f298_6 : mFetch 298 6 = some (.getfield 288, 3, 12, 2, 0, 1) := by decide +kernel
theorem f298_9 : mFetch 298 9 = some (.if_icmp .gt 98, 3, 107, 0, 0, 0) := by decide +kernel
theorem f298_12 : mFetch 298 12 = some (.iconst 0, 1, 0, 0, 0, 0) := by decide +kernel
theorem f298_13 : mFetch 298 13 = some (.istore 4, 2, 0, 0, 0, 0) := by decide +kernel
theorem f298_15 : mFetch 298 15 = some (.iconst 0, 1, 0, 0, 0, 0) := by decide +kernel
theorem f298_16 : mFetch 298 16 = some (.istore 5, 2, 0, 0, 0, 0) := by decide +kernel
theorem f298_18 : mFetch 298 18 = some (.iload 5, 2, 0, 0, 0, 0) := by decide +kernel
theorem f298_20 : mFetch 298 20 = some (.aload_n 0, 1, 0, 0, 0, 0) := by decide +kernel
theorem f298_21 : mFetch 298 21 = some (.getfield 288, 3, 12, 2, 0, 1) := by decide +kernel
theorem f298_24 : mFetch 298 24 = some (.if_icmp .gt 64, 3, 88, 0, 0, 0) := by decide +kernel
theorem f298_27 : mFetch 298 27 = some (.aload_n 0, 1, 0, 0, 0, 0) := by decide +kernel
theorem f298_28 : mFetch 298 28 = some (.getfield 94, 3, 12, 51, 2, 1) := by decide +kernel
theorem f298_31 : mFetch 298 31 = some (.iload_n 3, 1, 0, 0, 0, 0) := by decide +kernel
theorem f298_32 : mFetch 298 32 = some (.baload, 1, 0, 0, 0, 0) := by decide +kernel
theorem f298_33 : mFetch 298 33 = some (.ifCond .eq 55, 3, 88, 0, 0, 0) := by decide +kernel
theorem f298_36 : mFetch 298 36 = some (.iload 4, 2, 0, 0, 0, 0) := by decide +kernel
theorem f298_38 : mFetch 298 38 = some (.aload_n 0, 1, 0, 0, 0, 0) := by decide +kernel
theorem f298_39 : mFetch 298 39 = some (.getfield 94, 3, 12, 51, 2, 1) := by decide +kernel
theorem f298_42 : mFetch 298 42 = some (.iload 5, 2, 0, 0, 0, 0) := by decide +kernel
theorem f298_44 : mFetch 298 44 = some (.baload, 1, 0, 0, 0, 0) := by decide +kernel
theorem f298_45 : mFetch 298 45 = some (.ifCond .eq 33, 3, 78, 0, 0, 0) := by decide +kernel
theorem f298_48 : mFetch 298 48 = some (.aload_n 0, 1, 0, 0, 0, 0) := by decide +kernel
theorem f298_49 : mFetch 298 49 = some (.getfield 98, 3, 12, 52, 2, 1) := by decide +kernel
theorem f298_52 : mFetch 298 52 = some (.bipush 30, 2, 0, 0, 0, 0) := by decide +kernel
theorem f298_54 : mFetch 298 54 = some (.iload_n 3, 1, 0, 0, 0, 0) := by decide +kernel
theorem f298_55 : mFetch 298 55 = some (.imul, 1, 0, 0, 0, 0) := by decide +kernel
theorem f298_56 : mFetch 298 56 = some (.iload_n 1, 1, 0, 0, 0, 0) := by decide +kernel
theorem f298_57 : mFetch 298 57 = some (.iadd, 1, 0, 0, 0, 0) := by decide +kernel
theorem f298_58 : mFetch 298 58 = some (.iaload, 1, 0, 0, 0, 0) := by decide +kernel
theorem f298_59 : mFetch 298 59 = some (.aload_n 0, 1, 0, 0, 0, 0) := by decide +kernel
theorem f298_60 : mFetch 298 60 = some (.getfield 98, 3, 12, 52, 2, 1) := by decide +kernel
theorem f298_63 : mFetch 298 63 = some (.bipush 30, 2, 0, 0, 0, 0) := by decide +kernel
theorem f298_65 : mFetch 298 65 = some (.iload 5, 2, 0, 0, 0, 0) := by decide +kernel
theorem f298_67 : mFetch 298 67 = some (.imul, 1, 0, 0, 0, 0) := by decide +kernel
theorem f298_68 : mFetch 298 68 = some (.iload_n 1, 1, 0, 0, 0, 0) := by decide +kernel
theorem f298_69 : mFetch 298 69 = some (.iadd, 1, 0, 0, 0, 0) := by decide +kernel
theorem f298_70 : mFetch 298 70 = some (.iaload, 1, 0, 0, 0, 0) := by decide +kernel
theorem f298_71 : mFetch 298 71 = some (.if_icmp .ne 7, 3, 78, 0, 0, 0) := by decide +kernel
theorem f298_74 : mFetch 298 74 = some (.iconst 1, 1, 0, 0, 0, 0) := by decide +kernel
theorem f298_75 : mFetch 298 75 = some (.goto 4, 3, 79, 0, 0, 0) := by decide +kernel
theorem f298_78 : mFetch 298 78 = some (.iconst 0, 1, 0, 0, 0, 0) := by decide +kernel
theorem f298_79 : mFetch 298 79 = some (.iadd, 1, 0, 0, 0, 0) := by decide +kernel
theorem f298_80 : mFetch 298 80 = some (.istore 4, 2, 0, 0, 0, 0) := by decide +kernel
theorem f298_82 : mFetch 298 82 = some (.iinc 5 1, 3, 0, 0, 0, 0) := by decide +kernel
theorem f298_85 : mFetch 298 85 = some (.goto (-67), 3, 18, 0, 0, 0) := by decide +kernel
theorem f298_88 : mFetch 298 88 = some (.iload 4, 2, 0, 0, 0, 0) := by decide +kernel
theorem f298_90 : mFetch 298 90 = some (.iload_n 2, 1, 0, 0, 0, 0) := by decide +kernel
theorem f298_91 : mFetch 298 91 = some (.if_icmp .le 8, 3, 99, 0, 0, 0) := by decide +kernel
theorem f298_94 : mFetch 298 94 = some (.iload 4, 2, 0, 0, 0, 0) := by decide +kernel
theorem f298_96 : mFetch 298 96 = some (.goto 4, 3, 100, 0, 0, 0) := by decide +kernel
theorem f298_99 : mFetch 298 99 = some (.iload_n 2, 1, 0, 0, 0, 0) := by decide +kernel
theorem f298_100 : mFetch 298 100 = some (.istore_n 2, 1, 0, 0, 0, 0) := by decide +kernel
theorem f298_101 : mFetch 298 101 = some (.iinc 3 1, 3, 0, 0, 0, 0) := by decide +kernel
theorem f298_104 : mFetch 298 104 = some (.goto (-100), 3, 4, 0, 0, 0) := by decide +kernel
theorem f298_107 : mFetch 298 107 = some (.iload_n 2, 1, 0, 0, 0, 0) := by decide +kernel
theorem f298_108 : mFetch 298 108 = some (.ireturn, 1, 0, 0, 0, 0) := by decide +kernel
theorem b298_0 {X : (Nat → Int) × Nat} {d : Nat} {s : mSt} {Q : mQ} {x1 : Int} {l2 : Option mV} {l3 : Option mV} {l4 : Option mV} {l5 : Option mV} (h_1 : Wp X d 298 4 [some (mR 407), some (mI x1), some (mI 0), some (mI 0), l4, l5] [] s Q) : Wp X d 298 0 [some (mR 407), some (mI x1), l2, l3, l4, l5] [] s Q := Wp_step k298 f298_0 (Wp_step k298 f298_1 (Wp_step k298 f298_2 (Wp_step k298 f298_3 (h_1))))
theorem b298_4 {X : (Nat → Int) × Nat} {d : Nat} {s : mSt} {Q : mQ} {x1 : Int} {x2 : Int} {x3 : Int} {l4 : Option mV} {l5 : Option mV} (h_1 : (s 407 2) < x3 → Wp X d 298 107 [some (mR 407), some (mI x1), some (mI x2), some (mI x3), l4, l5] [] s Q) (h_2 : ¬ (s 407 2) < x3 → Wp X d 298 12 [some (mR 407), some (mI x1), some (mI x2), some (mI x3), l4, l5] [] s Q) : Wp X d 298 4 [some (mR 407), some (mI x1), some (mI x2), some (mI x3), l4, l5] [] s Q := Wp_step k298 f298_4 (Wp_step k298 f298_5 (Wp_step k298 f298_6 ⟨kf_407, Wp_step k298 f298_9 ⟨h_1, h_2⟩⟩))
theorem b298_12 {X : (Nat → Int) × Nat} {d : Nat} {s : mSt} {Q : mQ} {x1 : Int} {x2 : Int} {x3 : Int} {l4 : Option mV} {l5 : Option mV} (h_1 : Wp X d 298 18 [some (mR 407), some (mI x1), some (mI x2), some (mI x3), some (mI 0), some (mI 0)] [] s Q) : Wp X d 298 12 [some (mR 407), some (mI x1), some (mI x2), some (mI x3), l4, l5] [] s Q := Wp_step k298 f298_12 (Wp_step k298 f298_13 (Wp_step k298 f298_15 (Wp_step k298 f298_16 (h_1))))
theorem b298_18 {X : (Nat → Int) × Nat} {d : Nat} {s : mSt} {Q : mQ} {x1 : Int} {x2 : Int} {x3 : Int} {x4 : Int} {x5 : Int} (h_1 : (s 407 2) < x5 → Wp X d 298 88 [some (mR 407), some (mI x1), some (mI x2), some (mI x3), some (mI x4), some (mI x5)] [] s Q) (h_2 : ¬ (s 407 2) < x5 → Wp X d 298 27 [some (mR 407), some (mI x1), some (mI x2), some (mI x3), some (mI x4), some (mI x5)] [] s Q) : Wp X d 298 18 [some (mR 407), some (mI x1), some (mI x2), some (mI x3), some (mI x4), some (mI x5)] [] s Q := Wp_step k298 f298_18 (Wp_step k298 f298_20 (Wp_step k298 f298_21 ⟨kf_407, Wp_step k298 f298_24 ⟨h_1, h_2⟩⟩))
theorem b298_27 {X : (Nat → Int) × Nat} {d : Nat} {s : mSt} {Q : mQ} {x1 : Int} {x2 : Int} {x3 : Int} {x4 : Int} {x5 : Int} (h_1 : 0 ≤ x3 ∧ x3 < 7) (h_2 : (s 434 x3.toNat) = 0 → Wp X d 298 88 [some (mR 407), some (mI x1), some (mI x2), some (mI x3), some (mI x4), some (mI x5)] [] s Q) (h_3 : ¬ (s 434 x3.toNat) = 0 → Wp X d 298 36 [some (mR 407), some (mI x1), some (mI x2), some (mI x3), some (mI x4), some (mI x5)] [] s Q) : Wp X d 298 27 [some (mR 407), some (mI x1), some (mI x2), some (mI x3), some (mI x4), some (mI x5)] [] s Q := Wp_step k298 f298_27 (Wp_step k298 f298_28 ⟨kf_407, 434, rf_407_51, Wp_step k298 f298_31 (Wp_step k298 f298_32 ⟨24, 7, af_434, (Or.inr rfl), h_1, Wp_step k298 f298_33 ⟨h_2, h_3⟩⟩)⟩)
theorem b298_36 {X : (Nat → Int) × Nat} {d : Nat} {s : mSt} {Q : mQ} {x1 : Int} {x2 : Int} {x3 : Int} {x4 : Int} {x5 : Int} (h_1 : 0 ≤ x5 ∧ x5 < 7) (h_2 : (s 434 x5.toNat) = 0 → Wp X d 298 78 [some (mR 407), some (mI x1), some (mI x2), some (mI x3), some (mI x4), some (mI x5)] [mI x4] s Q) (h_3 : ¬ (s 434 x5.toNat) = 0 → Wp X d 298 48 [some (mR 407), some (mI x1), some (mI x2), some (mI x3), some (mI x4), some (mI x5)] [mI x4] s Q) : Wp X d 298 36 [some (mR 407), some (mI x1), some (mI x2), some (mI x3), some (mI x4), some (mI x5)] [] s Q := Wp_step k298 f298_36 (Wp_step k298 f298_38 (Wp_step k298 f298_39 ⟨kf_407, 434, rf_407_51, Wp_step k298 f298_42 (Wp_step k298 f298_44 ⟨24, 7, af_434, (Or.inr rfl), h_1, Wp_step k298 f298_45 ⟨h_2, h_3⟩⟩)⟩))
theorem b298_48 {X : (Nat → Int) × Nat} {d : Nat} {s : mSt} {Q : mQ} {x1 : Int} {x2 : Int} {x3 : Int} {x4 : Int} {x5 : Int} {xt0 : Int} (h_1 : 0 ≤ (w32 ((w32 (30 * x3)) + x1)) ∧ (w32 ((w32 (30 * x3)) + x1)) < 210) (h_2 : 0 ≤ (w32 ((w32 (30 * x5)) + x1)) ∧ (w32 ((w32 (30 * x5)) + x1)) < 210) (h_3 : ¬ (s 435 (w32 ((w32 (30 * x3)) + x1)).toNat) = (s 435 (w32 ((w32 (30 * x5)) + x1)).toNat) → Wp X d 298 78 [some (mR 407), some (mI x1), some (mI x2), some (mI x3), some (mI x4), some (mI x5)] [mI xt0] s Q) (h_4 : (s 435 (w32 ((w32 (30 * x3)) + x1)).toNat) = (s 435 (w32 ((w32 (30 * x5)) + x1)).toNat) → Wp X d 298 74 [some (mR 407), some (mI x1), some (mI x2), some (mI x3), some (mI x4), some (mI x5)] [mI xt0] s Q) : Wp X d 298 48 [some (mR 407), some (mI x1), some (mI x2), some (mI x3), some (mI x4), some (mI x5)] [mI xt0] s Q := Wp_step k298 f298_48 (Wp_step k298 f298_49 ⟨kf_407, 435, rf_407_52, Wp_step k298 f298_52 (Wp_step k298 f298_54 (Wp_step k298 f298_55 (Wp_step k298 f298_56 (Wp_step k298 f298_57 (Wp_step k298 f298_58 ⟨210, af_435, h_1, Wp_step k298 f298_59 (Wp_step k298 f298_60 ⟨kf_407, 435, rf_407_52, Wp_step k298 f298_63 (Wp_step k298 f298_65 (Wp_step k298 f298_67 (Wp_step k298 f298_68 (Wp_step k298 f298_69 (Wp_step k298 f298_70 ⟨210, af_435, h_2, Wp_step k298 f298_71 ⟨h_3, h_4⟩⟩)))))⟩)⟩)))))⟩)
theorem b298_74 {X : (Nat → Int) × Nat} {d : Nat} {s : mSt} {Q : mQ} {x1 : Int} {x2 : Int} {x3 : Int} {x4 : Int} {x5 : Int} {xt0 : Int} (h_1 : Wp X d 298 79 [some (mR 407), some (mI x1), some (mI x2), some (mI x3), some (mI x4), some (mI x5)] [mI 1, mI xt0] s Q) : Wp X d 298 74 [some (mR 407), some (mI x1), some (mI x2), some (mI x3), some (mI x4), some (mI x5)] [mI xt0] s Q := Wp_step k298 f298_74 (Wp_step k298 f298_75 (h_1))
theorem b298_78 {X : (Nat → Int) × Nat} {d : Nat} {s : mSt} {Q : mQ} {x1 : Int} {x2 : Int} {x3 : Int} {x4 : Int} {x5 : Int} {xt0 : Int} (h_1 : Wp X d 298 79 [some (mR 407), some (mI x1), some (mI x2), some (mI x3), some (mI x4), some (mI x5)] [mI 0, mI xt0] s Q) : Wp X d 298 78 [some (mR 407), some (mI x1), some (mI x2), some (mI x3), some (mI x4), some (mI x5)] [mI xt0] s Q := Wp_step k298 f298_78 (h_1)
theorem b298_79 {X : (Nat → Int) × Nat} {d : Nat} {s : mSt} {Q : mQ} {x1 : Int} {x2 : Int} {x3 : Int} {x4 : Int} {x5 : Int} {xt0 : Int} {xt1 : Int} (h_1 : Wp X d 298 18 [some (mR 407), some (mI x1), some (mI x2), some (mI x3), some (mI (w32 (xt0 + xt1))), some (mI (w32 (x5 + 1)))] [] s Q) : Wp X d 298 79 [some (mR 407), some (mI x1), some (mI x2), some (mI x3), some (mI x4), some (mI x5)] [mI xt1, mI xt0] s Q := Wp_step k298 f298_79 (Wp_step k298 f298_80 (Wp_step k298 f298_82 (Wp_step k298 f298_85 (h_1))))
theorem b298_88 {X : (Nat → Int) × Nat} {d : Nat} {s : mSt} {Q : mQ} {x1 : Int} {x2 : Int} {x3 : Int} {x4 : Int} {x5 : Int} (h_1 : x4 ≤ x2 → Wp X d 298 99 [some (mR 407), some (mI x1), some (mI x2), some (mI x3), some (mI x4), some (mI x5)] [] s Q) (h_2 : ¬ x4 ≤ x2 → Wp X d 298 94 [some (mR 407), some (mI x1), some (mI x2), some (mI x3), some (mI x4), some (mI x5)] [] s Q) : Wp X d 298 88 [some (mR 407), some (mI x1), some (mI x2), some (mI x3), some (mI x4), some (mI x5)] [] s Q := Wp_step k298 f298_88 (Wp_step k298 f298_90 (Wp_step k298 f298_91 ⟨h_1, h_2⟩))
theorem b298_94 {X : (Nat → Int) × Nat} {d : Nat} {s : mSt} {Q : mQ} {x1 : Int} {x2 : Int} {x3 : Int} {x4 : Int} {x5 : Int} (h_1 : Wp X d 298 100 [some (mR 407), some (mI x1), some (mI x2), some (mI x3), some (mI x4), some (mI x5)] [mI x4] s Q) : Wp X d 298 94 [some (mR 407), some (mI x1), some (mI x2), some (mI x3), some (mI x4), some (mI x5)] [] s Q := Wp_step k298 f298_94 (Wp_step k298 f298_96 (h_1))
theorem b298_99 {X : (Nat → Int) × Nat} {d : Nat} {s : mSt} {Q : mQ} {x1 : Int} {x2 : Int} {x3 : Int} {x4 : Int} {x5 : Int} (h_1 : Wp X d 298 100 [some (mR 407), some (mI x1), some (mI x2), some (mI x3), some (mI x4), some (mI x5)] [mI x2] s Q) : Wp X d 298 99 [some (mR 407), some (mI x1), some (mI x2), some (mI x3), some (mI x4), some (mI x5)] [] s Q := Wp_step k298 f298_99 (h_1)
theorem b298_100 {X : (Nat → Int) × Nat} {d : Nat} {s : mSt} {Q : mQ} {x1 : Int} {x2 : Int} {x3 : Int} {x4 : Int} {x5 : Int} {xt0 : Int} (h_1 : Wp X d 298 4 [some (mR 407), some (mI x1), some (mI xt0), some (mI (w32 (x3 + 1))), some (mI x4), some (mI x5)] [] s Q) : Wp X d 298 100 [some (mR 407), some (mI x1), some (mI x2), some (mI x3), some (mI x4), some (mI x5)] [mI xt0] s Q := Wp_step k298 f298_100 (Wp_step k298 f298_101 (Wp_step k298 f298_104 (h_1)))
theorem b298_107 {X : (Nat → Int) × Nat} {d : Nat} {s : mSt} {Q : mQ} {x1 : Int} {x2 : Int} {x3 : Int} {l4 : Option mV} {l5 : Option mV} (h_1 : Q (some (mI x2)) s) : Wp X d 298 107 [some (mR 407), some (mI x1), some (mI x2), some (mI x3), l4, l5] [] s Q := Wp_step k298 f298_107 (Wp_step k298 f298_108 ⟨⟨rfl, trivial⟩, h_1⟩)
theorem e298 {X : (Nat → Int) × Nat} {d : Nat} {s : mSt} {Q : mQ} {x1 : Int} (h : Wp X d 298 0 [some (mR 407), some (mI x1), none, none, none, none] [] s Q) : Sp X d 298 [mR 407, mI x1] s Q := Sp_of (show mCe 298 = 0 by decide +kernel) (by rw [show mML 298 = 6 by decide +kernel]; rfl) (Nat.le_trans (Nat.le_of_ble_eq_true (show Nat.ble (mArgs _).length 6 = true from rfl)) (show 6 ≤ mML 298 by decide +kernel)) h
-- 299 ClashDayModel.look(II)I
theorem k299 : mRk 299 = 1 := by decide +kernel
theorem f299_0 : mFetch 299 0 = some (.aload_n 0, 1, 0, 0, 0, 0) := by decide +kernel
theorem f299_1 : mFetch 299 1 = some (.invokevirtual 354, 3, 212, 0, 1, 12) := by decide +kernel
theorem f299_4 : mFetch 299 4 = some (.ifCond .eq 25, 3, 29, 0, 0, 0) := by decide +kernel
theorem f299_7 : mFetch 299 7 = some (.iload_n 1, 1, 0, 0, 0, 0) := by decide +kernel
theorem f299_8 : mFetch 299 8 = some (.i2l, 1, 0, 0, 0, 0) := by decide +kernel
theorem f299_9 : mFetch 299 9 = some (.lconst 0, 1, 0, 0, 0, 0) := by decide +kernel
theorem f299_10 : mFetch 299 10 = some (.ldc2_w 461, 3, 9, 0, 0, 0) := by decide +kernel
theorem f299_13 : mFetch 299 13 = some (.invokestatic 151, 3, 167, 0, 3, 99) := by decide +kernel
theorem f299_16 : mFetch 299 16 = some (.ifCond .eq 13, 3, 29, 0, 0, 0) := by decide +kernel
theorem f299_19 : mFetch 299 19 = some (.iload_n 2, 1, 0, 0, 0, 0) := by decide +kernel
theorem f299_20 : mFetch 299 20 = some (.i2l, 1, 0, 0, 0, 0) := by decide +kernel
theorem f299_21 : mFetch 299 21 = some (.lconst 0, 1, 0, 0, 0, 0) := by decide +kernel
theorem f299_22 : mFetch 299 22 = some (.lconst 1, 1, 0, 0, 0, 0) := by decide +kernel
theorem f299_23 : mFetch 299 23 = some (.invokestatic 151, 3, 167, 0, 3, 99) := by decide +kernel
theorem f299_26 : mFetch 299 26 = some (.ifCond .ne 5, 3, 31, 0, 0, 0) := by decide +kernel
theorem f299_29 : mFetch 299 29 = some (.iconst (-1), 1, 0, 0, 0, 0) := by decide +kernel
theorem f299_30 : mFetch 299 30 = some (.ireturn, 1, 0, 0, 0, 0) := by decide +kernel
theorem f299_31 : mFetch 299 31 = some (.aload_n 0, 1, 0, 0, 0, 0) := by decide +kernel
theorem f299_32 : mFetch 299 32 = some (.iload_n 1, 1, 0, 0, 0, 0) := by decide +kernel
theorem f299_33 : mFetch 299 33 = some (.invokevirtual 545, 3, 296, 0, 2, 12) := by decide +kernel
theorem f299_36 : mFetch 299 36 = some (.bipush (-2), 2, 0, 0, 0, 0) := by decide +kernel
theorem f299_38 : mFetch 299 38 = some (.istore_n 3, 1, 0, 0, 0, 0) := by decide +kernel
theorem f299_39 : mFetch 299 39 = some (.bipush (-2), 2, 0, 0, 0, 0) := by decide +kernel
theorem f299_41 : mFetch 299 41 = some (.istore 4, 2, 0, 0, 0, 0) := by decide +kernel
theorem f299_43 : mFetch 299 43 = some (.iconst 0, 1, 0, 0, 0, 0) := by decide +kernel
theorem f299_44 : mFetch 299 44 = some (.istore 5, 2, 0, 0, 0, 0) := by decide +kernel
theorem f299_46 : mFetch 299 46 = some (.iload 5, 2, 0, 0, 0, 0) := by decide +kernel
theorem f299_48 : mFetch 299 48 = some (.bipush 30, 2, 0, 0, 0, 0) := by decide +kernel
theorem f299_50 : mFetch 299 50 = some (.if_icmp .ge 43, 3, 93, 0, 0, 0) := by decide +kernel
theorem f299_53 : mFetch 299 53 = some (.aload_n 0, 1, 0, 0, 0, 0) := by decide +kernel
theorem f299_54 : mFetch 299 54 = some (.iload 5, 2, 0, 0, 0, 0) := by decide +kernel
theorem f299_56 : mFetch 299 56 = some (.invokevirtual 548, 3, 298, 0, 2, 12) := by decide +kernel
theorem f299_59 : mFetch 299 59 = some (.istore 6, 2, 0, 0, 0, 0) := by decide +kernel
theorem f299_61 : mFetch 299 61 = some (.iload 6, 2, 0, 0, 0, 0) := by decide +kernel
theorem f299_63 : mFetch 299 63 = some (.ifCond .eq 24, 3, 87, 0, 0, 0) := by decide +kernel
theorem f299_66 : mFetch 299 66 = some (.iload_n 3, 1, 0, 0, 0, 0) := by decide +kernel
theorem f299_67 : mFetch 299 67 = some (.ifCond .lt 13, 3, 80, 0, 0, 0) := by decide +kernel
theorem f299_70 : mFetch 299 70 = some (.iload 6, 2, 0, 0, 0, 0) := by decide +kernel
theorem f299_72 : mFetch 299 72 = some (.iload 4, 2, 0, 0, 0, 0) := by decide +kernel
theorem f299_74 : mFetch 299 74 = some (.if_icmp .lt 6, 3, 80, 0, 0, 0) := by decide +kernel
theorem f299_77 : mFetch 299 77 = some (.goto 10, 3, 87, 0, 0, 0) := by decide +kernel
theorem f299_80 : mFetch 299 80 = some (.iload 5, 2, 0, 0, 0, 0) := by decide +kernel
theorem f299_82 : mFetch 299 82 = some (.istore_n 3, 1, 0, 0, 0, 0) := by decide +kernel
theorem f299_83 : mFetch 299 83 = some (.iload 6, 2, 0, 0, 0, 0) := by decide +kernel
theorem f299_85 : mFetch 299 85 = some (.istore 4, 2, 0, 0, 0, 0) := by decide +kernel
theorem f299_87 : mFetch 299 87 = some (.iinc 5 1, 3, 0, 0, 0, 0) := by decide +kernel
theorem f299_90 : mFetch 299 90 = some (.goto (-44), 3, 46, 0, 0, 0) := by decide +kernel
theorem f299_93 : mFetch 299 93 = some (.iload_n 2, 1, 0, 0, 0, 0) := by decide +kernel
theorem f299_94 : mFetch 299 94 = some (.ifCond .ne 7, 3, 101, 0, 0, 0) := by decide +kernel
theorem f299_97 : mFetch 299 97 = some (.iload_n 3, 1, 0, 0, 0, 0) := by decide +kernel
theorem f299_98 : mFetch 299 98 = some (.goto 5, 3, 103, 0, 0, 0) := by decide +kernel
theorem f299_101 : mFetch 299 101 = some (.iload 4, 2, 0, 0, 0, 0) := by decide +kernel
theorem f299_103 : mFetch 299 103 = some (.ireturn, 1, 0, 0, 0, 0) := by decide +kernel
theorem b299_0 {X : (Nat → Int) × Nat} {d : Nat} {s : mSt} {Q : mQ} {x1 : Int} {x2 : Int} {l3 : Option mV} {l4 : Option mV} {l5 : Option mV} {l6 : Option mV} (h_1 : Sp X d 212 [mR 407] s (fun r s' => ∃ v : Int, r = some (mI v) ∧ Wp X (d + 1) 299 4 [some (mR 407), some (mI x1), some (mI x2), l3, l4, l5, l6] [mI v] s' Q)) : Wp X (d + 1) 299 0 [some (mR 407), some (mI x1), some (mI x2), l3, l4, l5, l6] [] s Q := Wp_step k299 f299_0 (Wp_step k299 f299_1 ⟨⟨kf_407, Nat.le_of_ble_eq_true rfl⟩, Nat.le_refl _, _, rfl, Sp_E h_1⟩)
theorem b299_4 {X : (Nat → Int) × Nat} {d : Nat} {s : mSt} {Q : mQ} {x1 : Int} {x2 : Int} {l3 : Option mV} {l4 : Option mV} {l5 : Option mV} {l6 : Option mV} {xt0 : Int} (h_1 : xt0 = 0 → Wp X d 299 29 [some (mR 407), some (mI x1), some (mI x2), l3, l4, l5, l6] [] s Q) (h_2 : ¬ xt0 = 0 → Wp X d 299 7 [some (mR 407), some (mI x1), some (mI x2), l3, l4, l5, l6] [] s Q) : Wp X d 299 4 [some (mR 407), some (mI x1), some (mI x2), l3, l4, l5, l6] [mI xt0] s Q := Wp_step k299 f299_4 ⟨h_1, h_2⟩
theorem b299_7 {X : (Nat → Int) × Nat} {d : Nat} {s : mSt} {Q : mQ} {x1 : Int} {x2 : Int} {l3 : Option mV} {l4 : Option mV} {l5 : Option mV} {l6 : Option mV} (h_1 : Sp X d 167 [mJ x1, mJ 0, mJ 9] s (fun r s' => ∃ v : Int, r = some (mI v) ∧ Wp X (d + 1) 299 16 [some (mR 407), some (mI x1), some (mI x2), l3, l4, l5, l6] [mI v] s' Q)) : Wp X (d + 1) 299 7 [some (mR 407), some (mI x1), some (mI x2), l3, l4, l5, l6] [] s Q := Wp_step k299 f299_7 (Wp_step k299 f299_8 (Wp_step k299 f299_9 (Wp_step k299 f299_10 (Wp_step k299 f299_13 ⟨⟨Nat.le_of_ble_eq_true rfl, Nat.le_refl _⟩, _, rfl, Sp_E h_1⟩))))
theorem b299_16 {X : (Nat → Int) × Nat} {d : Nat} {s : mSt} {Q : mQ} {x1 : Int} {x2 : Int} {l3 : Option mV} {l4 : Option mV} {l5 : Option mV} {l6 : Option mV} {xt0 : Int} (h_1 : xt0 = 0 → Wp X d 299 29 [some (mR 407), some (mI x1), some (mI x2), l3, l4, l5, l6] [] s Q) (h_2 : ¬ xt0 = 0 → Wp X d 299 19 [some (mR 407), some (mI x1), some (mI x2), l3, l4, l5, l6] [] s Q) : Wp X d 299 16 [some (mR 407), some (mI x1), some (mI x2), l3, l4, l5, l6] [mI xt0] s Q := Wp_step k299 f299_16 ⟨h_1, h_2⟩
theorem b299_19 {X : (Nat → Int) × Nat} {d : Nat} {s : mSt} {Q : mQ} {x1 : Int} {x2 : Int} {l3 : Option mV} {l4 : Option mV} {l5 : Option mV} {l6 : Option mV} (h_1 : Sp X d 167 [mJ x2, mJ 0, mJ 1] s (fun r s' => ∃ v : Int, r = some (mI v) ∧ Wp X (d + 1) 299 26 [some (mR 407), some (mI x1), some (mI x2), l3, l4, l5, l6] [mI v] s' Q)) : Wp X (d + 1) 299 19 [some (mR 407), some (mI x1), some (mI x2), l3, l4, l5, l6] [] s Q := Wp_step k299 f299_19 (Wp_step k299 f299_20 (Wp_step k299 f299_21 (Wp_step k299 f299_22 (Wp_step k299 f299_23 ⟨⟨Nat.le_of_ble_eq_true rfl, Nat.le_refl _⟩, _, rfl, Sp_E h_1⟩))))
theorem b299_26 {X : (Nat → Int) × Nat} {d : Nat} {s : mSt} {Q : mQ} {x1 : Int} {x2 : Int} {l3 : Option mV} {l4 : Option mV} {l5 : Option mV} {l6 : Option mV} {xt0 : Int} (h_1 : ¬ xt0 = 0 → Wp X d 299 31 [some (mR 407), some (mI x1), some (mI x2), l3, l4, l5, l6] [] s Q) (h_2 : xt0 = 0 → Wp X d 299 29 [some (mR 407), some (mI x1), some (mI x2), l3, l4, l5, l6] [] s Q) : Wp X d 299 26 [some (mR 407), some (mI x1), some (mI x2), l3, l4, l5, l6] [mI xt0] s Q := Wp_step k299 f299_26 ⟨h_1, h_2⟩
theorem b299_29 {X : (Nat → Int) × Nat} {d : Nat} {s : mSt} {Q : mQ} {x1 : Int} {x2 : Int} {l3 : Option mV} {l4 : Option mV} {l5 : Option mV} {l6 : Option mV} (h_1 : Q (some (mI (-1))) s) : Wp X d 299 29 [some (mR 407), some (mI x1), some (mI x2), l3, l4, l5, l6] [] s Q := Wp_step k299 f299_29 (Wp_step k299 f299_30 ⟨⟨rfl, trivial⟩, h_1⟩)
theorem b299_31 {X : (Nat → Int) × Nat} {d : Nat} {s : mSt} {Q : mQ} {x1 : Int} {x2 : Int} {l3 : Option mV} {l4 : Option mV} {l5 : Option mV} {l6 : Option mV} (h_1 : Sp X d 296 [mR 407, mI x1] s (fun r s' => r = none ∧ Wp X (d + 1) 299 36 [some (mR 407), some (mI x1), some (mI x2), l3, l4, l5, l6] [] s' Q)) : Wp X (d + 1) 299 31 [some (mR 407), some (mI x1), some (mI x2), l3, l4, l5, l6] [] s Q := Wp_step k299 f299_31 (Wp_step k299 f299_32 (Wp_step k299 f299_33 ⟨⟨kf_407, Nat.le_of_ble_eq_true rfl⟩, Nat.le_refl _, _, rfl, Sp_V h_1⟩))
theorem b299_36 {X : (Nat → Int) × Nat} {d : Nat} {s : mSt} {Q : mQ} {x1 : Int} {x2 : Int} {l3 : Option mV} {l4 : Option mV} {l5 : Option mV} {l6 : Option mV} (h_1 : Wp X d 299 46 [some (mR 407), some (mI x1), some (mI x2), some (mI (-2)), some (mI (-2)), some (mI 0), l6] [] s Q) : Wp X d 299 36 [some (mR 407), some (mI x1), some (mI x2), l3, l4, l5, l6] [] s Q := Wp_step k299 f299_36 (Wp_step k299 f299_38 (Wp_step k299 f299_39 (Wp_step k299 f299_41 (Wp_step k299 f299_43 (Wp_step k299 f299_44 (h_1))))))
theorem b299_46 {X : (Nat → Int) × Nat} {d : Nat} {s : mSt} {Q : mQ} {x1 : Int} {x2 : Int} {x3 : Int} {x4 : Int} {x5 : Int} {l6 : Option mV} (h_1 : 30 ≤ x5 → Wp X d 299 93 [some (mR 407), some (mI x1), some (mI x2), some (mI x3), some (mI x4), some (mI x5), l6] [] s Q) (h_2 : ¬ 30 ≤ x5 → Wp X d 299 53 [some (mR 407), some (mI x1), some (mI x2), some (mI x3), some (mI x4), some (mI x5), l6] [] s Q) : Wp X d 299 46 [some (mR 407), some (mI x1), some (mI x2), some (mI x3), some (mI x4), some (mI x5), l6] [] s Q := Wp_step k299 f299_46 (Wp_step k299 f299_48 (Wp_step k299 f299_50 ⟨h_1, h_2⟩))
theorem b299_53 {X : (Nat → Int) × Nat} {d : Nat} {s : mSt} {Q : mQ} {x1 : Int} {x2 : Int} {x3 : Int} {x4 : Int} {x5 : Int} {l6 : Option mV} (h_1 : Sp X d 298 [mR 407, mI x5] s (fun r s' => ∃ v : Int, r = some (mI v) ∧ Wp X (d + 1) 299 59 [some (mR 407), some (mI x1), some (mI x2), some (mI x3), some (mI x4), some (mI x5), l6] [mI v] s' Q)) : Wp X (d + 1) 299 53 [some (mR 407), some (mI x1), some (mI x2), some (mI x3), some (mI x4), some (mI x5), l6] [] s Q := Wp_step k299 f299_53 (Wp_step k299 f299_54 (Wp_step k299 f299_56 ⟨⟨kf_407, Nat.le_of_ble_eq_true rfl⟩, Nat.le_refl _, _, rfl, Sp_E h_1⟩))
theorem b299_59 {X : (Nat → Int) × Nat} {d : Nat} {s : mSt} {Q : mQ} {x1 : Int} {x2 : Int} {x3 : Int} {x4 : Int} {x5 : Int} {l6 : Option mV} {xt0 : Int} (h_1 : xt0 = 0 → Wp X d 299 87 [some (mR 407), some (mI x1), some (mI x2), some (mI x3), some (mI x4), some (mI x5), some (mI xt0)] [] s Q) (h_2 : ¬ xt0 = 0 → Wp X d 299 66 [some (mR 407), some (mI x1), some (mI x2), some (mI x3), some (mI x4), some (mI x5), some (mI xt0)] [] s Q) : Wp X d 299 59 [some (mR 407), some (mI x1), some (mI x2), some (mI x3), some (mI x4), some (mI x5), l6] [mI xt0] s Q := Wp_step k299 f299_59 (Wp_step k299 f299_61 (Wp_step k299 f299_63 ⟨h_1, h_2⟩))
theorem b299_66 {X : (Nat → Int) × Nat} {d : Nat} {s : mSt} {Q : mQ} {x1 : Int} {x2 : Int} {x3 : Int} {x4 : Int} {x5 : Int} {x6 : Int} (h_1 : x3 < 0 → Wp X d 299 80 [some (mR 407), some (mI x1), some (mI x2), some (mI x3), some (mI x4), some (mI x5), some (mI x6)] [] s Q) (h_2 : ¬ x3 < 0 → Wp X d 299 70 [some (mR 407), some (mI x1), some (mI x2), some (mI x3), some (mI x4), some (mI x5), some (mI x6)] [] s Q) : Wp X d 299 66 [some (mR 407), some (mI x1), some (mI x2), some (mI x3), some (mI x4), some (mI x5), some (mI x6)] [] s Q := Wp_step k299 f299_66 (Wp_step k299 f299_67 ⟨h_1, h_2⟩)
theorem b299_70 {X : (Nat → Int) × Nat} {d : Nat} {s : mSt} {Q : mQ} {x1 : Int} {x2 : Int} {x3 : Int} {x4 : Int} {x5 : Int} {x6 : Int} (h_1 : x6 < x4 → Wp X d 299 80 [some (mR 407), some (mI x1), some (mI x2), some (mI x3), some (mI x4), some (mI x5), some (mI x6)] [] s Q) (h_2 : ¬ x6 < x4 → Wp X d 299 77 [some (mR 407), some (mI x1), some (mI x2), some (mI x3), some (mI x4), some (mI x5), some (mI x6)] [] s Q) : Wp X d 299 70 [some (mR 407), some (mI x1), some (mI x2), some (mI x3), some (mI x4), some (mI x5), some (mI x6)] [] s Q := Wp_step k299 f299_70 (Wp_step k299 f299_72 (Wp_step k299 f299_74 ⟨h_1, h_2⟩))
theorem b299_77 {X : (Nat → Int) × Nat} {d : Nat} {s : mSt} {Q : mQ} {x1 : Int} {x2 : Int} {x3 : Int} {x4 : Int} {x5 : Int} {x6 : Int} (h_1 : Wp X d 299 87 [some (mR 407), some (mI x1), some (mI x2), some (mI x3), some (mI x4), some (mI x5), some (mI x6)] [] s Q) : Wp X d 299 77 [some (mR 407), some (mI x1), some (mI x2), some (mI x3), some (mI x4), some (mI x5), some (mI x6)] [] s Q := Wp_step k299 f299_77 (h_1)
theorem b299_80 {X : (Nat → Int) × Nat} {d : Nat} {s : mSt} {Q : mQ} {x1 : Int} {x2 : Int} {x3 : Int} {x4 : Int} {x5 : Int} {x6 : Int} (h_1 : Wp X d 299 87 [some (mR 407), some (mI x1), some (mI x2), some (mI x5), some (mI x6), some (mI x5), some (mI x6)] [] s Q) : Wp X d 299 80 [some (mR 407), some (mI x1), some (mI x2), some (mI x3), some (mI x4), some (mI x5), some (mI x6)] [] s Q := Wp_step k299 f299_80 (Wp_step k299 f299_82 (Wp_step k299 f299_83 (Wp_step k299 f299_85 (h_1))))
theorem b299_87 {X : (Nat → Int) × Nat} {d : Nat} {s : mSt} {Q : mQ} {x1 : Int} {x2 : Int} {x3 : Int} {x4 : Int} {x5 : Int} {x6 : Int} (h_1 : Wp X d 299 46 [some (mR 407), some (mI x1), some (mI x2), some (mI x3), some (mI x4), some (mI (w32 (x5 + 1))), some (mI x6)] [] s Q) : Wp X d 299 87 [some (mR 407), some (mI x1), some (mI x2), some (mI x3), some (mI x4), some (mI x5), some (mI x6)] [] s Q := Wp_step k299 f299_87 (Wp_step k299 f299_90 (h_1))
theorem b299_93 {X : (Nat → Int) × Nat} {d : Nat} {s : mSt} {Q : mQ} {x1 : Int} {x2 : Int} {x3 : Int} {x4 : Int} {x5 : Int} {l6 : Option mV} (h_1 : ¬ x2 = 0 → Wp X d 299 101 [some (mR 407), some (mI x1), some (mI x2), some (mI x3), some (mI x4), some (mI x5), l6] [] s Q) (h_2 : x2 = 0 → Wp X d 299 97 [some (mR 407), some (mI x1), some (mI x2), some (mI x3), some (mI x4), some (mI x5), l6] [] s Q) : Wp X d 299 93 [some (mR 407), some (mI x1), some (mI x2), some (mI x3), some (mI x4), some (mI x5), l6] [] s Q := Wp_step k299 f299_93 (Wp_step k299 f299_94 ⟨h_1, h_2⟩)
theorem b299_97 {X : (Nat → Int) × Nat} {d : Nat} {s : mSt} {Q : mQ} {x1 : Int} {x2 : Int} {x3 : Int} {x4 : Int} {x5 : Int} {l6 : Option mV} (h_1 : Wp X d 299 103 [some (mR 407), some (mI x1), some (mI x2), some (mI x3), some (mI x4), some (mI x5), l6] [mI x3] s Q) : Wp X d 299 97 [some (mR 407), some (mI x1), some (mI x2), some (mI x3), some (mI x4), some (mI x5), l6] [] s Q := Wp_step k299 f299_97 (Wp_step k299 f299_98 (h_1))
theorem b299_101 {X : (Nat → Int) × Nat} {d : Nat} {s : mSt} {Q : mQ} {x1 : Int} {x2 : Int} {x3 : Int} {x4 : Int} {x5 : Int} {l6 : Option mV} (h_1 : Wp X d 299 103 [some (mR 407), some (mI x1), some (mI x2), some (mI x3), some (mI x4), some (mI x5), l6] [mI x4] s Q) : Wp X d 299 101 [some (mR 407), some (mI x1), some (mI x2), some (mI x3), some (mI x4), some (mI x5), l6] [] s Q := Wp_step k299 f299_101 (h_1)
theorem b299_103 {X : (Nat → Int) × Nat} {d : Nat} {s : mSt} {Q : mQ} {x1 : Int} {x2 : Int} {x3 : Int} {x4 : Int} {x5 : Int} {l6 : Option mV} {xt0 : Int} (h_1 : Q (some (mI xt0)) s) : Wp X d 299 103 [some (mR 407), some (mI x1), some (mI x2), some (mI x3), some (mI x4), some (mI x5), l6] [mI xt0] s Q := Wp_step k299 f299_103 ⟨⟨rfl, trivial⟩, h_1⟩
theorem e299 {X : (Nat → Int) × Nat} {d : Nat} {s : mSt} {Q : mQ} {x1 : Int} {x2 : Int} (h : Wp X d 299 0 [some (mR 407), some (mI x1), some (mI x2), none, none, none, none] [] s Q) : Sp X d 299 [mR 407, mI x1, mI x2] s Q := Sp_of (show mCe 299 = 0 by decide +kernel) (by rw [show mML 299 = 7 by decide +kernel]; rfl) (Nat.le_trans (Nat.le_of_ble_eq_true (show Nat.ble (mArgs _).length 7 = true from rfl)) (show 7 ≤ mML 299 by decide +kernel)) h
-- 300 ClashDayModel.canBe(III)I
theorem k300 : mRk 300 = 1 := by decide +kernel
theorem f300_0 : mFetch 300 0 = some (.aload_n 0, 1, 0, 0, 0, 0) := by decide +kernel
theorem f300_1 : mFetch 300 1 = some (.getfield 39, 3, 12, 20, 2, 1) := by decide +kernel
theorem f300_4 : mFetch 300 4 = some (.iload_n 1, 1, 0, 0, 0, 0) := by decide +kernel
theorem f300_5 : mFetch 300 5 = some (.iaload, 1, 0, 0, 0, 0) := by decide +kernel
theorem f300_6 : mFetch 300 6 = some (.istore 4, 2, 0, 0, 0, 0) := by decide +kernel
theorem f300_8 : mFetch 300 8 = some (.iconst 0, 1, 0, 0, 0, 0) := by decide +kernel
theorem f300_9 : mFetch 300 9 = some (.istore 5, 2, 0, 0, 0, 0) := by decide +kernel
theorem f300_11 : mFetch 300 11 = some (.aload_n 0, 1, 0, 0, 0, 0) := by decide +kernel
theorem f300_12 : mFetch 300 12 = some (.invokevirtual 502, 3, 277, 0, 1, 12) := by decide +kernel
theorem f300_15 : mFetch 300 15 = some (.iconst 0, 1, 0, 0, 0, 0) := by decide +kernel
theorem f300_16 : mFetch 300 16 = some (.istore 6, 2, 0, 0, 0, 0) := by decide +kernel
theorem f300_18 : mFetch 300 18 = some (.iload 6, 2, 0, 0, 0, 0) := by decide +kernel
theorem f300_20 : mFetch 300 20 = some (.iload_n 2, 1, 0, 0, 0, 0) := by decide +kernel
theorem f300_21 : mFetch 300 21 = some (.if_icmp .ge 37, 3, 58, 0, 0, 0) := by decide +kernel
theorem f300_24 : mFetch 300 24 = some (.aload_n 0, 1, 0, 0, 0, 0) := by decide +kernel
theorem f300_25 : mFetch 300 25 = some (.getfield 39, 3, 12, 20, 2, 1) := by decide +kernel
theorem f300_28 : mFetch 300 28 = some (.iload_n 1, 1, 0, 0, 0, 0) := by decide +kernel
theorem f300_29 : mFetch 300 29 = some (.iload 6, 2, 0, 0, 0, 0) := by decide +kernel
theorem f300_31 : mFetch 300 31 = some (.iload_n 3, 1, 0, 0, 0, 0) := by decide +kernel
theorem f300_32 : mFetch 300 32 = some (.imul, 1, 0, 0, 0, 0) := by decide +kernel
theorem f300_33 : mFetch 300 33 = some (.iastore, 1, 0, 0, 0, 0) := by decide +kernel
theorem f300_34 : mFetch 300 34 = some (.aload_n 0, 1, 0, 0, 0, 0) := by decide +kernel
theorem f300_35 : mFetch 300 35 = some (.iconst 0, 1, 0, 0, 0, 0) := by decide +kernel
theorem f300_36 : mFetch 300 36 = some (.iconst (-1), 1, 0, 0, 0, 0) := by decide +kernel
theorem f300_37 : mFetch 300 37 = some (.invokevirtual 542, 3, 295, 0, 3, 12) := by decide +kernel
theorem f300_40 : mFetch 300 40 = some (.ifCond .eq 12, 3, 52, 0, 0, 0) := by decide +kernel
theorem f300_43 : mFetch 300 43 = some (.iload 5, 2, 0, 0, 0, 0) := by decide +kernel
theorem f300_45 : mFetch 300 45 = some (.iconst 1, 1, 0, 0, 0, 0) := by decide +kernel
theorem f300_46 : mFetch 300 46 = some (.iload 6, 2, 0, 0, 0, 0) := by decide +kernel
theorem f300_48 : mFetch 300 48 = some (.ishl, 1, 0, 0, 0, 0) := by decide +kernel
theorem f300_49 : mFetch 300 49 = some (.ior, 1, 0, 0, 0, 0) := by decide +kernel
theorem f300_50 : mFetch 300 50 = some (.istore 5, 2, 0, 0, 0, 0) := by decide +kernel
theorem f300_52 : mFetch 300 52 = some (.iinc 6 1, 3, 0, 0, 0, 0) := by decide +kernel
theorem f300_55 : mFetch 300 55 = some (.goto (-37), 3, 18, 0, 0, 0) := by decide +kernel
theorem f300_58 : mFetch 300 58 = some (.aload_n 0, 1, 0, 0, 0, 0) := by decide +kernel
theorem f300_59 : mFetch 300 59 = some (.getfield 39, 3, 12, 20, 2, 1) := by decide +kernel
theorem f300_62 : mFetch 300 62 = some (.iload_n 1, 1, 0, 0, 0, 0) := by decide +kernel
theorem f300_63 : mFetch 300 63 = some (.iload 4, 2, 0, 0, 0, 0) := by decide +kernel
theorem f300_65 : mFetch 300 65 = some (.iastore, 1, 0, 0, 0, 0) := by decide +kernel
theorem f300_66 : mFetch 300 66 = some (.aload_n 0, 1, 0, 0, 0, 0) := by decide +kernel
theorem f300_67 : mFetch 300 67 = some (.invokevirtual 491, 3, 278, 0, 1, 12) := by decide +kernel
theorem f300_70 : mFetch 300 70 = some (.iload 5, 2, 0, 0, 0, 0) := by decide +kernel
theorem f300_72 : mFetch 300 72 = some (.ireturn, 1, 0, 0, 0, 0) := by decide +kernel
theorem b300_0 {X : (Nat → Int) × Nat} {d : Nat} {s : mSt} {Q : mQ} {x1 : Int} {x2 : Int} {x3 : Int} {l4 : Option mV} {l5 : Option mV} {l6 : Option mV} (h_1 : 0 ≤ x1 ∧ x1 < 166) (h_2 : Sp X d 277 [mR 407] s (fun r s' => r = none ∧ Wp X (d + 1) 300 15 [some (mR 407), some (mI x1), some (mI x2), some (mI x3), some (mI (s 417 x1.toNat)), some (mI 0), l6] [] s' Q)) : Wp X (d + 1) 300 0 [some (mR 407), some (mI x1), some (mI x2), some (mI x3), l4, l5, l6] [] s Q := Wp_step k300 f300_0 (Wp_step k300 f300_1 ⟨kf_407, 417, rf_407_20, Wp_step k300 f300_4 (Wp_step k300 f300_5 ⟨166, af_417, h_1, Wp_step k300 f300_6 (Wp_step k300 f300_8 (Wp_step k300 f300_9 (Wp_step k300 f300_11 (Wp_step k300 f300_12 ⟨⟨kf_407, Nat.le_of_ble_eq_true rfl⟩, Nat.le_refl _, _, rfl, Sp_V h_2⟩))))⟩)⟩)
theorem b300_15 {X : (Nat → Int) × Nat} {d : Nat} {s : mSt} {Q : mQ} {x1 : Int} {x2 : Int} {x3 : Int} {x4 : Int} {x5 : Int} {l6 : Option mV} (h_1 : Wp X d 300 18 [some (mR 407), some (mI x1), some (mI x2), some (mI x3), some (mI x4), some (mI x5), some (mI 0)] [] s Q) : Wp X d 300 15 [some (mR 407), some (mI x1), some (mI x2), some (mI x3), some (mI x4), some (mI x5), l6] [] s Q := Wp_step k300 f300_15 (Wp_step k300 f300_16 (h_1))
theorem b300_18 {X : (Nat → Int) × Nat} {d : Nat} {s : mSt} {Q : mQ} {x1 : Int} {x2 : Int} {x3 : Int} {x4 : Int} {x5 : Int} {x6 : Int} (h_1 : x2 ≤ x6 → Wp X d 300 58 [some (mR 407), some (mI x1), some (mI x2), some (mI x3), some (mI x4), some (mI x5), some (mI x6)] [] s Q) (h_2 : ¬ x2 ≤ x6 → Wp X d 300 24 [some (mR 407), some (mI x1), some (mI x2), some (mI x3), some (mI x4), some (mI x5), some (mI x6)] [] s Q) : Wp X d 300 18 [some (mR 407), some (mI x1), some (mI x2), some (mI x3), some (mI x4), some (mI x5), some (mI x6)] [] s Q := Wp_step k300 f300_18 (Wp_step k300 f300_20 (Wp_step k300 f300_21 ⟨h_1, h_2⟩))
theorem b300_24 {X : (Nat → Int) × Nat} {d : Nat} {s : mSt} {Q : mQ} {x1 : Int} {x2 : Int} {x3 : Int} {x4 : Int} {x5 : Int} {x6 : Int} (h_1 : 0 ≤ x1 ∧ x1 < 166) (h_2 : Sp X d 295 [mR 407, mI 0, mI (-1)] (uS s 417 x1.toNat (w32 (x6 * x3))) (fun r s' => ∃ v : Int, r = some (mI v) ∧ Wp X (d + 1) 300 40 [some (mR 407), some (mI x1), some (mI x2), some (mI x3), some (mI x4), some (mI x5), some (mI x6)] [mI v] s' Q)) : Wp X (d + 1) 300 24 [some (mR 407), some (mI x1), some (mI x2), some (mI x3), some (mI x4), some (mI x5), some (mI x6)] [] s Q := Wp_step k300 f300_24 (Wp_step k300 f300_25 ⟨kf_407, 417, rf_407_20, Wp_step k300 f300_28 (Wp_step k300 f300_29 (Wp_step k300 f300_31 (Wp_step k300 f300_32 (Wp_step k300 f300_33 ⟨166, af_417, h_1, Wp_step k300 f300_34 (Wp_step k300 f300_35 (Wp_step k300 f300_36 (Wp_step k300 f300_37 ⟨⟨kf_407, Nat.le_of_ble_eq_true rfl⟩, Nat.le_refl _, _, rfl, Sp_E h_2⟩)))⟩))))⟩)
theorem b300_40 {X : (Nat → Int) × Nat} {d : Nat} {s : mSt} {Q : mQ} {x1 : Int} {x2 : Int} {x3 : Int} {x4 : Int} {x5 : Int} {x6 : Int} {xt0 : Int} (h_1 : xt0 = 0 → Wp X d 300 52 [some (mR 407), some (mI x1), some (mI x2), some (mI x3), some (mI x4), some (mI x5), some (mI x6)] [] s Q) (h_2 : ¬ xt0 = 0 → Wp X d 300 43 [some (mR 407), some (mI x1), some (mI x2), some (mI x3), some (mI x4), some (mI x5), some (mI x6)] [] s Q) : Wp X d 300 40 [some (mR 407), some (mI x1), some (mI x2), some (mI x3), some (mI x4), some (mI x5), some (mI x6)] [mI xt0] s Q := Wp_step k300 f300_40 ⟨h_1, h_2⟩
theorem b300_43 {X : (Nat → Int) × Nat} {d : Nat} {s : mSt} {Q : mQ} {x1 : Int} {x2 : Int} {x3 : Int} {x4 : Int} {x5 : Int} {x6 : Int} (h_1 : Wp X d 300 52 [some (mR 407), some (mI x1), some (mI x2), some (mI x3), some (mI x4), some (mI (iOr x5 (iShl 1 x6))), some (mI x6)] [] s Q) : Wp X d 300 43 [some (mR 407), some (mI x1), some (mI x2), some (mI x3), some (mI x4), some (mI x5), some (mI x6)] [] s Q := Wp_step k300 f300_43 (Wp_step k300 f300_45 (Wp_step k300 f300_46 (Wp_step k300 f300_48 (Wp_step k300 f300_49 (Wp_step k300 f300_50 (h_1))))))
theorem b300_52 {X : (Nat → Int) × Nat} {d : Nat} {s : mSt} {Q : mQ} {x1 : Int} {x2 : Int} {x3 : Int} {x4 : Int} {x5 : Int} {x6 : Int} (h_1 : Wp X d 300 18 [some (mR 407), some (mI x1), some (mI x2), some (mI x3), some (mI x4), some (mI x5), some (mI (w32 (x6 + 1)))] [] s Q) : Wp X d 300 52 [some (mR 407), some (mI x1), some (mI x2), some (mI x3), some (mI x4), some (mI x5), some (mI x6)] [] s Q := Wp_step k300 f300_52 (Wp_step k300 f300_55 (h_1))
theorem b300_58 {X : (Nat → Int) × Nat} {d : Nat} {s : mSt} {Q : mQ} {x1 : Int} {x2 : Int} {x3 : Int} {x4 : Int} {x5 : Int} {x6 : Int} (h_1 : 0 ≤ x1 ∧ x1 < 166) (h_2 : Sp X d 278 [mR 407] (uS s 417 x1.toNat x4) (fun r s' => r = none ∧ Wp X (d + 1) 300 70 [some (mR 407), some (mI x1), some (mI x2), some (mI x3), some (mI x4), some (mI x5), some (mI x6)] [] s' Q)) : Wp X (d + 1) 300 58 [some (mR 407), some (mI x1), some (mI x2), some (mI x3), some (mI x4), some (mI x5), some (mI x6)] [] s Q := Wp_step k300 f300_58 (Wp_step k300 f300_59 ⟨kf_407, 417, rf_407_20, Wp_step k300 f300_62 (Wp_step k300 f300_63 (Wp_step k300 f300_65 ⟨166, af_417, h_1, Wp_step k300 f300_66 (Wp_step k300 f300_67 ⟨⟨kf_407, Nat.le_of_ble_eq_true rfl⟩, Nat.le_refl _, _, rfl, Sp_V h_2⟩)⟩))⟩)
theorem b300_70 {X : (Nat → Int) × Nat} {d : Nat} {s : mSt} {Q : mQ} {x1 : Int} {x2 : Int} {x3 : Int} {x4 : Int} {x5 : Int} {x6 : Int} (h_1 : Q (some (mI x5)) s) : Wp X d 300 70 [some (mR 407), some (mI x1), some (mI x2), some (mI x3), some (mI x4), some (mI x5), some (mI x6)] [] s Q := Wp_step k300 f300_70 (Wp_step k300 f300_72 ⟨⟨rfl, trivial⟩, h_1⟩)
theorem e300 {X : (Nat → Int) × Nat} {d : Nat} {s : mSt} {Q : mQ} {x1 : Int} {x2 : Int} {x3 : Int} (h : Wp X d 300 0 [some (mR 407), some (mI x1), some (mI x2), some (mI x3), none, none, none] [] s Q) : Sp X d 300 [mR 407, mI x1, mI x2, mI x3] s Q := Sp_of (show mCe 300 = 0 by decide +kernel) (by rw [show mML 300 = 7 by decide +kernel]; rfl) (Nat.le_trans (Nat.le_of_ble_eq_true (show Nat.ble (mArgs _).length 7 = true from rfl)) (show 7 ≤ mML 300 by decide +kernel)) h
