-- 118 ClashDay$Turns.leastThatCan(LClashDay$Board;)I
theorem k118 : mRk 118 = 1 := by decide +kernel
theorem f118_0 : mFetch 118 0 = some (.iconst 0, 1, 0, 0, 0, 0) := by decide +kernel
theorem f118_1 : mFetch 118 1 = some (.istore_n 2, 1, 0, 0, 0, 0) := by decide +kernel
theorem f118_2 : mFetch 118 2 = some (.iload_n 2, 1, 0, 0, 0, 0) := by decide +kernel
theorem f118_3 : mFetch 118 3 = some (.aload_n 1, 1, 0, 0, 0, 0) := by decide +kernel
theorem f118_4 : mFetch 118 4 = some (.getfield 44, 3, 0, 3, 0, 0) := by decide +kernel
theorem f118_7 : mFetch 118 7 = some (.if_icmp .ge 37, 3, 44, 0, 0, 0) := by decide +kernel
theorem f118_10 : mFetch 118 10 = some (.aload_n 1, 1, 0, 0, 0, 0) := by decide +kernel
theorem f118_11 : mFetch 118 11 = some (.iload_n 2, 1, 0, 0, 0, 0) := by decide +kernel
theorem f118_12 : mFetch 118 12 = some (.invokevirtual 47, 3, 10, 0, 2, 0) := by decide +kernel
theorem f118_15 : mFetch 118 15 = some (.ifCond .eq 23, 3, 38, 0, 0, 0) := by decide +kernel
theorem f118_18 : mFetch 118 18 = some (.aload_n 0, 1, 0, 0, 0, 0) := by decide +kernel
theorem f118_19 : mFetch 118 19 = some (.getfield 20, 3, 10, 0, 2, 1) := by decide +kernel
theorem f118_22 : mFetch 118 22 = some (.aload_n 1, 1, 0, 0, 0, 0) := by decide +kernel
theorem f118_23 : mFetch 118 23 = some (.iload_n 2, 1, 0, 0, 0, 0) := by decide +kernel
theorem f118_24 : mFetch 118 24 = some (.aload_n 1, 1, 0, 0, 0, 0) := by decide +kernel
theorem f118_25 : mFetch 118 25 = some (.getfield 51, 3, 0, 8, 2, 0) := by decide +kernel
theorem f118_28 : mFetch 118 28 = some (.iload_n 2, 1, 0, 0, 0, 0) := by decide +kernel
theorem f118_29 : mFetch 118 29 = some (.iaload, 1, 0, 0, 0, 0) := by decide +kernel
theorem f118_30 : mFetch 118 30 = some (.invokevirtual 55, 3, 59, 0, 4, 4) := by decide +kernel
theorem f118_33 : mFetch 118 33 = some (.ifCond .eq 5, 3, 38, 0, 0, 0) := by decide +kernel
theorem f118_36 : mFetch 118 36 = some (.iload_n 2, 1, 0, 0, 0, 0) := by decide +kernel
theorem f118_37 : mFetch 118 37 = some (.ireturn, 1, 0, 0, 0, 0) := by decide +kernel
theorem f118_38 : mFetch 118 38 = some (.iinc 2 1, 3, 0, 0, 0, 0) := by decide +kernel
theorem f118_41 : mFetch 118 41 = some (.goto (-39), 3, 2, 0, 0, 0) := by decide +kernel
theorem f118_44 : mFetch 118 44 = some (.bipush (-2), 2, 0, 0, 0, 0) := by decide +kernel
theorem f118_46 : mFetch 118 46 = some (.ireturn, 1, 0, 0, 0, 0) := by decide +kernel
theorem b118_0 {X : (Nat → Int) × Nat} {d : Nat} {s : mSt} {Q : mQ} {a1 : Nat} {l2 : Option mV} (h1 : isBd a1) (h_1 : Wp X d 118 2 [some (mR 50), some (mR a1), some (mI 0)] [] s Q) : Wp X d 118 0 [some (mR 50), some (mR a1), l2] [] s Q := Wp_step k118 f118_0 (Wp_step k118 f118_1 (h_1))
theorem b118_2 {X : (Nat → Int) × Nat} {d : Nat} {s : mSt} {Q : mQ} {a1 : Nat} {x2 : Int} (h1 : isBd a1) (h_1 : (s a1 3) ≤ x2 → Wp X d 118 44 [some (mR 50), some (mR a1), some (mI x2)] [] s Q) (h_2 : ¬ (s a1 3) ≤ x2 → Wp X d 118 10 [some (mR 50), some (mR a1), some (mI x2)] [] s Q) : Wp X d 118 2 [some (mR 50), some (mR a1), some (mI x2)] [] s Q := Wp_step k118 f118_2 (Wp_step k118 f118_3 (Wp_step k118 f118_4 ⟨(bd_k h1), Wp_step k118 f118_7 ⟨h_1, h_2⟩⟩))
theorem b118_10 {X : (Nat → Int) × Nat} {d : Nat} {s : mSt} {Q : mQ} {a1 : Nat} {x2 : Int} (h1 : isBd a1) (h_1 : Sp X d 10 [mR a1, mI x2] s (fun r s' => ∃ v : Int, r = some (mI v) ∧ Wp X (d + 1) 118 15 [some (mR 50), some (mR a1), some (mI x2)] [mI v] s' Q)) : Wp X (d + 1) 118 10 [some (mR 50), some (mR a1), some (mI x2)] [] s Q := Wp_step k118 f118_10 (Wp_step k118 f118_11 (Wp_step k118 f118_12 ⟨⟨(bd_k h1), Nat.le_of_ble_eq_true rfl⟩, Nat.le_refl _, _, rfl, Sp_E h_1⟩))
theorem b118_15 {X : (Nat → Int) × Nat} {d : Nat} {s : mSt} {Q : mQ} {a1 : Nat} {x2 : Int} {xt0 : Int} (h1 : isBd a1) (h_1 : xt0 = 0 → Wp X d 118 38 [some (mR 50), some (mR a1), some (mI x2)] [] s Q) (h_2 : ¬ xt0 = 0 → Wp X d 118 18 [some (mR 50), some (mR a1), some (mI x2)] [] s Q) : Wp X d 118 15 [some (mR 50), some (mR a1), some (mI x2)] [mI xt0] s Q := Wp_step k118 f118_15 ⟨h_1, h_2⟩
theorem b118_18 {X : (Nat → Int) × Nat} {d : Nat} {s : mSt} {Q : mQ} {a1 : Nat} {x2 : Int} (h1 : isBd a1) (h_1 : 0 ≤ x2 ∧ x2 < 6) (h_2 : Sp X d 59 [mR 44, mR a1, mI x2, mI (s (a1 + 3) x2.toNat)] s (fun r s' => ∃ v : Int, r = some (mI v) ∧ Wp X (d + 1) 118 33 [some (mR 50), some (mR a1), some (mI x2)] [mI v] s' Q)) : Wp X (d + 1) 118 18 [some (mR 50), some (mR a1), some (mI x2)] [] s Q := Wp_step k118 f118_18 (Wp_step k118 f118_19 ⟨kf_50, 44, rf_50_0, Wp_step k118 f118_22 (Wp_step k118 f118_23 (Wp_step k118 f118_24 (Wp_step k118 f118_25 ⟨(bd_k h1), (a1 + 3), (bd_r8 h1), Wp_step k118 f118_28 (Wp_step k118 f118_29 ⟨6, (bd_a8 h1), h_1, Wp_step k118 f118_30 ⟨⟨kf_44, Nat.le_of_ble_eq_true rfl⟩, Nat.le_refl _, _, rfl, Sp_E h_2⟩⟩)⟩)))⟩)
theorem b118_33 {X : (Nat → Int) × Nat} {d : Nat} {s : mSt} {Q : mQ} {a1 : Nat} {x2 : Int} {xt0 : Int} (h1 : isBd a1) (h_1 : xt0 = 0 → Wp X d 118 38 [some (mR 50), some (mR a1), some (mI x2)] [] s Q) (h_2 : ¬ xt0 = 0 → Wp X d 118 36 [some (mR 50), some (mR a1), some (mI x2)] [] s Q) : Wp X d 118 33 [some (mR 50), some (mR a1), some (mI x2)] [mI xt0] s Q := Wp_step k118 f118_33 ⟨h_1, h_2⟩
theorem b118_36 {X : (Nat → Int) × Nat} {d : Nat} {s : mSt} {Q : mQ} {a1 : Nat} {x2 : Int} (h1 : isBd a1) (h_1 : Q (some (mI x2)) s) : Wp X d 118 36 [some (mR 50), some (mR a1), some (mI x2)] [] s Q := Wp_step k118 f118_36 (Wp_step k118 f118_37 ⟨⟨rfl, trivial⟩, h_1⟩)
theorem b118_38 {X : (Nat → Int) × Nat} {d : Nat} {s : mSt} {Q : mQ} {a1 : Nat} {x2 : Int} (h1 : isBd a1) (h_1 : Wp X d 118 2 [some (mR 50), some (mR a1), some (mI (w32 (x2 + 1)))] [] s Q) : Wp X d 118 38 [some (mR 50), some (mR a1), some (mI x2)] [] s Q := Wp_step k118 f118_38 (Wp_step k118 f118_41 (h_1))
theorem b118_44 {X : (Nat → Int) × Nat} {d : Nat} {s : mSt} {Q : mQ} {a1 : Nat} {x2 : Int} (h1 : isBd a1) (h_1 : Q (some (mI (-2))) s) : Wp X d 118 44 [some (mR 50), some (mR a1), some (mI x2)] [] s Q := Wp_step k118 f118_44 (Wp_step k118 f118_46 ⟨⟨rfl, trivial⟩, h_1⟩)
theorem e118 {X : (Nat → Int) × Nat} {d : Nat} {s : mSt} {Q : mQ} {a1 : Nat} (h : Wp X d 118 0 [some (mR 50), some (mR a1), none] [] s Q) : Sp X d 118 [mR 50, mR a1] s Q := Sp_of (show mCe 118 = 0 by decide +kernel) (by rw [show mML 118 = 3 by decide +kernel]; rfl) (Nat.le_trans (Nat.le_of_ble_eq_true (show Nat.ble (mArgs _).length 3 = true from rfl)) (show 3 ≤ mML 118 by decide +kernel)) h
-- 119 ClashDay$Turns.dearest(LClashDay$Board;LClashDay$Rule;)I
theorem k119 : mRk 119 = 1 := by decide +kernel
theorem f119_0 : mFetch 119 0 = some (.aload_n 0, 1, 0, 0, 0, 0) := by decide +kernel
theorem f119_1 : mFetch 119 1 = some (.getfield 11, 3, 10, 1, 2, 1) := by decide +kernel
theorem f119_4 : mFetch 119 4 = some (.bipush 8, 2, 0, 0, 0, 0) := by decide +kernel
theorem f119_6 : mFetch 119 6 = some (.aload_n 1, 1, 0, 0, 0, 0) := by decide +kernel
theorem f119_7 : mFetch 119 7 = some (.invokevirtual 59, 3, 19, 0, 1, 0) := by decide +kernel
theorem f119_10 : mFetch 119 10 = some (.i2l, 1, 0, 0, 0, 0) := by decide +kernel
theorem f119_11 : mFetch 119 11 = some (.lastore, 1, 0, 0, 0, 0) := by decide +kernel
theorem f119_12 : mFetch 119 12 = some (.aload_n 0, 1, 0, 0, 0, 0) := by decide +kernel
theorem f119_13 : mFetch 119 13 = some (.getfield 11, 3, 10, 1, 2, 1) := by decide +kernel
theorem f119_16 : mFetch 119 16 = some (.bipush 9, 2, 0, 0, 0, 0) := by decide +kernel
theorem f119_18 : mFetch 119 18 = some (.aload_n 1, 1, 0, 0, 0, 0) := by decide +kernel
theorem f119_19 : mFetch 119 19 = some (.invokevirtual 63, 3, 11, 0, 1, 0) := by decide +kernel
theorem f119_22 : mFetch 119 22 = some (.invokestatic 66, 3, 309, 0, 1, 99) := by decide +kernel
theorem f119_25 : mFetch 119 25 = some (.i2l, 1, 0, 0, 0, 0) := by decide +kernel
theorem f119_26 : mFetch 119 26 = some (.lastore, 1, 0, 0, 0, 0) := by decide +kernel
theorem f119_27 : mFetch 119 27 = some (.aload_n 0, 1, 0, 0, 0, 0) := by decide +kernel
theorem f119_28 : mFetch 119 28 = some (.getfield 11, 3, 10, 1, 2, 1) := by decide +kernel
theorem f119_31 : mFetch 119 31 = some (.bipush 10, 2, 0, 0, 0, 0) := by decide +kernel
theorem f119_33 : mFetch 119 33 = some (.aload_n 1, 1, 0, 0, 0, 0) := by decide +kernel
theorem f119_34 : mFetch 119 34 = some (.getfield 38, 3, 0, 4, 0, 0) := by decide +kernel
theorem f119_37 : mFetch 119 37 = some (.i2l, 1, 0, 0, 0, 0) := by decide +kernel
theorem f119_38 : mFetch 119 38 = some (.lastore, 1, 0, 0, 0, 0) := by decide +kernel
theorem f119_39 : mFetch 119 39 = some (.bipush (-2), 2, 0, 0, 0, 0) := by decide +kernel
theorem f119_41 : mFetch 119 41 = some (.istore_n 3, 1, 0, 0, 0, 0) := by decide +kernel
theorem f119_42 : mFetch 119 42 = some (.lconst 0, 1, 0, 0, 0, 0) := by decide +kernel
theorem f119_43 : mFetch 119 43 = some (.lstore 4, 2, 0, 0, 0, 0) := by decide +kernel
theorem f119_45 : mFetch 119 45 = some (.iconst 0, 1, 0, 0, 0, 0) := by decide +kernel
theorem f119_46 : mFetch 119 46 = some (.istore 6, 2, 0, 0, 0, 0) := by decide +kernel
theorem f119_48 : mFetch 119 48 = some (.iload 6, 2, 0, 0, 0, 0) := by decide +kernel
theorem f119_50 : mFetch 119 50 = some (.aload_n 1, 1, 0, 0, 0, 0) := by decide +kernel
theorem f119_51 : mFetch 119 51 = some (.getfield 44, 3, 0, 3, 0, 0) := by decide +kernel
theorem f119_54 : mFetch 119 54 = some (.if_icmp .ge 74, 3, 128, 0, 0, 0) := by decide +kernel
theorem f119_57 : mFetch 119 57 = some (.aload_n 1, 1, 0, 0, 0, 0) := by decide +kernel
theorem f119_58 : mFetch 119 58 = some (.iload 6, 2, 0, 0, 0, 0) := by decide +kernel
theorem f119_60 : mFetch 119 60 = some (.invokevirtual 47, 3, 10, 0, 2, 0) := by decide +kernel
theorem f119_63 : mFetch 119 63 = some (.ifCond .eq 59, 3, 122, 0, 0, 0) := by decide +kernel
theorem f119_66 : mFetch 119 66 = some (.aload_n 0, 1, 0, 0, 0, 0) := by decide +kernel
theorem f119_67 : mFetch 119 67 = some (.getfield 20, 3, 10, 0, 2, 1) := by decide +kernel
theorem f119_70 : mFetch 119 70 = some (.aload_n 1, 1, 0, 0, 0, 0) := by decide +kernel
theorem f119_71 : mFetch 119 71 = some (.iload 6, 2, 0, 0, 0, 0) := by decide +kernel
theorem f119_73 : mFetch 119 73 = some (.aload_n 1, 1, 0, 0, 0, 0) := by decide +kernel
theorem f119_74 : mFetch 119 74 = some (.getfield 51, 3, 0, 8, 2, 0) := by decide +kernel
theorem f119_77 : mFetch 119 77 = some (.iload 6, 2, 0, 0, 0, 0) := by decide +kernel
theorem f119_79 : mFetch 119 79 = some (.iaload, 1, 0, 0, 0, 0) := by decide +kernel
theorem f119_80 : mFetch 119 80 = some (.invokevirtual 55, 3, 59, 0, 4, 4) := by decide +kernel
theorem f119_83 : mFetch 119 83 = some (.ifCond .eq 39, 3, 122, 0, 0, 0) := by decide +kernel
theorem f119_86 : mFetch 119 86 = some (.aload_n 0, 1, 0, 0, 0, 0) := by decide +kernel
theorem f119_87 : mFetch 119 87 = some (.aload_n 1, 1, 0, 0, 0, 0) := by decide +kernel
theorem f119_88 : mFetch 119 88 = some (.iload 6, 2, 0, 0, 0, 0) := by decide +kernel
theorem f119_90 : mFetch 119 90 = some (.invokevirtual 72, 3, 120, 0, 3, 10) := by decide +kernel
theorem f119_93 : mFetch 119 93 = some (.aload_n 2, 1, 0, 0, 0, 0) := by decide +kernel
theorem f119_94 : mFetch 119 94 = some (.aload_n 0, 1, 0, 0, 0, 0) := by decide +kernel
theorem f119_95 : mFetch 119 95 = some (.getfield 11, 3, 10, 1, 2, 1) := by decide +kernel
theorem f119_98 : mFetch 119 98 = some (.aload_n 0, 1, 0, 0, 0, 0) := by decide +kernel
theorem f119_99 : mFetch 119 99 = some (.getfield 17, 3, 10, 2, 2, 1) := by decide +kernel
theorem f119_102 : mFetch 119 102 = some (.invokevirtual 76, 3, 74, 0, 3, 5) := by decide +kernel
theorem f119_105 : mFetch 119 105 = some (.lstore 7, 2, 0, 0, 0, 0) := by decide +kernel
theorem f119_107 : mFetch 119 107 = some (.lload 7, 2, 0, 0, 0, 0) := by decide +kernel
theorem f119_109 : mFetch 119 109 = some (.lload 4, 2, 0, 0, 0, 0) := by decide +kernel
theorem f119_111 : mFetch 119 111 = some (.lcmp, 1, 0, 0, 0, 0) := by decide +kernel
theorem f119_112 : mFetch 119 112 = some (.ifCond .le 10, 3, 122, 0, 0, 0) := by decide +kernel
theorem f119_115 : mFetch 119 115 = some (.lload 7, 2, 0, 0, 0, 0) := by decide +kernel
theorem f119_117 : mFetch 119 117 = some (.lstore 4, 2, 0, 0, 0, 0) := by decide +kernel
theorem f119_119 : mFetch 119 119 = some (.iload 6, 2, 0, 0, 0, 0) := by decide +kernel
theorem f119_121 : mFetch 119 121 = some (.istore_n 3, 1, 0, 0, 0, 0) := by decide +kernel
theorem f119_122 : mFetch 119 122 = some (.iinc 6 1, 3, 0, 0, 0, 0) := by decide +kernel
theorem f119_125 : mFetch 119 125 = some (.goto (-77), 3, 48, 0, 0, 0) := by decide +kernel
theorem f119_128 : mFetch 119 128 = some (.iload_n 3, 1, 0, 0, 0, 0) := by decide +kernel
theorem f119_129 : mFetch 119 129 = some (.ireturn, 1, 0, 0, 0, 0) := by decide +kernel
theorem b119_0 {X : (Nat → Int) × Nat} {d : Nat} {s : mSt} {Q : mQ} {a1 : Nat} {a2 : Nat} {l3 : Option mV} {l4 : Option mV} {l5 : Option mV} {l6 : Option mV} {l7 : Option mV} {l8 : Option mV} (h1 : isBd a1) (h2 : isRl a2) (h_1 : Sp X d 19 [mR a1] s (fun r s' => ∃ v : Int, r = some (mI v) ∧ Wp X (d + 1) 119 10 [some (mR 50), some (mR a1), some (mR a2), l3, l4, l5, l6, l7, l8] [mI v, mI 8, mR 51] s' Q)) : Wp X (d + 1) 119 0 [some (mR 50), some (mR a1), some (mR a2), l3, l4, l5, l6, l7, l8] [] s Q := Wp_step k119 f119_0 (Wp_step k119 f119_1 ⟨kf_50, 51, rf_50_1, Wp_step k119 f119_4 (Wp_step k119 f119_6 (Wp_step k119 f119_7 ⟨⟨(bd_k h1), Nat.le_of_ble_eq_true rfl⟩, Nat.le_refl _, _, rfl, Sp_E h_1⟩))⟩)
theorem b119_10 {X : (Nat → Int) × Nat} {d : Nat} {s : mSt} {Q : mQ} {a1 : Nat} {a2 : Nat} {l3 : Option mV} {l4 : Option mV} {l5 : Option mV} {l6 : Option mV} {l7 : Option mV} {l8 : Option mV} {xt1 : Int} {xt2 : Int} (h1 : isBd a1) (h2 : isRl a2) (h_1 : 0 ≤ xt1 ∧ xt1 < 11) (h_2 : Sp X d 11 [mR a1] (uS s 51 xt1.toNat xt2) (fun r s' => ∃ v : Int, r = some (mI v) ∧ Wp X (d + 1) 119 22 [some (mR 50), some (mR a1), some (mR a2), l3, l4, l5, l6, l7, l8] [mI v, mI 9, mR 51] s' Q)) : Wp X (d + 1) 119 10 [some (mR 50), some (mR a1), some (mR a2), l3, l4, l5, l6, l7, l8] [mI xt2, mI xt1, mR 51] s Q := Wp_step k119 f119_10 (Wp_step k119 f119_11 ⟨11, af_51, h_1, Wp_step k119 f119_12 (Wp_step k119 f119_13 ⟨kf_50, 51, rf_50_1, Wp_step k119 f119_16 (Wp_step k119 f119_18 (Wp_step k119 f119_19 ⟨⟨(bd_k h1), Nat.le_of_ble_eq_true rfl⟩, Nat.le_refl _, _, rfl, Sp_E h_2⟩))⟩)⟩)
theorem b119_22 {X : (Nat → Int) × Nat} {d : Nat} {s : mSt} {Q : mQ} {a1 : Nat} {a2 : Nat} {l3 : Option mV} {l4 : Option mV} {l5 : Option mV} {l6 : Option mV} {l7 : Option mV} {l8 : Option mV} {xt1 : Int} {xt2 : Int} (h1 : isBd a1) (h2 : isRl a2) (h_1 : Sp X d 309 [mI xt2] s (fun r s' => ∃ v : Int, r = some (mI v) ∧ Wp X (d + 1) 119 25 [some (mR 50), some (mR a1), some (mR a2), l3, l4, l5, l6, l7, l8] [mI v, mI xt1, mR 51] s' Q)) : Wp X (d + 1) 119 22 [some (mR 50), some (mR a1), some (mR a2), l3, l4, l5, l6, l7, l8] [mI xt2, mI xt1, mR 51] s Q := Wp_step k119 f119_22 ⟨⟨Nat.le_of_ble_eq_true rfl, Nat.le_refl _⟩, _, rfl, Sp_E h_1⟩
theorem b119_25 {X : (Nat → Int) × Nat} {d : Nat} {s : mSt} {Q : mQ} {a1 : Nat} {a2 : Nat} {l3 : Option mV} {l4 : Option mV} {l5 : Option mV} {l6 : Option mV} {l7 : Option mV} {l8 : Option mV} {xt1 : Int} {xt2 : Int} (h1 : isBd a1) (h2 : isRl a2) (h_1 : 0 ≤ xt1 ∧ xt1 < 11) (h_2 : Wp X d 119 48 [some (mR 50), some (mR a1), some (mR a2), some (mI (-2)), some (mJ 0), none, some (mI 0), l7, l8] [] (uS (uS s 51 xt1.toNat xt2) 51 10 ((uS s 51 xt1.toNat xt2) a1 4)) Q) : Wp X d 119 25 [some (mR 50), some (mR a1), some (mR a2), l3, l4, l5, l6, l7, l8] [mI xt2, mI xt1, mR 51] s Q := Wp_step k119 f119_25 (Wp_step k119 f119_26 ⟨11, af_51, h_1, Wp_step k119 f119_27 (Wp_step k119 f119_28 ⟨kf_50, 51, rf_50_1, Wp_step k119 f119_31 (Wp_step k119 f119_33 (Wp_step k119 f119_34 ⟨(bd_k h1), Wp_step k119 f119_37 (Wp_step k119 f119_38 ⟨11, af_51, ⟨by decide, by decide⟩, Wp_step k119 f119_39 (Wp_step k119 f119_41 (Wp_step k119 f119_42 (Wp_step k119 f119_43 (Wp_step k119 f119_45 (Wp_step k119 f119_46 (h_2))))))⟩)⟩))⟩)⟩)
theorem b119_48 {X : (Nat → Int) × Nat} {d : Nat} {s : mSt} {Q : mQ} {a1 : Nat} {a2 : Nat} {x3 : Int} {x4 : Int} {l5 : Option mV} {x6 : Int} {l7 : Option mV} {l8 : Option mV} (h1 : isBd a1) (h2 : isRl a2) (h_1 : (s a1 3) ≤ x6 → Wp X d 119 128 [some (mR 50), some (mR a1), some (mR a2), some (mI x3), some (mJ x4), l5, some (mI x6), l7, l8] [] s Q) (h_2 : ¬ (s a1 3) ≤ x6 → Wp X d 119 57 [some (mR 50), some (mR a1), some (mR a2), some (mI x3), some (mJ x4), l5, some (mI x6), l7, l8] [] s Q) : Wp X d 119 48 [some (mR 50), some (mR a1), some (mR a2), some (mI x3), some (mJ x4), l5, some (mI x6), l7, l8] [] s Q := Wp_step k119 f119_48 (Wp_step k119 f119_50 (Wp_step k119 f119_51 ⟨(bd_k h1), Wp_step k119 f119_54 ⟨h_1, h_2⟩⟩))
theorem b119_57 {X : (Nat → Int) × Nat} {d : Nat} {s : mSt} {Q : mQ} {a1 : Nat} {a2 : Nat} {x3 : Int} {x4 : Int} {l5 : Option mV} {x6 : Int} {l7 : Option mV} {l8 : Option mV} (h1 : isBd a1) (h2 : isRl a2) (h_1 : Sp X d 10 [mR a1, mI x6] s (fun r s' => ∃ v : Int, r = some (mI v) ∧ Wp X (d + 1) 119 63 [some (mR 50), some (mR a1), some (mR a2), some (mI x3), some (mJ x4), l5, some (mI x6), l7, l8] [mI v] s' Q)) : Wp X (d + 1) 119 57 [some (mR 50), some (mR a1), some (mR a2), some (mI x3), some (mJ x4), l5, some (mI x6), l7, l8] [] s Q := Wp_step k119 f119_57 (Wp_step k119 f119_58 (Wp_step k119 f119_60 ⟨⟨(bd_k h1), Nat.le_of_ble_eq_true rfl⟩, Nat.le_refl _, _, rfl, Sp_E h_1⟩))
theorem b119_63 {X : (Nat → Int) × Nat} {d : Nat} {s : mSt} {Q : mQ} {a1 : Nat} {a2 : Nat} {x3 : Int} {x4 : Int} {l5 : Option mV} {x6 : Int} {l7 : Option mV} {l8 : Option mV} {xt0 : Int} (h1 : isBd a1) (h2 : isRl a2) (h_1 : xt0 = 0 → Wp X d 119 122 [some (mR 50), some (mR a1), some (mR a2), some (mI x3), some (mJ x4), l5, some (mI x6), l7, l8] [] s Q) (h_2 : ¬ xt0 = 0 → Wp X d 119 66 [some (mR 50), some (mR a1), some (mR a2), some (mI x3), some (mJ x4), l5, some (mI x6), l7, l8] [] s Q) : Wp X d 119 63 [some (mR 50), some (mR a1), some (mR a2), some (mI x3), some (mJ x4), l5, some (mI x6), l7, l8] [mI xt0] s Q := Wp_step k119 f119_63 ⟨h_1, h_2⟩
theorem b119_66 {X : (Nat → Int) × Nat} {d : Nat} {s : mSt} {Q : mQ} {a1 : Nat} {a2 : Nat} {x3 : Int} {x4 : Int} {l5 : Option mV} {x6 : Int} {l7 : Option mV} {l8 : Option mV} (h1 : isBd a1) (h2 : isRl a2) (h_1 : 0 ≤ x6 ∧ x6 < 6) (h_2 : Sp X d 59 [mR 44, mR a1, mI x6, mI (s (a1 + 3) x6.toNat)] s (fun r s' => ∃ v : Int, r = some (mI v) ∧ Wp X (d + 1) 119 83 [some (mR 50), some (mR a1), some (mR a2), some (mI x3), some (mJ x4), l5, some (mI x6), l7, l8] [mI v] s' Q)) : Wp X (d + 1) 119 66 [some (mR 50), some (mR a1), some (mR a2), some (mI x3), some (mJ x4), l5, some (mI x6), l7, l8] [] s Q := Wp_step k119 f119_66 (Wp_step k119 f119_67 ⟨kf_50, 44, rf_50_0, Wp_step k119 f119_70 (Wp_step k119 f119_71 (Wp_step k119 f119_73 (Wp_step k119 f119_74 ⟨(bd_k h1), (a1 + 3), (bd_r8 h1), Wp_step k119 f119_77 (Wp_step k119 f119_79 ⟨6, (bd_a8 h1), h_1, Wp_step k119 f119_80 ⟨⟨kf_44, Nat.le_of_ble_eq_true rfl⟩, Nat.le_refl _, _, rfl, Sp_E h_2⟩⟩)⟩)))⟩)
theorem b119_83 {X : (Nat → Int) × Nat} {d : Nat} {s : mSt} {Q : mQ} {a1 : Nat} {a2 : Nat} {x3 : Int} {x4 : Int} {l5 : Option mV} {x6 : Int} {l7 : Option mV} {l8 : Option mV} {xt0 : Int} (h1 : isBd a1) (h2 : isRl a2) (h_1 : xt0 = 0 → Wp X d 119 122 [some (mR 50), some (mR a1), some (mR a2), some (mI x3), some (mJ x4), l5, some (mI x6), l7, l8] [] s Q) (h_2 : ¬ xt0 = 0 → Wp X d 119 86 [some (mR 50), some (mR a1), some (mR a2), some (mI x3), some (mJ x4), l5, some (mI x6), l7, l8] [] s Q) : Wp X d 119 83 [some (mR 50), some (mR a1), some (mR a2), some (mI x3), some (mJ x4), l5, some (mI x6), l7, l8] [mI xt0] s Q := Wp_step k119 f119_83 ⟨h_1, h_2⟩
theorem b119_86 {X : (Nat → Int) × Nat} {d : Nat} {s : mSt} {Q : mQ} {a1 : Nat} {a2 : Nat} {x3 : Int} {x4 : Int} {l5 : Option mV} {x6 : Int} {l7 : Option mV} {l8 : Option mV} (h1 : isBd a1) (h2 : isRl a2) (h_1 : Sp X d 120 [mR 50, mR a1, mI x6] s (fun r s' => r = none ∧ Wp X (d + 1) 119 93 [some (mR 50), some (mR a1), some (mR a2), some (mI x3), some (mJ x4), l5, some (mI x6), l7, l8] [] s' Q)) : Wp X (d + 1) 119 86 [some (mR 50), some (mR a1), some (mR a2), some (mI x3), some (mJ x4), l5, some (mI x6), l7, l8] [] s Q := Wp_step k119 f119_86 (Wp_step k119 f119_87 (Wp_step k119 f119_88 (Wp_step k119 f119_90 ⟨⟨kf_50, Nat.le_of_ble_eq_true rfl⟩, Nat.le_refl _, _, rfl, Sp_V h_1⟩)))
theorem b119_93 {X : (Nat → Int) × Nat} {d : Nat} {s : mSt} {Q : mQ} {a1 : Nat} {a2 : Nat} {x3 : Int} {x4 : Int} {l5 : Option mV} {x6 : Int} {l7 : Option mV} {l8 : Option mV} (h1 : isBd a1) (h2 : isRl a2) (h_1 : Sp X d 74 [mR a2, mR 51, mR 52] s (fun r s' => ∃ v : Int, r = some (mJ v) ∧ Wp X (d + 1) 119 105 [some (mR 50), some (mR a1), some (mR a2), some (mI x3), some (mJ x4), l5, some (mI x6), l7, l8] [mJ v] s' Q)) : Wp X (d + 1) 119 93 [some (mR 50), some (mR a1), some (mR a2), some (mI x3), some (mJ x4), l5, some (mI x6), l7, l8] [] s Q := Wp_step k119 f119_93 (Wp_step k119 f119_94 (Wp_step k119 f119_95 ⟨kf_50, 51, rf_50_1, Wp_step k119 f119_98 (Wp_step k119 f119_99 ⟨kf_50, 52, rf_50_2, Wp_step k119 f119_102 ⟨⟨(rl_k h2), Nat.le_of_ble_eq_true rfl⟩, Nat.le_refl _, _, rfl, Sp_E h_1⟩⟩)⟩))
theorem b119_105 {X : (Nat → Int) × Nat} {d : Nat} {s : mSt} {Q : mQ} {a1 : Nat} {a2 : Nat} {x3 : Int} {x4 : Int} {l5 : Option mV} {x6 : Int} {l7 : Option mV} {l8 : Option mV} {xt0 : Int} (h1 : isBd a1) (h2 : isRl a2) (h_1 : (lCmp xt0 x4) ≤ 0 → Wp X d 119 122 [some (mR 50), some (mR a1), some (mR a2), some (mI x3), some (mJ x4), l5, some (mI x6), some (mJ xt0), none] [] s Q) (h_2 : ¬ (lCmp xt0 x4) ≤ 0 → Wp X d 119 115 [some (mR 50), some (mR a1), some (mR a2), some (mI x3), some (mJ x4), l5, some (mI x6), some (mJ xt0), none] [] s Q) : Wp X d 119 105 [some (mR 50), some (mR a1), some (mR a2), some (mI x3), some (mJ x4), l5, some (mI x6), l7, l8] [mJ xt0] s Q := Wp_step k119 f119_105 (Wp_step k119 f119_107 (Wp_step k119 f119_109 (Wp_step k119 f119_111 (Wp_step k119 f119_112 ⟨h_1, h_2⟩))))
theorem b119_115 {X : (Nat → Int) × Nat} {d : Nat} {s : mSt} {Q : mQ} {a1 : Nat} {a2 : Nat} {x3 : Int} {x4 : Int} {l5 : Option mV} {x6 : Int} {x7 : Int} {l8 : Option mV} (h1 : isBd a1) (h2 : isRl a2) (h_1 : Wp X d 119 122 [some (mR 50), some (mR a1), some (mR a2), some (mI x6), some (mJ x7), none, some (mI x6), some (mJ x7), l8] [] s Q) : Wp X d 119 115 [some (mR 50), some (mR a1), some (mR a2), some (mI x3), some (mJ x4), l5, some (mI x6), some (mJ x7), l8] [] s Q := Wp_step k119 f119_115 (Wp_step k119 f119_117 (Wp_step k119 f119_119 (Wp_step k119 f119_121 (h_1))))
theorem b119_122 {X : (Nat → Int) × Nat} {d : Nat} {s : mSt} {Q : mQ} {a1 : Nat} {a2 : Nat} {x3 : Int} {x4 : Int} {l5 : Option mV} {x6 : Int} {l7 : Option mV} {l8 : Option mV} (h1 : isBd a1) (h2 : isRl a2) (h_1 : Wp X d 119 48 [some (mR 50), some (mR a1), some (mR a2), some (mI x3), some (mJ x4), kL 0 l5, some (mI (w32 (x6 + 1))), l7, l8] [] s Q) : Wp X d 119 122 [some (mR 50), some (mR a1), some (mR a2), some (mI x3), some (mJ x4), l5, some (mI x6), l7, l8] [] s Q := Wp_step k119 f119_122 (Wp_step k119 f119_125 (h_1))
theorem b119_128 {X : (Nat → Int) × Nat} {d : Nat} {s : mSt} {Q : mQ} {a1 : Nat} {a2 : Nat} {x3 : Int} {x4 : Int} {l5 : Option mV} {x6 : Int} {l7 : Option mV} {l8 : Option mV} (h1 : isBd a1) (h2 : isRl a2) (h_1 : Q (some (mI x3)) s) : Wp X d 119 128 [some (mR 50), some (mR a1), some (mR a2), some (mI x3), some (mJ x4), l5, some (mI x6), l7, l8] [] s Q := Wp_step k119 f119_128 (Wp_step k119 f119_129 ⟨⟨rfl, trivial⟩, h_1⟩)
theorem e119 {X : (Nat → Int) × Nat} {d : Nat} {s : mSt} {Q : mQ} {a1 : Nat} {a2 : Nat} (h : Wp X d 119 0 [some (mR 50), some (mR a1), some (mR a2), none, none, none, none, none, none] [] s Q) : Sp X d 119 [mR 50, mR a1, mR a2] s Q := Sp_of (show mCe 119 = 0 by decide +kernel) (by rw [show mML 119 = 9 by decide +kernel]; rfl) (Nat.le_trans (Nat.le_of_ble_eq_true (show Nat.ble (mArgs _).length 9 = true from rfl)) (show 9 ≤ mML 119 by decide +kernel)) h
-- 120 ClashDay$Turns.gatherFacts(LClashDay$Board;I)V
theorem k120 : mRk 120 = 0 := by decide +kernel
theorem f120_0 : mFetch 120 0 = some (.aload_n 0, 1, 0, 0, 0, 0) := by decide +kernel
theorem f120_1 : mFetch 120 1 = some (.getfield 11, 3, 10, 1, 2, 1) := by decide +kernel
theorem f120_4 : mFetch 120 4 = some (.iconst 0, 1, 0, 0, 0, 0) := by decide +kernel
theorem f120_5 : mFetch 120 5 = some (.iload_n 2, 1, 0, 0, 0, 0) := by decide +kernel
theorem f120_6 : mFetch 120 6 = some (.i2l, 1, 0, 0, 0, 0) := by decide +kernel
theorem f120_7 : mFetch 120 7 = some (.lastore, 1, 0, 0, 0, 0) := by decide +kernel
theorem f120_8 : mFetch 120 8 = some (.aload_n 0, 1, 0, 0, 0, 0) := by decide +kernel
theorem f120_9 : mFetch 120 9 = some (.getfield 11, 3, 10, 1, 2, 1) := by decide +kernel
theorem f120_12 : mFetch 120 12 = some (.iconst 1, 1, 0, 0, 0, 0) := by decide +kernel
theorem f120_13 : mFetch 120 13 = some (.aload_n 1, 1, 0, 0, 0, 0) := by decide +kernel
theorem f120_14 : mFetch 120 14 = some (.getfield 51, 3, 0, 8, 2, 0) := by decide +kernel
theorem f120_17 : mFetch 120 17 = some (.iload_n 2, 1, 0, 0, 0, 0) := by decide +kernel
theorem f120_18 : mFetch 120 18 = some (.iaload, 1, 0, 0, 0, 0) := by decide +kernel
theorem f120_19 : mFetch 120 19 = some (.invokestatic 66, 3, 309, 0, 1, 99) := by decide +kernel
theorem f120_22 : mFetch 120 22 = some (.i2l, 1, 0, 0, 0, 0) := by decide +kernel
theorem f120_23 : mFetch 120 23 = some (.lastore, 1, 0, 0, 0, 0) := by decide +kernel
theorem f120_24 : mFetch 120 24 = some (.aload_n 0, 1, 0, 0, 0, 0) := by decide +kernel
theorem f120_25 : mFetch 120 25 = some (.getfield 11, 3, 10, 1, 2, 1) := by decide +kernel
theorem f120_28 : mFetch 120 28 = some (.iconst 2, 1, 0, 0, 0, 0) := by decide +kernel
theorem f120_29 : mFetch 120 29 = some (.aload_n 1, 1, 0, 0, 0, 0) := by decide +kernel
theorem f120_30 : mFetch 120 30 = some (.getfield 82, 3, 0, 9, 2, 0) := by decide +kernel
theorem f120_33 : mFetch 120 33 = some (.iload_n 2, 1, 0, 0, 0, 0) := by decide +kernel
theorem f120_34 : mFetch 120 34 = some (.iaload, 1, 0, 0, 0, 0) := by decide +kernel
theorem f120_35 : mFetch 120 35 = some (.i2l, 1, 0, 0, 0, 0) := by decide +kernel
theorem f120_36 : mFetch 120 36 = some (.lastore, 1, 0, 0, 0, 0) := by decide +kernel
theorem f120_37 : mFetch 120 37 = some (.aload_n 0, 1, 0, 0, 0, 0) := by decide +kernel
theorem f120_38 : mFetch 120 38 = some (.getfield 11, 3, 10, 1, 2, 1) := by decide +kernel
theorem f120_41 : mFetch 120 41 = some (.iconst 3, 1, 0, 0, 0, 0) := by decide +kernel
theorem f120_42 : mFetch 120 42 = some (.aload_n 1, 1, 0, 0, 0, 0) := by decide +kernel
theorem f120_43 : mFetch 120 43 = some (.getfield 85, 3, 0, 10, 2, 0) := by decide +kernel
theorem f120_46 : mFetch 120 46 = some (.iload_n 2, 1, 0, 0, 0, 0) := by decide +kernel
theorem f120_47 : mFetch 120 47 = some (.iaload, 1, 0, 0, 0, 0) := by decide +kernel
theorem f120_48 : mFetch 120 48 = some (.i2l, 1, 0, 0, 0, 0) := by decide +kernel
theorem f120_49 : mFetch 120 49 = some (.lastore, 1, 0, 0, 0, 0) := by decide +kernel
theorem f120_50 : mFetch 120 50 = some (.aload_n 0, 1, 0, 0, 0, 0) := by decide +kernel
theorem f120_51 : mFetch 120 51 = some (.getfield 11, 3, 10, 1, 2, 1) := by decide +kernel
theorem f120_54 : mFetch 120 54 = some (.iconst 4, 1, 0, 0, 0, 0) := by decide +kernel
theorem f120_55 : mFetch 120 55 = some (.aload_n 0, 1, 0, 0, 0, 0) := by decide +kernel
theorem f120_56 : mFetch 120 56 = some (.getfield 20, 3, 10, 0, 2, 1) := by decide +kernel
theorem f120_59 : mFetch 120 59 = some (.getfield 88, 3, 4, 7, 0, 0) := by decide +kernel
theorem f120_62 : mFetch 120 62 = some (.i2l, 1, 0, 0, 0, 0) := by decide +kernel
theorem f120_63 : mFetch 120 63 = some (.lastore, 1, 0, 0, 0, 0) := by decide +kernel
theorem f120_64 : mFetch 120 64 = some (.aload_n 0, 1, 0, 0, 0, 0) := by decide +kernel
theorem f120_65 : mFetch 120 65 = some (.getfield 11, 3, 10, 1, 2, 1) := by decide +kernel
theorem f120_68 : mFetch 120 68 = some (.iconst 5, 1, 0, 0, 0, 0) := by decide +kernel
theorem f120_69 : mFetch 120 69 = some (.aload_n 0, 1, 0, 0, 0, 0) := by decide +kernel
theorem f120_70 : mFetch 120 70 = some (.getfield 20, 3, 10, 0, 2, 1) := by decide +kernel
theorem f120_73 : mFetch 120 73 = some (.getfield 91, 3, 4, 8, 0, 0) := by decide +kernel
theorem f120_76 : mFetch 120 76 = some (.invokestatic 66, 3, 309, 0, 1, 99) := by decide +kernel
theorem f120_79 : mFetch 120 79 = some (.i2l, 1, 0, 0, 0, 0) := by decide +kernel
theorem f120_80 : mFetch 120 80 = some (.lastore, 1, 0, 0, 0, 0) := by decide +kernel
theorem f120_81 : mFetch 120 81 = some (.aload_n 0, 1, 0, 0, 0, 0) := by decide +kernel
theorem f120_82 : mFetch 120 82 = some (.getfield 11, 3, 10, 1, 2, 1) := by decide +kernel
theorem f120_85 : mFetch 120 85 = some (.bipush 6, 2, 0, 0, 0, 0) := by decide +kernel
theorem f120_87 : mFetch 120 87 = some (.aload_n 0, 1, 0, 0, 0, 0) := by decide +kernel
theorem f120_88 : mFetch 120 88 = some (.getfield 20, 3, 10, 0, 2, 1) := by decide +kernel
theorem f120_91 : mFetch 120 91 = some (.getfield 94, 3, 4, 10, 0, 0) := by decide +kernel
theorem f120_94 : mFetch 120 94 = some (.i2l, 1, 0, 0, 0, 0) := by decide +kernel
theorem f120_95 : mFetch 120 95 = some (.lastore, 1, 0, 0, 0, 0) := by decide +kernel
theorem f120_96 : mFetch 120 96 = some (.aload_n 0, 1, 0, 0, 0, 0) := by decide +kernel
theorem f120_97 : mFetch 120 97 = some (.getfield 11, 3, 10, 1, 2, 1) := by decide +kernel
theorem f120_100 : mFetch 120 100 = some (.bipush 7, 2, 0, 0, 0, 0) := by decide +kernel
theorem f120_102 : mFetch 120 102 = some (.aload_n 1, 1, 0, 0, 0, 0) := by decide +kernel
theorem f120_103 : mFetch 120 103 = some (.iload_n 2, 1, 0, 0, 0, 0) := by decide +kernel
theorem f120_104 : mFetch 120 104 = some (.invokevirtual 97, 3, 15, 0, 2, 0) := by decide +kernel
theorem f120_107 : mFetch 120 107 = some (.i2l, 1, 0, 0, 0, 0) := by decide +kernel
theorem f120_108 : mFetch 120 108 = some (.lastore, 1, 0, 0, 0, 0) := by decide +kernel
theorem f120_109 : mFetch 120 109 = some (.return_, 1, 0, 0, 0, 0) := by decide +kernel
theorem b120_0 {X : (Nat → Int) × Nat} {d : Nat} {s : mSt} {Q : mQ} {a1 : Nat} {x2 : Int} (h1 : isBd a1) (h_1 : 0 ≤ x2 ∧ x2 < 6) (h_2 : Sp X d 309 [mI ((uS s 51 0 x2) (a1 + 3) x2.toNat)] (uS s 51 0 x2) (fun r s' => ∃ v : Int, r = some (mI v) ∧ Wp X (d + 1) 120 22 [some (mR 50), some (mR a1), some (mI x2)] [mI v, mI 1, mR 51] s' Q)) : Wp X (d + 1) 120 0 [some (mR 50), some (mR a1), some (mI x2)] [] s Q := Wp_step k120 f120_0 (Wp_step k120 f120_1 ⟨kf_50, 51, rf_50_1, Wp_step k120 f120_4 (Wp_step k120 f120_5 (Wp_step k120 f120_6 (Wp_step k120 f120_7 ⟨11, af_51, ⟨by decide, by decide⟩, Wp_step k120 f120_8 (Wp_step k120 f120_9 ⟨kf_50, 51, rf_50_1, Wp_step k120 f120_12 (Wp_step k120 f120_13 (Wp_step k120 f120_14 ⟨(bd_k h1), (a1 + 3), (bd_r8 h1), Wp_step k120 f120_17 (Wp_step k120 f120_18 ⟨6, (bd_a8 h1), h_1, Wp_step k120 f120_19 ⟨⟨Nat.le_of_ble_eq_true rfl, Nat.le_refl _⟩, _, rfl, Sp_E h_2⟩⟩)⟩))⟩)⟩)))⟩)
theorem b120_22 {X : (Nat → Int) × Nat} {d : Nat} {s : mSt} {Q : mQ} {a1 : Nat} {x2 : Int} {xt1 : Int} {xt2 : Int} (h1 : isBd a1) (h_1 : 0 ≤ xt1 ∧ xt1 < 11) (h_2 : 0 ≤ x2 ∧ x2 < 6) (h_3 : 0 ≤ x2 ∧ x2 < 6) (h_4 : Sp X d 309 [mI ((uS (uS (uS (uS s 51 xt1.toNat xt2) 51 2 ((uS s 51 xt1.toNat xt2) (a1 + 4) x2.toNat)) 51 3 ((uS (uS s 51 xt1.toNat xt2) 51 2 ((uS s 51 xt1.toNat xt2) (a1 + 4) x2.toNat)) (a1 + 5) x2.toNat)) 51 4 ((uS (uS (uS s 51 xt1.toNat xt2) 51 2 ((uS s 51 xt1.toNat xt2) (a1 + 4) x2.toNat)) 51 3 ((uS (uS s 51 xt1.toNat xt2) 51 2 ((uS s 51 xt1.toNat xt2) (a1 + 4) x2.toNat)) (a1 + 5) x2.toNat)) 44 7)) 44 8)] (uS (uS (uS (uS s 51 xt1.toNat xt2) 51 2 ((uS s 51 xt1.toNat xt2) (a1 + 4) x2.toNat)) 51 3 ((uS (uS s 51 xt1.toNat xt2) 51 2 ((uS s 51 xt1.toNat xt2) (a1 + 4) x2.toNat)) (a1 + 5) x2.toNat)) 51 4 ((uS (uS (uS s 51 xt1.toNat xt2) 51 2 ((uS s 51 xt1.toNat xt2) (a1 + 4) x2.toNat)) 51 3 ((uS (uS s 51 xt1.toNat xt2) 51 2 ((uS s 51 xt1.toNat xt2) (a1 + 4) x2.toNat)) (a1 + 5) x2.toNat)) 44 7)) (fun r s' => ∃ v : Int, r = some (mI v) ∧ Wp X (d + 1) 120 79 [some (mR 50), some (mR a1), some (mI x2)] [mI v, mI 5, mR 51] s' Q)) : Wp X (d + 1) 120 22 [some (mR 50), some (mR a1), some (mI x2)] [mI xt2, mI xt1, mR 51] s Q := Wp_step k120 f120_22 (Wp_step k120 f120_23 ⟨11, af_51, h_1, Wp_step k120 f120_24 (Wp_step k120 f120_25 ⟨kf_50, 51, rf_50_1, Wp_step k120 f120_28 (Wp_step k120 f120_29 (Wp_step k120 f120_30 ⟨(bd_k h1), (a1 + 4), (bd_r9 h1), Wp_step k120 f120_33 (Wp_step k120 f120_34 ⟨6, (bd_a9 h1), h_2, Wp_step k120 f120_35 (Wp_step k120 f120_36 ⟨11, af_51, ⟨by decide, by decide⟩, Wp_step k120 f120_37 (Wp_step k120 f120_38 ⟨kf_50, 51, rf_50_1, Wp_step k120 f120_41 (Wp_step k120 f120_42 (Wp_step k120 f120_43 ⟨(bd_k h1), (a1 + 5), (bd_r10 h1), Wp_step k120 f120_46 (Wp_step k120 f120_47 ⟨6, (bd_a10 h1), h_3, Wp_step k120 f120_48 (Wp_step k120 f120_49 ⟨11, af_51, ⟨by decide, by decide⟩, Wp_step k120 f120_50 (Wp_step k120 f120_51 ⟨kf_50, 51, rf_50_1, Wp_step k120 f120_54 (Wp_step k120 f120_55 (Wp_step k120 f120_56 ⟨kf_50, 44, rf_50_0, Wp_step k120 f120_59 ⟨kf_44, Wp_step k120 f120_62 (Wp_step k120 f120_63 ⟨11, af_51, ⟨by decide, by decide⟩, Wp_step k120 f120_64 (Wp_step k120 f120_65 ⟨kf_50, 51, rf_50_1, Wp_step k120 f120_68 (Wp_step k120 f120_69 (Wp_step k120 f120_70 ⟨kf_50, 44, rf_50_0, Wp_step k120 f120_73 ⟨kf_44, Wp_step k120 f120_76 ⟨⟨Nat.le_of_ble_eq_true rfl, Nat.le_refl _⟩, _, rfl, Sp_E h_4⟩⟩⟩))⟩)⟩)⟩⟩))⟩)⟩)⟩)⟩))⟩)⟩)⟩)⟩))⟩)⟩)
theorem b120_79 {X : (Nat → Int) × Nat} {d : Nat} {s : mSt} {Q : mQ} {a1 : Nat} {x2 : Int} {xt1 : Int} {xt2 : Int} (h1 : isBd a1) (h_1 : 0 ≤ xt1 ∧ xt1 < 11) (h_2 : Sp X d 15 [mR a1, mI x2] (uS (uS s 51 xt1.toNat xt2) 51 6 ((uS s 51 xt1.toNat xt2) 44 10)) (fun r s' => ∃ v : Int, r = some (mI v) ∧ Wp X (d + 1) 120 107 [some (mR 50), some (mR a1), some (mI x2)] [mI v, mI 7, mR 51] s' Q)) : Wp X (d + 1) 120 79 [some (mR 50), some (mR a1), some (mI x2)] [mI xt2, mI xt1, mR 51] s Q := Wp_step k120 f120_79 (Wp_step k120 f120_80 ⟨11, af_51, h_1, Wp_step k120 f120_81 (Wp_step k120 f120_82 ⟨kf_50, 51, rf_50_1, Wp_step k120 f120_85 (Wp_step k120 f120_87 (Wp_step k120 f120_88 ⟨kf_50, 44, rf_50_0, Wp_step k120 f120_91 ⟨kf_44, Wp_step k120 f120_94 (Wp_step k120 f120_95 ⟨11, af_51, ⟨by decide, by decide⟩, Wp_step k120 f120_96 (Wp_step k120 f120_97 ⟨kf_50, 51, rf_50_1, Wp_step k120 f120_100 (Wp_step k120 f120_102 (Wp_step k120 f120_103 (Wp_step k120 f120_104 ⟨⟨(bd_k h1), Nat.le_of_ble_eq_true rfl⟩, Nat.le_refl _, _, rfl, Sp_E h_2⟩)))⟩)⟩)⟩⟩))⟩)⟩)
theorem b120_107 {X : (Nat → Int) × Nat} {d : Nat} {s : mSt} {Q : mQ} {a1 : Nat} {x2 : Int} {xt1 : Int} {xt2 : Int} (h1 : isBd a1) (h_1 : 0 ≤ xt1 ∧ xt1 < 11) (h_2 : Q none (uS s 51 xt1.toNat xt2)) : Wp X d 120 107 [some (mR 50), some (mR a1), some (mI x2)] [mI xt2, mI xt1, mR 51] s Q := Wp_step k120 f120_107 (Wp_step k120 f120_108 ⟨11, af_51, h_1, Wp_step k120 f120_109 ⟨⟨rfl, Or.inl rfl⟩, h_2⟩⟩)
theorem e120 {X : (Nat → Int) × Nat} {d : Nat} {s : mSt} {Q : mQ} {a1 : Nat} {x2 : Int} (h : Wp X d 120 0 [some (mR 50), some (mR a1), some (mI x2)] [] s Q) : Sp X d 120 [mR 50, mR a1, mI x2] s Q := Sp_of (show mCe 120 = 0 by decide +kernel) (by rw [show mML 120 = 3 by decide +kernel]; rfl) (Nat.le_trans (Nat.le_of_ble_eq_true (show Nat.ble (mArgs _).length 3 = true from rfl)) (show 3 ≤ mML 120 by decide +kernel)) h
-- 122 ClashDay.feed(IIIII)I
theorem k122 : mRk 122 = 1 := by decide +kernel
theorem f122_0 : mFetch 122 0 = some (.aload_n 0, 1, 0, 0, 0, 0) := by decide +kernel
theorem f122_1 : mFetch 122 1 = some (.getfield 12, 3, 11, 0, 2, 1) := by decide +kernel
theorem f122_4 : mFetch 122 4 = some (.bipush 20, 2, 0, 0, 0, 0) := by decide +kernel
theorem f122_6 : mFetch 122 6 = some (.invokevirtual 93, 3, 87, 0, 2, 8) := by decide +kernel
theorem f122_9 : mFetch 122 9 = some (.ifCond .ne 5, 3, 14, 0, 0, 0) := by decide +kernel
theorem f122_12 : mFetch 122 12 = some (.iconst (-1), 1, 0, 0, 0, 0) := by decide +kernel
theorem f122_13 : mFetch 122 13 = some (.ireturn, 1, 0, 0, 0, 0) := by decide +kernel
theorem f122_14 : mFetch 122 14 = some (.aload_n 0, 1, 0, 0, 0, 0) := by decide +kernel
theorem f122_15 : mFetch 122 15 = some (.getfield 12, 3, 11, 0, 2, 1) := by decide +kernel
theorem f122_18 : mFetch 122 18 = some (.iload_n 1, 1, 0, 0, 0, 0) := by decide +kernel
theorem f122_19 : mFetch 122 19 = some (.invokevirtual 97, 3, 88, 0, 2, 8) := by decide +kernel
theorem f122_22 : mFetch 122 22 = some (.aload_n 0, 1, 0, 0, 0, 0) := by decide +kernel
theorem f122_23 : mFetch 122 23 = some (.getfield 12, 3, 11, 0, 2, 1) := by decide +kernel
theorem f122_26 : mFetch 122 26 = some (.iload_n 2, 1, 0, 0, 0, 0) := by decide +kernel
theorem f122_27 : mFetch 122 27 = some (.invokevirtual 97, 3, 88, 0, 2, 8) := by decide +kernel
theorem f122_30 : mFetch 122 30 = some (.aload_n 0, 1, 0, 0, 0, 0) := by decide +kernel
theorem f122_31 : mFetch 122 31 = some (.getfield 12, 3, 11, 0, 2, 1) := by decide +kernel
theorem f122_34 : mFetch 122 34 = some (.iload_n 3, 1, 0, 0, 0, 0) := by decide +kernel
theorem f122_35 : mFetch 122 35 = some (.invokevirtual 97, 3, 88, 0, 2, 8) := by decide +kernel
theorem f122_38 : mFetch 122 38 = some (.aload_n 0, 1, 0, 0, 0, 0) := by decide +kernel
theorem f122_39 : mFetch 122 39 = some (.getfield 12, 3, 11, 0, 2, 1) := by decide +kernel
theorem f122_42 : mFetch 122 42 = some (.iload 4, 2, 0, 0, 0, 0) := by decide +kernel
theorem f122_44 : mFetch 122 44 = some (.invokevirtual 97, 3, 88, 0, 2, 8) := by decide +kernel
theorem f122_47 : mFetch 122 47 = some (.aload_n 0, 1, 0, 0, 0, 0) := by decide +kernel
theorem f122_48 : mFetch 122 48 = some (.getfield 12, 3, 11, 0, 2, 1) := by decide +kernel
theorem f122_51 : mFetch 122 51 = some (.iload 5, 2, 0, 0, 0, 0) := by decide +kernel
theorem f122_53 : mFetch 122 53 = some (.invokevirtual 97, 3, 88, 0, 2, 8) := by decide +kernel
theorem f122_56 : mFetch 122 56 = some (.aload_n 0, 1, 0, 0, 0, 0) := by decide +kernel
theorem f122_57 : mFetch 122 57 = some (.getfield 12, 3, 11, 0, 2, 1) := by decide +kernel
theorem f122_60 : mFetch 122 60 = some (.getfield 101, 3, 8, 1, 0, 0) := by decide +kernel
theorem f122_63 : mFetch 122 63 = some (.ireturn, 1, 0, 0, 0, 0) := by decide +kernel
theorem b122_0 {X : (Nat → Int) × Nat} {d : Nat} {s : mSt} {Q : mQ} {x1 : Int} {x2 : Int} {x3 : Int} {x4 : Int} {x5 : Int} (h_1 : Sp X d 87 [mR 1, mI 20] s (fun r s' => ∃ v : Int, r = some (mI v) ∧ Wp X (d + 1) 122 9 [some (mR 0), some (mI x1), some (mI x2), some (mI x3), some (mI x4), some (mI x5)] [mI v] s' Q)) : Wp X (d + 1) 122 0 [some (mR 0), some (mI x1), some (mI x2), some (mI x3), some (mI x4), some (mI x5)] [] s Q := Wp_step k122 f122_0 (Wp_step k122 f122_1 ⟨kf_0, 1, rf_0_0, Wp_step k122 f122_4 (Wp_step k122 f122_6 ⟨⟨kf_1, Nat.le_of_ble_eq_true rfl⟩, Nat.le_refl _, _, rfl, Sp_E h_1⟩)⟩)
theorem b122_9 {X : (Nat → Int) × Nat} {d : Nat} {s : mSt} {Q : mQ} {x1 : Int} {x2 : Int} {x3 : Int} {x4 : Int} {x5 : Int} {xt0 : Int} (h_1 : ¬ xt0 = 0 → Wp X d 122 14 [some (mR 0), some (mI x1), some (mI x2), some (mI x3), some (mI x4), some (mI x5)] [] s Q) (h_2 : xt0 = 0 → Wp X d 122 12 [some (mR 0), some (mI x1), some (mI x2), some (mI x3), some (mI x4), some (mI x5)] [] s Q) : Wp X d 122 9 [some (mR 0), some (mI x1), some (mI x2), some (mI x3), some (mI x4), some (mI x5)] [mI xt0] s Q := Wp_step k122 f122_9 ⟨h_1, h_2⟩
theorem b122_12 {X : (Nat → Int) × Nat} {d : Nat} {s : mSt} {Q : mQ} {x1 : Int} {x2 : Int} {x3 : Int} {x4 : Int} {x5 : Int} (h_1 : Q (some (mI (-1))) s) : Wp X d 122 12 [some (mR 0), some (mI x1), some (mI x2), some (mI x3), some (mI x4), some (mI x5)] [] s Q := Wp_step k122 f122_12 (Wp_step k122 f122_13 ⟨⟨rfl, trivial⟩, h_1⟩)
theorem b122_14 {X : (Nat → Int) × Nat} {d : Nat} {s : mSt} {Q : mQ} {x1 : Int} {x2 : Int} {x3 : Int} {x4 : Int} {x5 : Int} (h_1 : Sp X d 88 [mR 1, mI x1] s (fun r s' => r = none ∧ Wp X (d + 1) 122 22 [some (mR 0), some (mI x1), some (mI x2), some (mI x3), some (mI x4), some (mI x5)] [] s' Q)) : Wp X (d + 1) 122 14 [some (mR 0), some (mI x1), some (mI x2), some (mI x3), some (mI x4), some (mI x5)] [] s Q := Wp_step k122 f122_14 (Wp_step k122 f122_15 ⟨kf_0, 1, rf_0_0, Wp_step k122 f122_18 (Wp_step k122 f122_19 ⟨⟨kf_1, Nat.le_of_ble_eq_true rfl⟩, Nat.le_refl _, _, rfl, Sp_V h_1⟩)⟩)
theorem b122_22 {X : (Nat → Int) × Nat} {d : Nat} {s : mSt} {Q : mQ} {x1 : Int} {x2 : Int} {x3 : Int} {x4 : Int} {x5 : Int} (h_1 : Sp X d 88 [mR 1, mI x2] s (fun r s' => r = none ∧ Wp X (d + 1) 122 30 [some (mR 0), some (mI x1), some (mI x2), some (mI x3), some (mI x4), some (mI x5)] [] s' Q)) : Wp X (d + 1) 122 22 [some (mR 0), some (mI x1), some (mI x2), some (mI x3), some (mI x4), some (mI x5)] [] s Q := Wp_step k122 f122_22 (Wp_step k122 f122_23 ⟨kf_0, 1, rf_0_0, Wp_step k122 f122_26 (Wp_step k122 f122_27 ⟨⟨kf_1, Nat.le_of_ble_eq_true rfl⟩, Nat.le_refl _, _, rfl, Sp_V h_1⟩)⟩)
theorem b122_30 {X : (Nat → Int) × Nat} {d : Nat} {s : mSt} {Q : mQ} {x1 : Int} {x2 : Int} {x3 : Int} {x4 : Int} {x5 : Int} (h_1 : Sp X d 88 [mR 1, mI x3] s (fun r s' => r = none ∧ Wp X (d + 1) 122 38 [some (mR 0), some (mI x1), some (mI x2), some (mI x3), some (mI x4), some (mI x5)] [] s' Q)) : Wp X (d + 1) 122 30 [some (mR 0), some (mI x1), some (mI x2), some (mI x3), some (mI x4), some (mI x5)] [] s Q := Wp_step k122 f122_30 (Wp_step k122 f122_31 ⟨kf_0, 1, rf_0_0, Wp_step k122 f122_34 (Wp_step k122 f122_35 ⟨⟨kf_1, Nat.le_of_ble_eq_true rfl⟩, Nat.le_refl _, _, rfl, Sp_V h_1⟩)⟩)
theorem b122_38 {X : (Nat → Int) × Nat} {d : Nat} {s : mSt} {Q : mQ} {x1 : Int} {x2 : Int} {x3 : Int} {x4 : Int} {x5 : Int} (h_1 : Sp X d 88 [mR 1, mI x4] s (fun r s' => r = none ∧ Wp X (d + 1) 122 47 [some (mR 0), some (mI x1), some (mI x2), some (mI x3), some (mI x4), some (mI x5)] [] s' Q)) : Wp X (d + 1) 122 38 [some (mR 0), some (mI x1), some (mI x2), some (mI x3), some (mI x4), some (mI x5)] [] s Q := Wp_step k122 f122_38 (Wp_step k122 f122_39 ⟨kf_0, 1, rf_0_0, Wp_step k122 f122_42 (Wp_step k122 f122_44 ⟨⟨kf_1, Nat.le_of_ble_eq_true rfl⟩, Nat.le_refl _, _, rfl, Sp_V h_1⟩)⟩)
theorem b122_47 {X : (Nat → Int) × Nat} {d : Nat} {s : mSt} {Q : mQ} {x1 : Int} {x2 : Int} {x3 : Int} {x4 : Int} {x5 : Int} (h_1 : Sp X d 88 [mR 1, mI x5] s (fun r s' => r = none ∧ Wp X (d + 1) 122 56 [some (mR 0), some (mI x1), some (mI x2), some (mI x3), some (mI x4), some (mI x5)] [] s' Q)) : Wp X (d + 1) 122 47 [some (mR 0), some (mI x1), some (mI x2), some (mI x3), some (mI x4), some (mI x5)] [] s Q := Wp_step k122 f122_47 (Wp_step k122 f122_48 ⟨kf_0, 1, rf_0_0, Wp_step k122 f122_51 (Wp_step k122 f122_53 ⟨⟨kf_1, Nat.le_of_ble_eq_true rfl⟩, Nat.le_refl _, _, rfl, Sp_V h_1⟩)⟩)
theorem b122_56 {X : (Nat → Int) × Nat} {d : Nat} {s : mSt} {Q : mQ} {x1 : Int} {x2 : Int} {x3 : Int} {x4 : Int} {x5 : Int} (h_1 : Q (some (mI (s 1 1))) s) : Wp X d 122 56 [some (mR 0), some (mI x1), some (mI x2), some (mI x3), some (mI x4), some (mI x5)] [] s Q := Wp_step k122 f122_56 (Wp_step k122 f122_57 ⟨kf_0, 1, rf_0_0, Wp_step k122 f122_60 ⟨kf_1, Wp_step k122 f122_63 ⟨⟨rfl, trivial⟩, h_1⟩⟩⟩)
theorem e122 {X : (Nat → Int) × Nat} {d : Nat} {s : mSt} {Q : mQ} {x1 : Int} {x2 : Int} {x3 : Int} {x4 : Int} {x5 : Int} (h : Wp X d 122 0 [some (mR 0), some (mI x1), some (mI x2), some (mI x3), some (mI x4), some (mI x5)] [] s Q) : Sp X d 122 [mR 0, mI x1, mI x2, mI x3, mI x4, mI x5] s Q := Sp_of (show mCe 122 = 0 by decide +kernel) (by rw [show mML 122 = 6 by decide +kernel]; rfl) (Nat.le_trans (Nat.le_of_ble_eq_true (show Nat.ble (mArgs _).length 6 = true from rfl)) (show 6 ≤ mML 122 by decide +kernel)) h
-- 123 ClashDay.end(I)I
theorem k123 : mRk 123 = 1 := by decide +kernel
theorem f123_0 : mFetch 123 0 = some (.iload_n 1, 1, 0, 0, 0, 0) := by decide +kernel
theorem f123_1 : mFetch 123 1 = some (.ifCond .lt 14, 3, 15, 0, 0, 0) := by decide +kernel
theorem f123_4 : mFetch 123 4 = some (.iload_n 1, 1, 0, 0, 0, 0) := by decide +kernel
theorem f123_5 : mFetch 123 5 = some (.aload_n 0, 1, 0, 0, 0, 0) := by decide +kernel
theorem f123_6 : mFetch 123 6 = some (.getfield 12, 3, 11, 0, 2, 1) := by decide +kernel
theorem f123_9 : mFetch 123 9 = some (.getfield 101, 3, 8, 1, 0, 0) := by decide +kernel
theorem f123_12 : mFetch 123 12 = some (.if_icmp .le 5, 3, 17, 0, 0, 0) := by decide +kernel
theorem f123_15 : mFetch 123 15 = some (.iconst (-1), 1, 0, 0, 0, 0) := by decide +kernel
theorem f123_16 : mFetch 123 16 = some (.ireturn, 1, 0, 0, 0, 0) := by decide +kernel
theorem f123_17 : mFetch 123 17 = some (.aload_n 0, 1, 0, 0, 0, 0) := by decide +kernel
theorem f123_18 : mFetch 123 18 = some (.getfield 12, 3, 11, 0, 2, 1) := by decide +kernel
theorem f123_21 : mFetch 123 21 = some (.iload_n 1, 1, 0, 0, 0, 0) := by decide +kernel
theorem f123_22 : mFetch 123 22 = some (.putfield 101, 3, 8, 1, 0, 0) := by decide +kernel
theorem f123_25 : mFetch 123 25 = some (.iload_n 1, 1, 0, 0, 0, 0) := by decide +kernel
theorem f123_26 : mFetch 123 26 = some (.ireturn, 1, 0, 0, 0, 0) := by decide +kernel
theorem b123_0 {X : (Nat → Int) × Nat} {d : Nat} {s : mSt} {Q : mQ} {x1 : Int} (h_1 : x1 < 0 → Wp X d 123 15 [some (mR 0), some (mI x1)] [] s Q) (h_2 : ¬ x1 < 0 → Wp X d 123 4 [some (mR 0), some (mI x1)] [] s Q) : Wp X d 123 0 [some (mR 0), some (mI x1)] [] s Q := Wp_step k123 f123_0 (Wp_step k123 f123_1 ⟨h_1, h_2⟩)
theorem b123_4 {X : (Nat → Int) × Nat} {d : Nat} {s : mSt} {Q : mQ} {x1 : Int} (h_1 : x1 ≤ (s 1 1) → Wp X d 123 17 [some (mR 0), some (mI x1)] [] s Q) (h_2 : ¬ x1 ≤ (s 1 1) → Wp X d 123 15 [some (mR 0), some (mI x1)] [] s Q) : Wp X d 123 4 [some (mR 0), some (mI x1)] [] s Q := Wp_step k123 f123_4 (Wp_step k123 f123_5 (Wp_step k123 f123_6 ⟨kf_0, 1, rf_0_0, Wp_step k123 f123_9 ⟨kf_1, Wp_step k123 f123_12 ⟨h_1, h_2⟩⟩⟩))
theorem b123_15 {X : (Nat → Int) × Nat} {d : Nat} {s : mSt} {Q : mQ} {x1 : Int} (h_1 : Q (some (mI (-1))) s) : Wp X d 123 15 [some (mR 0), some (mI x1)] [] s Q := Wp_step k123 f123_15 (Wp_step k123 f123_16 ⟨⟨rfl, trivial⟩, h_1⟩)
theorem b123_17 {X : (Nat → Int) × Nat} {d : Nat} {s : mSt} {Q : mQ} {x1 : Int} (h_1 : Q (some (mI x1)) (uS s 1 1 x1)) : Wp X d 123 17 [some (mR 0), some (mI x1)] [] s Q := Wp_step k123 f123_17 (Wp_step k123 f123_18 ⟨kf_0, 1, rf_0_0, Wp_step k123 f123_21 (Wp_step k123 f123_22 ⟨kf_1, Wp_step k123 f123_25 (Wp_step k123 f123_26 ⟨⟨rfl, trivial⟩, h_1⟩)⟩)⟩)
theorem e123 {X : (Nat → Int) × Nat} {d : Nat} {s : mSt} {Q : mQ} {x1 : Int} (h : Wp X d 123 0 [some (mR 0), some (mI x1)] [] s Q) : Sp X d 123 [mR 0, mI x1] s Q := Sp_of (show mCe 123 = 0 by decide +kernel) (by rw [show mML 123 = 2 by decide +kernel]; rfl) (Nat.le_trans (Nat.le_of_ble_eq_true (show Nat.ble (mArgs _).length 2 = true from rfl)) (show 2 ≤ mML 123 by decide +kernel)) h
-- 124 ClashDay.day()I
theorem k124 : mRk 124 = 1 := by decide +kernel
theorem f124_0 : mFetch 124 0 = some (.aload_n 0, 1, 0, 0, 0, 0) := by decide +kernel
theorem f124_1 : mFetch 124 1 = some (.getfield 21, 3, 11, 1, 2, 1) := by decide +kernel
theorem f124_4 : mFetch 124 4 = some (.aload_n 0, 1, 0, 0, 0, 0) := by decide +kernel
theorem f124_5 : mFetch 124 5 = some (.getfield 56, 3, 11, 9, 2, 1) := by decide +kernel
theorem f124_8 : mFetch 124 8 = some (.invokevirtual 105, 3, 34, 0, 2, 1) := by decide +kernel
theorem f124_11 : mFetch 124 11 = some (.istore_n 1, 1, 0, 0, 0, 0) := by decide +kernel
theorem f124_12 : mFetch 124 12 = some (.aload_n 0, 1, 0, 0, 0, 0) := by decide +kernel
theorem f124_13 : mFetch 124 13 = some (.getfield 12, 3, 11, 0, 2, 1) := by decide +kernel
theorem f124_16 : mFetch 124 16 = some (.iconst 0, 1, 0, 0, 0, 0) := by decide +kernel
theorem f124_17 : mFetch 124 17 = some (.putfield 101, 3, 8, 1, 0, 0) := by decide +kernel
theorem f124_20 : mFetch 124 20 = some (.iload_n 1, 1, 0, 0, 0, 0) := by decide +kernel
theorem f124_21 : mFetch 124 21 = some (.ifCond .eq 8, 3, 29, 0, 0, 0) := by decide +kernel
theorem f124_24 : mFetch 124 24 = some (.bipush (-2), 2, 0, 0, 0, 0) := by decide +kernel
theorem f124_26 : mFetch 124 26 = some (.iload_n 1, 1, 0, 0, 0, 0) := by decide +kernel
theorem f124_27 : mFetch 124 27 = some (.isub, 1, 0, 0, 0, 0) := by decide +kernel
theorem f124_28 : mFetch 124 28 = some (.ireturn, 1, 0, 0, 0, 0) := by decide +kernel
theorem f124_29 : mFetch 124 29 = some (.aload_n 0, 1, 0, 0, 0, 0) := by decide +kernel
theorem f124_30 : mFetch 124 30 = some (.getfield 41, 3, 11, 5, 2, 1) := by decide +kernel
theorem f124_33 : mFetch 124 33 = some (.getfield 109, 3, 7, 0, 2, 0) := by decide +kernel
theorem f124_36 : mFetch 124 36 = some (.aload_n 0, 1, 0, 0, 0, 0) := by decide +kernel
theorem f124_37 : mFetch 124 37 = some (.getfield 56, 3, 11, 9, 2, 1) := by decide +kernel
theorem f124_40 : mFetch 124 40 = some (.invokevirtual 112, 3, 3, 0, 2, 0) := by decide +kernel
theorem f124_43 : mFetch 124 43 = some (.aload_n 0, 1, 0, 0, 0, 0) := by decide +kernel
theorem f124_44 : mFetch 124 44 = some (.getfield 41, 3, 11, 5, 2, 1) := by decide +kernel
theorem f124_47 : mFetch 124 47 = some (.getfield 116, 3, 7, 1, 2, 0) := by decide +kernel
theorem f124_50 : mFetch 124 50 = some (.aload_n 0, 1, 0, 0, 0, 0) := by decide +kernel
theorem f124_51 : mFetch 124 51 = some (.getfield 56, 3, 11, 9, 2, 1) := by decide +kernel
theorem f124_54 : mFetch 124 54 = some (.invokevirtual 112, 3, 3, 0, 2, 0) := by decide +kernel
theorem f124_57 : mFetch 124 57 = some (.aload_n 0, 1, 0, 0, 0, 0) := by decide +kernel
theorem f124_58 : mFetch 124 58 = some (.getfield 41, 3, 11, 5, 2, 1) := by decide +kernel
theorem f124_61 : mFetch 124 61 = some (.getfield 119, 3, 7, 2, 2, 0) := by decide +kernel
theorem f124_64 : mFetch 124 64 = some (.iconst 0, 1, 0, 0, 0, 0) := by decide +kernel
theorem f124_65 : mFetch 124 65 = some (.putfield 123, 3, 3, 0, 0, 0) := by decide +kernel
theorem f124_68 : mFetch 124 68 = some (.aload_n 0, 1, 0, 0, 0, 0) := by decide +kernel
theorem f124_69 : mFetch 124 69 = some (.iconst 0, 1, 0, 0, 0, 0) := by decide +kernel
theorem f124_70 : mFetch 124 70 = some (.putfield 126, 3, 11, 8, 0, 1) := by decide +kernel
theorem f124_73 : mFetch 124 73 = some (.aload_n 0, 1, 0, 0, 0, 0) := by decide +kernel
theorem f124_74 : mFetch 124 74 = some (.getfield 41, 3, 11, 5, 2, 1) := by decide +kernel
theorem f124_77 : mFetch 124 77 = some (.getfield 116, 3, 7, 1, 2, 0) := by decide +kernel
theorem f124_80 : mFetch 124 80 = some (.getfield 129, 3, 0, 3, 0, 0) := by decide +kernel
theorem f124_83 : mFetch 124 83 = some (.ireturn, 1, 0, 0, 0, 0) := by decide +kernel
theorem b124_0 {X : (Nat → Int) × Nat} {d : Nat} {s : mSt} {Q : mQ} {l1 : Option mV} (h_1 : Sp X d 34 [mR 3, mR 34] s (fun r s' => ∃ v : Int, r = some (mI v) ∧ Wp X (d + 1) 124 11 [some (mR 0), l1] [mI v] s' Q)) : Wp X (d + 1) 124 0 [some (mR 0), l1] [] s Q := Wp_step k124 f124_0 (Wp_step k124 f124_1 ⟨kf_0, 3, rf_0_1, Wp_step k124 f124_4 (Wp_step k124 f124_5 ⟨kf_0, 34, rf_0_9, Wp_step k124 f124_8 ⟨⟨kf_3, Nat.le_of_ble_eq_true rfl⟩, Nat.le_refl _, _, rfl, Sp_E h_1⟩⟩)⟩)
theorem b124_11 {X : (Nat → Int) × Nat} {d : Nat} {s : mSt} {Q : mQ} {l1 : Option mV} {xt0 : Int} (h_1 : xt0 = 0 → Wp X d 124 29 [some (mR 0), some (mI xt0)] [] (uS s 1 1 0) Q) (h_2 : ¬ xt0 = 0 → Wp X d 124 24 [some (mR 0), some (mI xt0)] [] (uS s 1 1 0) Q) : Wp X d 124 11 [some (mR 0), l1] [mI xt0] s Q := Wp_step k124 f124_11 (Wp_step k124 f124_12 (Wp_step k124 f124_13 ⟨kf_0, 1, rf_0_0, Wp_step k124 f124_16 (Wp_step k124 f124_17 ⟨kf_1, Wp_step k124 f124_20 (Wp_step k124 f124_21 ⟨h_1, h_2⟩)⟩)⟩))
theorem b124_24 {X : (Nat → Int) × Nat} {d : Nat} {s : mSt} {Q : mQ} {x1 : Int} (h_1 : Q (some (mI (w32 ((-2) - x1)))) s) : Wp X d 124 24 [some (mR 0), some (mI x1)] [] s Q := Wp_step k124 f124_24 (Wp_step k124 f124_26 (Wp_step k124 f124_27 (Wp_step k124 f124_28 ⟨⟨rfl, trivial⟩, h_1⟩)))
theorem b124_29 {X : (Nat → Int) × Nat} {d : Nat} {s : mSt} {Q : mQ} {x1 : Int} (h_1 : Sp X d 3 [mR 8, mR 34] s (fun r s' => r = none ∧ Wp X (d + 1) 124 43 [some (mR 0), some (mI x1)] [] s' Q)) : Wp X (d + 1) 124 29 [some (mR 0), some (mI x1)] [] s Q := Wp_step k124 f124_29 (Wp_step k124 f124_30 ⟨kf_0, 7, rf_0_5, Wp_step k124 f124_33 ⟨kf_7, 8, rf_7_0, Wp_step k124 f124_36 (Wp_step k124 f124_37 ⟨kf_0, 34, rf_0_9, Wp_step k124 f124_40 ⟨⟨kf_8, Nat.le_of_ble_eq_true rfl⟩, Nat.le_refl _, _, rfl, Sp_V h_1⟩⟩)⟩⟩)
theorem b124_43 {X : (Nat → Int) × Nat} {d : Nat} {s : mSt} {Q : mQ} {x1 : Int} (h_1 : Sp X d 3 [mR 18, mR 34] s (fun r s' => r = none ∧ Wp X (d + 1) 124 57 [some (mR 0), some (mI x1)] [] s' Q)) : Wp X (d + 1) 124 43 [some (mR 0), some (mI x1)] [] s Q := Wp_step k124 f124_43 (Wp_step k124 f124_44 ⟨kf_0, 7, rf_0_5, Wp_step k124 f124_47 ⟨kf_7, 18, rf_7_1, Wp_step k124 f124_50 (Wp_step k124 f124_51 ⟨kf_0, 34, rf_0_9, Wp_step k124 f124_54 ⟨⟨kf_18, Nat.le_of_ble_eq_true rfl⟩, Nat.le_refl _, _, rfl, Sp_V h_1⟩⟩)⟩⟩)
theorem b124_57 {X : (Nat → Int) × Nat} {d : Nat} {s : mSt} {Q : mQ} {x1 : Int} (h_1 : Q (some (mI ((uS (uS s 28 0 0) 0 8 0) 18 3))) (uS (uS s 28 0 0) 0 8 0)) : Wp X d 124 57 [some (mR 0), some (mI x1)] [] s Q := Wp_step k124 f124_57 (Wp_step k124 f124_58 ⟨kf_0, 7, rf_0_5, Wp_step k124 f124_61 ⟨kf_7, 28, rf_7_2, Wp_step k124 f124_64 (Wp_step k124 f124_65 ⟨kf_28, Wp_step k124 f124_68 (Wp_step k124 f124_69 (Wp_step k124 f124_70 ⟨kf_0, Wp_step k124 f124_73 (Wp_step k124 f124_74 ⟨kf_0, 7, rf_0_5, Wp_step k124 f124_77 ⟨kf_7, 18, rf_7_1, Wp_step k124 f124_80 ⟨kf_18, Wp_step k124 f124_83 ⟨⟨rfl, trivial⟩, h_1⟩⟩⟩⟩)⟩))⟩)⟩⟩)
theorem e124 {X : (Nat → Int) × Nat} {d : Nat} {s : mSt} {Q : mQ} (h : Wp X d 124 0 [some (mR 0), none] [] s Q) : Sp X d 124 [mR 0] s Q := Sp_of (show mCe 124 = 0 by decide +kernel) (by rw [show mML 124 = 2 by decide +kernel]; rfl) (Nat.le_trans (Nat.le_of_ble_eq_true (show Nat.ble (mArgs _).length 2 = true from rfl)) (show 2 ≤ mML 124 by decide +kernel)) h
-- 125 ClashDay.rule()I
theorem k125 : mRk 125 = 1 := by decide +kernel
theorem f125_0 : mFetch 125 0 = some (.aload_n 0, 1, 0, 0, 0, 0) := by decide +kernel
theorem f125_1 : mFetch 125 1 = some (.getfield 132, 3, 11, 4, 0, 1) := by decide +kernel
theorem f125_4 : mFetch 125 4 = some (.bipush 6, 2, 0, 0, 0, 0) := by decide +kernel
theorem f125_6 : mFetch 125 6 = some (.if_icmp .lt 5, 3, 11, 0, 0, 0) := by decide +kernel
theorem f125_9 : mFetch 125 9 = some (.iconst (-1), 1, 0, 0, 0, 0) := by decide +kernel
theorem f125_10 : mFetch 125 10 = some (.ireturn, 1, 0, 0, 0, 0) := by decide +kernel
theorem f125_11 : mFetch 125 11 = some (.aload_n 0, 1, 0, 0, 0, 0) := by decide +kernel
theorem f125_12 : mFetch 125 12 = some (.getfield 28, 3, 11, 2, 2, 1) := by decide +kernel
theorem f125_15 : mFetch 125 15 = some (.aload_n 0, 1, 0, 0, 0, 0) := by decide +kernel
theorem f125_16 : mFetch 125 16 = some (.getfield 34, 3, 11, 3, 2, 1) := by decide +kernel
theorem f125_19 : mFetch 125 19 = some (.aload_n 0, 1, 0, 0, 0, 0) := by decide +kernel
theorem f125_20 : mFetch 125 20 = some (.getfield 132, 3, 11, 4, 0, 1) := by decide +kernel
theorem f125_23 : mFetch 125 23 = some (.aaload, 1, 0, 0, 0, 0) := by decide +kernel
theorem f125_24 : mFetch 125 24 = some (.invokevirtual 135, 3, 78, 0, 2, 6) := by decide +kernel
theorem f125_27 : mFetch 125 27 = some (.istore_n 1, 1, 0, 0, 0, 0) := by decide +kernel
theorem f125_28 : mFetch 125 28 = some (.aload_n 0, 1, 0, 0, 0, 0) := by decide +kernel
theorem f125_29 : mFetch 125 29 = some (.getfield 12, 3, 11, 0, 2, 1) := by decide +kernel
theorem f125_32 : mFetch 125 32 = some (.iconst 0, 1, 0, 0, 0, 0) := by decide +kernel
theorem f125_33 : mFetch 125 33 = some (.putfield 101, 3, 8, 1, 0, 0) := by decide +kernel
theorem f125_36 : mFetch 125 36 = some (.iload_n 1, 1, 0, 0, 0, 0) := by decide +kernel
theorem f125_37 : mFetch 125 37 = some (.ifCond .eq 8, 3, 45, 0, 0, 0) := by decide +kernel
theorem f125_40 : mFetch 125 40 = some (.bipush (-2), 2, 0, 0, 0, 0) := by decide +kernel
theorem f125_42 : mFetch 125 42 = some (.iload_n 1, 1, 0, 0, 0, 0) := by decide +kernel
theorem f125_43 : mFetch 125 43 = some (.isub, 1, 0, 0, 0, 0) := by decide +kernel
theorem f125_44 : mFetch 125 44 = some (.ireturn, 1, 0, 0, 0, 0) := by decide +kernel
theorem f125_45 : mFetch 125 45 = some (.aload_n 0, 1, 0, 0, 0, 0) := by decide +kernel
theorem f125_46 : mFetch 125 46 = some (.dup, 1, 0, 0, 0, 0) := by decide +kernel
theorem f125_47 : mFetch 125 47 = some (.getfield 132, 3, 11, 4, 0, 1) := by decide +kernel
theorem f125_50 : mFetch 125 50 = some (.iconst 1, 1, 0, 0, 0, 0) := by decide +kernel
theorem f125_51 : mFetch 125 51 = some (.iadd, 1, 0, 0, 0, 0) := by decide +kernel
theorem f125_52 : mFetch 125 52 = some (.putfield 132, 3, 11, 4, 0, 1) := by decide +kernel
theorem f125_55 : mFetch 125 55 = some (.aload_n 0, 1, 0, 0, 0, 0) := by decide +kernel
theorem f125_56 : mFetch 125 56 = some (.getfield 132, 3, 11, 4, 0, 1) := by decide +kernel
theorem f125_59 : mFetch 125 59 = some (.iconst 1, 1, 0, 0, 0, 0) := by decide +kernel
theorem f125_60 : mFetch 125 60 = some (.isub, 1, 0, 0, 0, 0) := by decide +kernel
theorem f125_61 : mFetch 125 61 = some (.ireturn, 1, 0, 0, 0, 0) := by decide +kernel
theorem b125_0 {X : (Nat → Int) × Nat} {d : Nat} {s : mSt} {Q : mQ} {l1 : Option mV} (h_1 : (s 0 4) < 6 → Wp X d 125 11 [some (mR 0), l1] [] s Q) (h_2 : ¬ (s 0 4) < 6 → Wp X d 125 9 [some (mR 0), l1] [] s Q) : Wp X d 125 0 [some (mR 0), l1] [] s Q := Wp_step k125 f125_0 (Wp_step k125 f125_1 ⟨kf_0, Wp_step k125 f125_4 (Wp_step k125 f125_6 ⟨h_1, h_2⟩)⟩)
theorem b125_9 {X : (Nat → Int) × Nat} {d : Nat} {s : mSt} {Q : mQ} {l1 : Option mV} (h_1 : Q (some (mI (-1))) s) : Wp X d 125 9 [some (mR 0), l1] [] s Q := Wp_step k125 f125_9 (Wp_step k125 f125_10 ⟨⟨rfl, trivial⟩, h_1⟩)
theorem b125_11 {X : (Nat → Int) × Nat} {d : Nat} {s : mSt} {Q : mQ} {l1 : Option mV} {r1 : Nat} (hr1 : isRl r1) (h_1 : 0 ≤ (s 0 4) ∧ (s 0 4) < 6) (h_2 : s 6 (s 0 4).toNat = (r1 : Int)) (h_3 : Sp X d 78 [mR 5, mR r1] s (fun r s' => ∃ v : Int, r = some (mI v) ∧ Wp X (d + 1) 125 27 [some (mR 0), l1] [mI v] s' Q)) : Wp X (d + 1) 125 11 [some (mR 0), l1] [] s Q := Wp_step k125 f125_11 (Wp_step k125 f125_12 ⟨kf_0, 5, rf_0_2, Wp_step k125 f125_15 (Wp_step k125 f125_16 ⟨kf_0, 6, rf_0_3, Wp_step k125 f125_19 (Wp_step k125 f125_20 ⟨kf_0, Wp_step k125 f125_23 ⟨26, 6, af_6, ⟨by decide, by decide⟩, h_1, r1, h_2, Wp_step k125 f125_24 ⟨⟨kf_5, Nat.le_of_ble_eq_true rfl⟩, Nat.le_refl _, _, rfl, Sp_E h_3⟩⟩⟩)⟩)⟩)
theorem b125_27 {X : (Nat → Int) × Nat} {d : Nat} {s : mSt} {Q : mQ} {l1 : Option mV} {xt0 : Int} (h_1 : xt0 = 0 → Wp X d 125 45 [some (mR 0), some (mI xt0)] [] (uS s 1 1 0) Q) (h_2 : ¬ xt0 = 0 → Wp X d 125 40 [some (mR 0), some (mI xt0)] [] (uS s 1 1 0) Q) : Wp X d 125 27 [some (mR 0), l1] [mI xt0] s Q := Wp_step k125 f125_27 (Wp_step k125 f125_28 (Wp_step k125 f125_29 ⟨kf_0, 1, rf_0_0, Wp_step k125 f125_32 (Wp_step k125 f125_33 ⟨kf_1, Wp_step k125 f125_36 (Wp_step k125 f125_37 ⟨h_1, h_2⟩)⟩)⟩))
theorem b125_40 {X : (Nat → Int) × Nat} {d : Nat} {s : mSt} {Q : mQ} {x1 : Int} (h_1 : Q (some (mI (w32 ((-2) - x1)))) s) : Wp X d 125 40 [some (mR 0), some (mI x1)] [] s Q := Wp_step k125 f125_40 (Wp_step k125 f125_42 (Wp_step k125 f125_43 (Wp_step k125 f125_44 ⟨⟨rfl, trivial⟩, h_1⟩)))
theorem b125_45 {X : (Nat → Int) × Nat} {d : Nat} {s : mSt} {Q : mQ} {x1 : Int} (h_1 : Q (some (mI (w32 (((uS s 0 4 (w32 ((s 0 4) + 1))) 0 4) - 1)))) (uS s 0 4 (w32 ((s 0 4) + 1)))) : Wp X d 125 45 [some (mR 0), some (mI x1)] [] s Q := Wp_step k125 f125_45 (Wp_step k125 f125_46 (Wp_step k125 f125_47 ⟨kf_0, Wp_step k125 f125_50 (Wp_step k125 f125_51 (Wp_step k125 f125_52 ⟨kf_0, Wp_step k125 f125_55 (Wp_step k125 f125_56 ⟨kf_0, Wp_step k125 f125_59 (Wp_step k125 f125_60 (Wp_step k125 f125_61 ⟨⟨rfl, trivial⟩, h_1⟩))⟩)⟩))⟩))
theorem e125 {X : (Nat → Int) × Nat} {d : Nat} {s : mSt} {Q : mQ} (h : Wp X d 125 0 [some (mR 0), none] [] s Q) : Sp X d 125 [mR 0] s Q := Sp_of (show mCe 125 = 0 by decide +kernel) (by rw [show mML 125 = 2 by decide +kernel]; rfl) (Nat.le_trans (Nat.le_of_ble_eq_true (show Nat.ble (mArgs _).length 2 = true from rfl)) (show 2 ≤ mML 125 by decide +kernel)) h
-- 126 ClashDay.force(I)I
theorem k126 : mRk 126 = 1 := by decide +kernel
theorem f126_0 : mFetch 126 0 = some (.iload_n 1, 1, 0, 0, 0, 0) := by decide +kernel
theorem f126_1 : mFetch 126 1 = some (.iconst (-1), 1, 0, 0, 0, 0) := by decide +kernel
theorem f126_2 : mFetch 126 2 = some (.if_icmp .lt 11, 3, 13, 0, 0, 0) := by decide +kernel
theorem f126_5 : mFetch 126 5 = some (.iload_n 1, 1, 0, 0, 0, 0) := by decide +kernel
theorem f126_6 : mFetch 126 6 = some (.aload_n 0, 1, 0, 0, 0, 0) := by decide +kernel
theorem f126_7 : mFetch 126 7 = some (.getfield 132, 3, 11, 4, 0, 1) := by decide +kernel
theorem f126_10 : mFetch 126 10 = some (.if_icmp .lt 6, 3, 16, 0, 0, 0) := by decide +kernel
theorem f126_13 : mFetch 126 13 = some (.bipush (-2), 2, 0, 0, 0, 0) := by decide +kernel
theorem f126_15 : mFetch 126 15 = some (.ireturn, 1, 0, 0, 0, 0) := by decide +kernel
theorem f126_16 : mFetch 126 16 = some (.aload_n 0, 1, 0, 0, 0, 0) := by decide +kernel
theorem f126_17 : mFetch 126 17 = some (.getfield 41, 3, 11, 5, 2, 1) := by decide +kernel
theorem f126_20 : mFetch 126 20 = some (.getfield 138, 3, 7, 3, 0, 0) := by decide +kernel
theorem f126_23 : mFetch 126 23 = some (.istore_n 2, 1, 0, 0, 0, 0) := by decide +kernel
theorem f126_24 : mFetch 126 24 = some (.aload_n 0, 1, 0, 0, 0, 0) := by decide +kernel
theorem f126_25 : mFetch 126 25 = some (.getfield 41, 3, 11, 5, 2, 1) := by decide +kernel
theorem f126_28 : mFetch 126 28 = some (.iload_n 1, 1, 0, 0, 0, 0) := by decide +kernel
theorem f126_29 : mFetch 126 29 = some (.putfield 138, 3, 7, 3, 0, 0) := by decide +kernel
theorem f126_32 : mFetch 126 32 = some (.iload_n 2, 1, 0, 0, 0, 0) := by decide +kernel
theorem f126_33 : mFetch 126 33 = some (.ireturn, 1, 0, 0, 0, 0) := by decide +kernel
theorem b126_0 {X : (Nat → Int) × Nat} {d : Nat} {s : mSt} {Q : mQ} {x1 : Int} {l2 : Option mV} (h_1 : x1 < (-1) → Wp X d 126 13 [some (mR 0), some (mI x1), l2] [] s Q) (h_2 : ¬ x1 < (-1) → Wp X d 126 5 [some (mR 0), some (mI x1), l2] [] s Q) : Wp X d 126 0 [some (mR 0), some (mI x1), l2] [] s Q := Wp_step k126 f126_0 (Wp_step k126 f126_1 (Wp_step k126 f126_2 ⟨h_1, h_2⟩))
theorem b126_5 {X : (Nat → Int) × Nat} {d : Nat} {s : mSt} {Q : mQ} {x1 : Int} {l2 : Option mV} (h_1 : x1 < (s 0 4) → Wp X d 126 16 [some (mR 0), some (mI x1), l2] [] s Q) (h_2 : ¬ x1 < (s 0 4) → Wp X d 126 13 [some (mR 0), some (mI x1), l2] [] s Q) : Wp X d 126 5 [some (mR 0), some (mI x1), l2] [] s Q := Wp_step k126 f126_5 (Wp_step k126 f126_6 (Wp_step k126 f126_7 ⟨kf_0, Wp_step k126 f126_10 ⟨h_1, h_2⟩⟩))
theorem b126_13 {X : (Nat → Int) × Nat} {d : Nat} {s : mSt} {Q : mQ} {x1 : Int} {l2 : Option mV} (h_1 : Q (some (mI (-2))) s) : Wp X d 126 13 [some (mR 0), some (mI x1), l2] [] s Q := Wp_step k126 f126_13 (Wp_step k126 f126_15 ⟨⟨rfl, trivial⟩, h_1⟩)
theorem b126_16 {X : (Nat → Int) × Nat} {d : Nat} {s : mSt} {Q : mQ} {x1 : Int} {l2 : Option mV} (h_1 : Q (some (mI (s 7 3))) (uS s 7 3 x1)) : Wp X d 126 16 [some (mR 0), some (mI x1), l2] [] s Q := Wp_step k126 f126_16 (Wp_step k126 f126_17 ⟨kf_0, 7, rf_0_5, Wp_step k126 f126_20 ⟨kf_7, Wp_step k126 f126_23 (Wp_step k126 f126_24 (Wp_step k126 f126_25 ⟨kf_0, 7, rf_0_5, Wp_step k126 f126_28 (Wp_step k126 f126_29 ⟨kf_7, Wp_step k126 f126_32 (Wp_step k126 f126_33 ⟨⟨rfl, trivial⟩, h_1⟩)⟩)⟩))⟩⟩)
theorem e126 {X : (Nat → Int) × Nat} {d : Nat} {s : mSt} {Q : mQ} {x1 : Int} (h : Wp X d 126 0 [some (mR 0), some (mI x1), none] [] s Q) : Sp X d 126 [mR 0, mI x1] s Q := Sp_of (show mCe 126 = 0 by decide +kernel) (by rw [show mML 126 = 3 by decide +kernel]; rfl) (Nat.le_trans (Nat.le_of_ble_eq_true (show Nat.ble (mArgs _).length 3 = true from rfl)) (show 3 ≤ mML 126 by decide +kernel)) h
-- 127 ClashDay.paper(II)I
theorem k127 : mRk 127 = 1 := by decide +kernel
theorem f127_0 : mFetch 127 0 = some (.aload_n 0, 1, 0, 0, 0, 0) := by decide +kernel
theorem f127_1 : mFetch 127 1 = some (.getfield 41, 3, 11, 5, 2, 1) := by decide +kernel
theorem f127_4 : mFetch 127 4 = some (.getfield 116, 3, 7, 1, 2, 0) := by decide +kernel
theorem f127_7 : mFetch 127 7 = some (.astore_n 3, 1, 0, 0, 0, 0) := by decide +kernel
theorem f127_8 : mFetch 127 8 = some (.aload_n 3, 1, 0, 0, 0, 0) := by decide +kernel
theorem f127_9 : mFetch 127 9 = some (.iload_n 1, 1, 0, 0, 0, 0) := by decide +kernel
theorem f127_10 : mFetch 127 10 = some (.invokevirtual 141, 3, 7, 0, 2, 0) := by decide +kernel
theorem f127_13 : mFetch 127 13 = some (.ifCond .ne 5, 3, 18, 0, 0, 0) := by decide +kernel
theorem f127_16 : mFetch 127 16 = some (.iconst (-1), 1, 0, 0, 0, 0) := by decide +kernel
theorem f127_17 : mFetch 127 17 = some (.ireturn, 1, 0, 0, 0, 0) := by decide +kernel
theorem f127_18 : mFetch 127 18 = some (.iload_n 2, 1, 0, 0, 0, 0) := by decide +kernel
theorem f127_19 : mFetch 127 19 = some (.tableswitch 45 0 2 #[25, 32, 39], 25, 0, 0, 0, 0) := by decide +kernel
theorem f127_44 : mFetch 127 44 = some (.aload_n 3, 1, 0, 0, 0, 0) := by decide +kernel
theorem f127_45 : mFetch 127 45 = some (.getfield 144, 3, 0, 6, 2, 0) := by decide +kernel
theorem f127_48 : mFetch 127 48 = some (.iload_n 1, 1, 0, 0, 0, 0) := by decide +kernel
theorem f127_49 : mFetch 127 49 = some (.iaload, 1, 0, 0, 0, 0) := by decide +kernel
theorem f127_50 : mFetch 127 50 = some (.ireturn, 1, 0, 0, 0, 0) := by decide +kernel
theorem f127_51 : mFetch 127 51 = some (.aload_n 3, 1, 0, 0, 0, 0) := by decide +kernel
theorem f127_52 : mFetch 127 52 = some (.getfield 148, 3, 0, 7, 2, 0) := by decide +kernel
theorem f127_55 : mFetch 127 55 = some (.iload_n 1, 1, 0, 0, 0, 0) := by decide +kernel
theorem f127_56 : mFetch 127 56 = some (.iaload, 1, 0, 0, 0, 0) := by decide +kernel
theorem f127_57 : mFetch 127 57 = some (.ireturn, 1, 0, 0, 0, 0) := by decide +kernel
theorem f127_58 : mFetch 127 58 = some (.aload_n 3, 1, 0, 0, 0, 0) := by decide +kernel
theorem f127_59 : mFetch 127 59 = some (.iload_n 1, 1, 0, 0, 0, 0) := by decide +kernel
theorem f127_60 : mFetch 127 60 = some (.invokevirtual 151, 3, 13, 0, 2, 0) := by decide +kernel
theorem f127_63 : mFetch 127 63 = some (.ireturn, 1, 0, 0, 0, 0) := by decide +kernel
theorem f127_64 : mFetch 127 64 = some (.iconst (-1), 1, 0, 0, 0, 0) := by decide +kernel
theorem f127_65 : mFetch 127 65 = some (.ireturn, 1, 0, 0, 0, 0) := by decide +kernel
theorem b127_0 {X : (Nat → Int) × Nat} {d : Nat} {s : mSt} {Q : mQ} {x1 : Int} {x2 : Int} {l3 : Option mV} (h_1 : Sp X d 7 [mR 18, mI x1] s (fun r s' => ∃ v : Int, r = some (mI v) ∧ Wp X (d + 1) 127 13 [some (mR 0), some (mI x1), some (mI x2), some (mR 18)] [mI v] s' Q)) : Wp X (d + 1) 127 0 [some (mR 0), some (mI x1), some (mI x2), l3] [] s Q := Wp_step k127 f127_0 (Wp_step k127 f127_1 ⟨kf_0, 7, rf_0_5, Wp_step k127 f127_4 ⟨kf_7, 18, rf_7_1, Wp_step k127 f127_7 (Wp_step k127 f127_8 (Wp_step k127 f127_9 (Wp_step k127 f127_10 ⟨⟨kf_18, Nat.le_of_ble_eq_true rfl⟩, Nat.le_refl _, _, rfl, Sp_E h_1⟩)))⟩⟩)
theorem b127_13 {X : (Nat → Int) × Nat} {d : Nat} {s : mSt} {Q : mQ} {x1 : Int} {x2 : Int} {xt0 : Int} (h_1 : ¬ xt0 = 0 → Wp X d 127 18 [some (mR 0), some (mI x1), some (mI x2), some (mR 18)] [] s Q) (h_2 : xt0 = 0 → Wp X d 127 16 [some (mR 0), some (mI x1), some (mI x2), some (mR 18)] [] s Q) : Wp X d 127 13 [some (mR 0), some (mI x1), some (mI x2), some (mR 18)] [mI xt0] s Q := Wp_step k127 f127_13 ⟨h_1, h_2⟩
theorem b127_16 {X : (Nat → Int) × Nat} {d : Nat} {s : mSt} {Q : mQ} {x1 : Int} {x2 : Int} (h_1 : Q (some (mI (-1))) s) : Wp X d 127 16 [some (mR 0), some (mI x1), some (mI x2), some (mR 18)] [] s Q := Wp_step k127 f127_16 (Wp_step k127 f127_17 ⟨⟨rfl, trivial⟩, h_1⟩)
theorem b127_18 {X : (Nat → Int) × Nat} {d : Nat} {s : mSt} {Q : mQ} {x1 : Int} {x2 : Int} (h_1 : x2 = 0 → Wp X d 127 44 [some (mR 0), some (mI x1), some (mI x2), some (mR 18)] [] s Q) (h_2 : x2 = 1 → Wp X d 127 51 [some (mR 0), some (mI x1), some (mI x2), some (mR 18)] [] s Q) (h_3 : x2 = 2 → Wp X d 127 58 [some (mR 0), some (mI x1), some (mI x2), some (mR 18)] [] s Q) (h_4 : ¬ x2 = 0 → ¬ x2 = 1 → ¬ x2 = 2 → Wp X d 127 64 [some (mR 0), some (mI x1), some (mI x2), some (mR 18)] [] s Q) : Wp X d 127 18 [some (mR 0), some (mI x1), some (mI x2), some (mR 18)] [] s Q := Wp_step k127 f127_18 (Wp_step k127 f127_19 (by
    show Wp X d 127 (tT 19 45 0 2 #[25, 32, 39] x2) [some (mR 0), some (mI x1), some (mI x2), some (mR 18)] [] s Q
    by_cases q0 : x2 = 0
    · have e : tT 19 45 0 2 #[25, 32, 39] x2 = 44 := by rw [q0]; decide +kernel
      rw [e]; exact h_1 q0
    by_cases q1 : x2 = 1
    · have e : tT 19 45 0 2 #[25, 32, 39] x2 = 51 := by rw [q1]; decide +kernel
      rw [e]; exact h_2 q1
    by_cases q2 : x2 = 2
    · have e : tT 19 45 0 2 #[25, 32, 39] x2 = 58 := by rw [q2]; decide +kernel
      rw [e]; exact h_3 q2
    have e : tT 19 45 0 2 #[25, 32, 39] x2 = 64 := by unfold tT; rw [if_pos (by omega)]; decide +kernel
    rw [e]; exact h_4 q0 q1 q2))
theorem b127_44 {X : (Nat → Int) × Nat} {d : Nat} {s : mSt} {Q : mQ} {x1 : Int} {x2 : Int} (h_1 : 0 ≤ x1 ∧ x1 < 5) (h_2 : Q (some (mI (s 19 x1.toNat))) s) : Wp X d 127 44 [some (mR 0), some (mI x1), some (mI x2), some (mR 18)] [] s Q := Wp_step k127 f127_44 (Wp_step k127 f127_45 ⟨kf_18, 19, rf_18_6, Wp_step k127 f127_48 (Wp_step k127 f127_49 ⟨5, af_19, h_1, Wp_step k127 f127_50 ⟨⟨rfl, trivial⟩, h_2⟩⟩)⟩)
theorem b127_51 {X : (Nat → Int) × Nat} {d : Nat} {s : mSt} {Q : mQ} {x1 : Int} {x2 : Int} (h_1 : 0 ≤ x1 ∧ x1 < 5) (h_2 : Q (some (mI (s 20 x1.toNat))) s) : Wp X d 127 51 [some (mR 0), some (mI x1), some (mI x2), some (mR 18)] [] s Q := Wp_step k127 f127_51 (Wp_step k127 f127_52 ⟨kf_18, 20, rf_18_7, Wp_step k127 f127_55 (Wp_step k127 f127_56 ⟨5, af_20, h_1, Wp_step k127 f127_57 ⟨⟨rfl, trivial⟩, h_2⟩⟩)⟩)
theorem b127_58 {X : (Nat → Int) × Nat} {d : Nat} {s : mSt} {Q : mQ} {x1 : Int} {x2 : Int} (h_1 : Sp X d 13 [mR 18, mI x1] s (fun r s' => ∃ v : Int, r = some (mI v) ∧ Wp X (d + 1) 127 63 [some (mR 0), some (mI x1), some (mI x2), some (mR 18)] [mI v] s' Q)) : Wp X (d + 1) 127 58 [some (mR 0), some (mI x1), some (mI x2), some (mR 18)] [] s Q := Wp_step k127 f127_58 (Wp_step k127 f127_59 (Wp_step k127 f127_60 ⟨⟨kf_18, Nat.le_of_ble_eq_true rfl⟩, Nat.le_refl _, _, rfl, Sp_E h_1⟩))
theorem b127_63 {X : (Nat → Int) × Nat} {d : Nat} {s : mSt} {Q : mQ} {x1 : Int} {x2 : Int} {xt0 : Int} (h_1 : Q (some (mI xt0)) s) : Wp X d 127 63 [some (mR 0), some (mI x1), some (mI x2), some (mR 18)] [mI xt0] s Q := Wp_step k127 f127_63 ⟨⟨rfl, trivial⟩, h_1⟩
theorem b127_64 {X : (Nat → Int) × Nat} {d : Nat} {s : mSt} {Q : mQ} {x1 : Int} {x2 : Int} (h_1 : Q (some (mI (-1))) s) : Wp X d 127 64 [some (mR 0), some (mI x1), some (mI x2), some (mR 18)] [] s Q := Wp_step k127 f127_64 (Wp_step k127 f127_65 ⟨⟨rfl, trivial⟩, h_1⟩)
theorem e127 {X : (Nat → Int) × Nat} {d : Nat} {s : mSt} {Q : mQ} {x1 : Int} {x2 : Int} (h : Wp X d 127 0 [some (mR 0), some (mI x1), some (mI x2), none] [] s Q) : Sp X d 127 [mR 0, mI x1, mI x2] s Q := Sp_of (show mCe 127 = 0 by decide +kernel) (by rw [show mML 127 = 4 by decide +kernel]; rfl) (Nat.le_trans (Nat.le_of_ble_eq_true (show Nat.ble (mArgs _).length 4 = true from rfl)) (show 4 ≤ mML 127 by decide +kernel)) h
-- 128 ClashDay.candidate(II)I
theorem k128 : mRk 128 = 1 := by decide +kernel
theorem f128_0 : mFetch 128 0 = some (.aload_n 0, 1, 0, 0, 0, 0) := by decide +kernel
theorem f128_1 : mFetch 128 1 = some (.getfield 41, 3, 11, 5, 2, 1) := by decide +kernel
theorem f128_4 : mFetch 128 4 = some (.getfield 116, 3, 7, 1, 2, 0) := by decide +kernel
theorem f128_7 : mFetch 128 7 = some (.astore_n 3, 1, 0, 0, 0, 0) := by decide +kernel
theorem f128_8 : mFetch 128 8 = some (.aload_n 3, 1, 0, 0, 0, 0) := by decide +kernel
theorem f128_9 : mFetch 128 9 = some (.iload_n 1, 1, 0, 0, 0, 0) := by decide +kernel
theorem f128_10 : mFetch 128 10 = some (.invokevirtual 155, 3, 8, 0, 2, 0) := by decide +kernel
theorem f128_13 : mFetch 128 13 = some (.ifCond .ne 5, 3, 18, 0, 0, 0) := by decide +kernel
theorem f128_16 : mFetch 128 16 = some (.iconst (-1), 1, 0, 0, 0, 0) := by decide +kernel
theorem f128_17 : mFetch 128 17 = some (.ireturn, 1, 0, 0, 0, 0) := by decide +kernel
theorem f128_18 : mFetch 128 18 = some (.iload_n 2, 1, 0, 0, 0, 0) := by decide +kernel
theorem f128_19 : mFetch 128 19 = some (.tableswitch 64 0 3 #[29, 36, 43, 50], 29, 0, 0, 0, 0) := by decide +kernel
theorem f128_48 : mFetch 128 48 = some (.aload_n 3, 1, 0, 0, 0, 0) := by decide +kernel
theorem f128_49 : mFetch 128 49 = some (.getfield 158, 3, 0, 8, 2, 0) := by decide +kernel
theorem f128_52 : mFetch 128 52 = some (.iload_n 1, 1, 0, 0, 0, 0) := by decide +kernel
theorem f128_53 : mFetch 128 53 = some (.iaload, 1, 0, 0, 0, 0) := by decide +kernel
theorem f128_54 : mFetch 128 54 = some (.ireturn, 1, 0, 0, 0, 0) := by decide +kernel
theorem f128_55 : mFetch 128 55 = some (.aload_n 3, 1, 0, 0, 0, 0) := by decide +kernel
theorem f128_56 : mFetch 128 56 = some (.getfield 161, 3, 0, 9, 2, 0) := by decide +kernel
theorem f128_59 : mFetch 128 59 = some (.iload_n 1, 1, 0, 0, 0, 0) := by decide +kernel
theorem f128_60 : mFetch 128 60 = some (.iaload, 1, 0, 0, 0, 0) := by decide +kernel
theorem f128_61 : mFetch 128 61 = some (.ireturn, 1, 0, 0, 0, 0) := by decide +kernel
theorem f128_62 : mFetch 128 62 = some (.aload_n 3, 1, 0, 0, 0, 0) := by decide +kernel
theorem f128_63 : mFetch 128 63 = some (.getfield 164, 3, 0, 10, 2, 0) := by decide +kernel
theorem f128_66 : mFetch 128 66 = some (.iload_n 1, 1, 0, 0, 0, 0) := by decide +kernel
theorem f128_67 : mFetch 128 67 = some (.iaload, 1, 0, 0, 0, 0) := by decide +kernel
theorem f128_68 : mFetch 128 68 = some (.ireturn, 1, 0, 0, 0, 0) := by decide +kernel
theorem f128_69 : mFetch 128 69 = some (.aload_n 3, 1, 0, 0, 0, 0) := by decide +kernel
theorem f128_70 : mFetch 128 70 = some (.iload_n 1, 1, 0, 0, 0, 0) := by decide +kernel
theorem f128_71 : mFetch 128 71 = some (.invokevirtual 167, 3, 10, 0, 2, 0) := by decide +kernel
theorem f128_74 : mFetch 128 74 = some (.ifCond .eq 7, 3, 81, 0, 0, 0) := by decide +kernel
theorem f128_77 : mFetch 128 77 = some (.iconst 1, 1, 0, 0, 0, 0) := by decide +kernel
theorem f128_78 : mFetch 128 78 = some (.goto 4, 3, 82, 0, 0, 0) := by decide +kernel
theorem f128_81 : mFetch 128 81 = some (.iconst 0, 1, 0, 0, 0, 0) := by decide +kernel
theorem f128_82 : mFetch 128 82 = some (.ireturn, 1, 0, 0, 0, 0) := by decide +kernel
theorem f128_83 : mFetch 128 83 = some (.iconst (-1), 1, 0, 0, 0, 0) := by decide +kernel
theorem f128_84 : mFetch 128 84 = some (.ireturn, 1, 0, 0, 0, 0) := by decide +kernel
theorem b128_0 {X : (Nat → Int) × Nat} {d : Nat} {s : mSt} {Q : mQ} {x1 : Int} {x2 : Int} {l3 : Option mV} (h_1 : Sp X d 8 [mR 18, mI x1] s (fun r s' => ∃ v : Int, r = some (mI v) ∧ Wp X (d + 1) 128 13 [some (mR 0), some (mI x1), some (mI x2), some (mR 18)] [mI v] s' Q)) : Wp X (d + 1) 128 0 [some (mR 0), some (mI x1), some (mI x2), l3] [] s Q := Wp_step k128 f128_0 (Wp_step k128 f128_1 ⟨kf_0, 7, rf_0_5, Wp_step k128 f128_4 ⟨kf_7, 18, rf_7_1, Wp_step k128 f128_7 (Wp_step k128 f128_8 (Wp_step k128 f128_9 (Wp_step k128 f128_10 ⟨⟨kf_18, Nat.le_of_ble_eq_true rfl⟩, Nat.le_refl _, _, rfl, Sp_E h_1⟩)))⟩⟩)
theorem b128_13 {X : (Nat → Int) × Nat} {d : Nat} {s : mSt} {Q : mQ} {x1 : Int} {x2 : Int} {xt0 : Int} (h_1 : ¬ xt0 = 0 → Wp X d 128 18 [some (mR 0), some (mI x1), some (mI x2), some (mR 18)] [] s Q) (h_2 : xt0 = 0 → Wp X d 128 16 [some (mR 0), some (mI x1), some (mI x2), some (mR 18)] [] s Q) : Wp X d 128 13 [some (mR 0), some (mI x1), some (mI x2), some (mR 18)] [mI xt0] s Q := Wp_step k128 f128_13 ⟨h_1, h_2⟩
theorem b128_16 {X : (Nat → Int) × Nat} {d : Nat} {s : mSt} {Q : mQ} {x1 : Int} {x2 : Int} (h_1 : Q (some (mI (-1))) s) : Wp X d 128 16 [some (mR 0), some (mI x1), some (mI x2), some (mR 18)] [] s Q := Wp_step k128 f128_16 (Wp_step k128 f128_17 ⟨⟨rfl, trivial⟩, h_1⟩)
theorem b128_18 {X : (Nat → Int) × Nat} {d : Nat} {s : mSt} {Q : mQ} {x1 : Int} {x2 : Int} (h_1 : x2 = 0 → Wp X d 128 48 [some (mR 0), some (mI x1), some (mI x2), some (mR 18)] [] s Q) (h_2 : x2 = 1 → Wp X d 128 55 [some (mR 0), some (mI x1), some (mI x2), some (mR 18)] [] s Q) (h_3 : x2 = 2 → Wp X d 128 62 [some (mR 0), some (mI x1), some (mI x2), some (mR 18)] [] s Q) (h_4 : x2 = 3 → Wp X d 128 69 [some (mR 0), some (mI x1), some (mI x2), some (mR 18)] [] s Q) (h_5 : ¬ x2 = 0 → ¬ x2 = 1 → ¬ x2 = 2 → ¬ x2 = 3 → Wp X d 128 83 [some (mR 0), some (mI x1), some (mI x2), some (mR 18)] [] s Q) : Wp X d 128 18 [some (mR 0), some (mI x1), some (mI x2), some (mR 18)] [] s Q := Wp_step k128 f128_18 (Wp_step k128 f128_19 (by
    show Wp X d 128 (tT 19 64 0 3 #[29, 36, 43, 50] x2) [some (mR 0), some (mI x1), some (mI x2), some (mR 18)] [] s Q
    by_cases q0 : x2 = 0
    · have e : tT 19 64 0 3 #[29, 36, 43, 50] x2 = 48 := by rw [q0]; decide +kernel
      rw [e]; exact h_1 q0
    by_cases q1 : x2 = 1
    · have e : tT 19 64 0 3 #[29, 36, 43, 50] x2 = 55 := by rw [q1]; decide +kernel
      rw [e]; exact h_2 q1
    by_cases q2 : x2 = 2
    · have e : tT 19 64 0 3 #[29, 36, 43, 50] x2 = 62 := by rw [q2]; decide +kernel
      rw [e]; exact h_3 q2
    by_cases q3 : x2 = 3
    · have e : tT 19 64 0 3 #[29, 36, 43, 50] x2 = 69 := by rw [q3]; decide +kernel
      rw [e]; exact h_4 q3
    have e : tT 19 64 0 3 #[29, 36, 43, 50] x2 = 83 := by unfold tT; rw [if_pos (by omega)]; decide +kernel
    rw [e]; exact h_5 q0 q1 q2 q3))
theorem b128_48 {X : (Nat → Int) × Nat} {d : Nat} {s : mSt} {Q : mQ} {x1 : Int} {x2 : Int} (h_1 : 0 ≤ x1 ∧ x1 < 6) (h_2 : Q (some (mI (s 21 x1.toNat))) s) : Wp X d 128 48 [some (mR 0), some (mI x1), some (mI x2), some (mR 18)] [] s Q := Wp_step k128 f128_48 (Wp_step k128 f128_49 ⟨kf_18, 21, rf_18_8, Wp_step k128 f128_52 (Wp_step k128 f128_53 ⟨6, af_21, h_1, Wp_step k128 f128_54 ⟨⟨rfl, trivial⟩, h_2⟩⟩)⟩)
theorem b128_55 {X : (Nat → Int) × Nat} {d : Nat} {s : mSt} {Q : mQ} {x1 : Int} {x2 : Int} (h_1 : 0 ≤ x1 ∧ x1 < 6) (h_2 : Q (some (mI (s 22 x1.toNat))) s) : Wp X d 128 55 [some (mR 0), some (mI x1), some (mI x2), some (mR 18)] [] s Q := Wp_step k128 f128_55 (Wp_step k128 f128_56 ⟨kf_18, 22, rf_18_9, Wp_step k128 f128_59 (Wp_step k128 f128_60 ⟨6, af_22, h_1, Wp_step k128 f128_61 ⟨⟨rfl, trivial⟩, h_2⟩⟩)⟩)
theorem b128_62 {X : (Nat → Int) × Nat} {d : Nat} {s : mSt} {Q : mQ} {x1 : Int} {x2 : Int} (h_1 : 0 ≤ x1 ∧ x1 < 6) (h_2 : Q (some (mI (s 23 x1.toNat))) s) : Wp X d 128 62 [some (mR 0), some (mI x1), some (mI x2), some (mR 18)] [] s Q := Wp_step k128 f128_62 (Wp_step k128 f128_63 ⟨kf_18, 23, rf_18_10, Wp_step k128 f128_66 (Wp_step k128 f128_67 ⟨6, af_23, h_1, Wp_step k128 f128_68 ⟨⟨rfl, trivial⟩, h_2⟩⟩)⟩)
theorem b128_69 {X : (Nat → Int) × Nat} {d : Nat} {s : mSt} {Q : mQ} {x1 : Int} {x2 : Int} (h_1 : Sp X d 10 [mR 18, mI x1] s (fun r s' => ∃ v : Int, r = some (mI v) ∧ Wp X (d + 1) 128 74 [some (mR 0), some (mI x1), some (mI x2), some (mR 18)] [mI v] s' Q)) : Wp X (d + 1) 128 69 [some (mR 0), some (mI x1), some (mI x2), some (mR 18)] [] s Q := Wp_step k128 f128_69 (Wp_step k128 f128_70 (Wp_step k128 f128_71 ⟨⟨kf_18, Nat.le_of_ble_eq_true rfl⟩, Nat.le_refl _, _, rfl, Sp_E h_1⟩))
theorem b128_74 {X : (Nat → Int) × Nat} {d : Nat} {s : mSt} {Q : mQ} {x1 : Int} {x2 : Int} {xt0 : Int} (h_1 : xt0 = 0 → Wp X d 128 81 [some (mR 0), some (mI x1), some (mI x2), some (mR 18)] [] s Q) (h_2 : ¬ xt0 = 0 → Wp X d 128 77 [some (mR 0), some (mI x1), some (mI x2), some (mR 18)] [] s Q) : Wp X d 128 74 [some (mR 0), some (mI x1), some (mI x2), some (mR 18)] [mI xt0] s Q := Wp_step k128 f128_74 ⟨h_1, h_2⟩
theorem b128_77 {X : (Nat → Int) × Nat} {d : Nat} {s : mSt} {Q : mQ} {x1 : Int} {x2 : Int} (h_1 : Wp X d 128 82 [some (mR 0), some (mI x1), some (mI x2), some (mR 18)] [mI 1] s Q) : Wp X d 128 77 [some (mR 0), some (mI x1), some (mI x2), some (mR 18)] [] s Q := Wp_step k128 f128_77 (Wp_step k128 f128_78 (h_1))
theorem b128_81 {X : (Nat → Int) × Nat} {d : Nat} {s : mSt} {Q : mQ} {x1 : Int} {x2 : Int} (h_1 : Wp X d 128 82 [some (mR 0), some (mI x1), some (mI x2), some (mR 18)] [mI 0] s Q) : Wp X d 128 81 [some (mR 0), some (mI x1), some (mI x2), some (mR 18)] [] s Q := Wp_step k128 f128_81 (h_1)
theorem b128_82 {X : (Nat → Int) × Nat} {d : Nat} {s : mSt} {Q : mQ} {x1 : Int} {x2 : Int} {xt0 : Int} (h_1 : Q (some (mI xt0)) s) : Wp X d 128 82 [some (mR 0), some (mI x1), some (mI x2), some (mR 18)] [mI xt0] s Q := Wp_step k128 f128_82 ⟨⟨rfl, trivial⟩, h_1⟩
theorem b128_83 {X : (Nat → Int) × Nat} {d : Nat} {s : mSt} {Q : mQ} {x1 : Int} {x2 : Int} (h_1 : Q (some (mI (-1))) s) : Wp X d 128 83 [some (mR 0), some (mI x1), some (mI x2), some (mR 18)] [] s Q := Wp_step k128 f128_83 (Wp_step k128 f128_84 ⟨⟨rfl, trivial⟩, h_1⟩)
theorem e128 {X : (Nat → Int) × Nat} {d : Nat} {s : mSt} {Q : mQ} {x1 : Int} {x2 : Int} (h : Wp X d 128 0 [some (mR 0), some (mI x1), some (mI x2), none] [] s Q) : Sp X d 128 [mR 0, mI x1, mI x2] s Q := Sp_of (show mCe 128 = 0 by decide +kernel) (by rw [show mML 128 = 4 by decide +kernel]; rfl) (Nat.le_trans (Nat.le_of_ble_eq_true (show Nat.ble (mArgs _).length 4 = true from rfl)) (show 4 ≤ mML 128 by decide +kernel)) h
-- 129 ClashDay.free(I)I
theorem k129 : mRk 129 = 1 := by decide +kernel
theorem f129_0 : mFetch 129 0 = some (.aload_n 0, 1, 0, 0, 0, 0) := by decide +kernel
theorem f129_1 : mFetch 129 1 = some (.getfield 41, 3, 11, 5, 2, 1) := by decide +kernel
theorem f129_4 : mFetch 129 4 = some (.getfield 116, 3, 7, 1, 2, 0) := by decide +kernel
theorem f129_7 : mFetch 129 7 = some (.invokevirtual 170, 3, 6, 0, 1, 0) := by decide +kernel
theorem f129_10 : mFetch 129 10 = some (.ifCond .eq 10, 3, 20, 0, 0, 0) := by decide +kernel
theorem f129_13 : mFetch 129 13 = some (.iload_n 1, 1, 0, 0, 0, 0) := by decide +kernel
theorem f129_14 : mFetch 129 14 = some (.invokestatic 174, 3, 163, 0, 1, 99) := by decide +kernel
theorem f129_17 : mFetch 129 17 = some (.ifCond .ne 5, 3, 22, 0, 0, 0) := by decide +kernel
theorem f129_20 : mFetch 129 20 = some (.iconst (-1), 1, 0, 0, 0, 0) := by decide +kernel
theorem f129_21 : mFetch 129 21 = some (.ireturn, 1, 0, 0, 0, 0) := by decide +kernel
theorem f129_22 : mFetch 129 22 = some (.aload_n 0, 1, 0, 0, 0, 0) := by decide +kernel
theorem f129_23 : mFetch 129 23 = some (.getfield 41, 3, 11, 5, 2, 1) := by decide +kernel
theorem f129_26 : mFetch 129 26 = some (.getfield 116, 3, 7, 1, 2, 0) := by decide +kernel
theorem f129_29 : mFetch 129 29 = some (.iload_n 1, 1, 0, 0, 0, 0) := by decide +kernel
theorem f129_30 : mFetch 129 30 = some (.invokevirtual 177, 3, 17, 0, 2, 0) := by decide +kernel
theorem f129_33 : mFetch 129 33 = some (.ireturn, 1, 0, 0, 0, 0) := by decide +kernel
theorem b129_0 {X : (Nat → Int) × Nat} {d : Nat} {s : mSt} {Q : mQ} {x1 : Int} (h_1 : Sp X d 6 [mR 18] s (fun r s' => ∃ v : Int, r = some (mI v) ∧ Wp X (d + 1) 129 10 [some (mR 0), some (mI x1)] [mI v] s' Q)) : Wp X (d + 1) 129 0 [some (mR 0), some (mI x1)] [] s Q := Wp_step k129 f129_0 (Wp_step k129 f129_1 ⟨kf_0, 7, rf_0_5, Wp_step k129 f129_4 ⟨kf_7, 18, rf_7_1, Wp_step k129 f129_7 ⟨⟨kf_18, Nat.le_of_ble_eq_true rfl⟩, Nat.le_refl _, _, rfl, Sp_E h_1⟩⟩⟩)
theorem b129_10 {X : (Nat → Int) × Nat} {d : Nat} {s : mSt} {Q : mQ} {x1 : Int} {xt0 : Int} (h_1 : xt0 = 0 → Wp X d 129 20 [some (mR 0), some (mI x1)] [] s Q) (h_2 : ¬ xt0 = 0 → Wp X d 129 13 [some (mR 0), some (mI x1)] [] s Q) : Wp X d 129 10 [some (mR 0), some (mI x1)] [mI xt0] s Q := Wp_step k129 f129_10 ⟨h_1, h_2⟩
theorem b129_13 {X : (Nat → Int) × Nat} {d : Nat} {s : mSt} {Q : mQ} {x1 : Int} (h_1 : Sp X d 163 [mI x1] s (fun r s' => ∃ v : Int, r = some (mI v) ∧ Wp X (d + 1) 129 17 [some (mR 0), some (mI x1)] [mI v] s' Q)) : Wp X (d + 1) 129 13 [some (mR 0), some (mI x1)] [] s Q := Wp_step k129 f129_13 (Wp_step k129 f129_14 ⟨⟨Nat.le_of_ble_eq_true rfl, Nat.le_refl _⟩, _, rfl, Sp_E h_1⟩)
theorem b129_17 {X : (Nat → Int) × Nat} {d : Nat} {s : mSt} {Q : mQ} {x1 : Int} {xt0 : Int} (h_1 : ¬ xt0 = 0 → Wp X d 129 22 [some (mR 0), some (mI x1)] [] s Q) (h_2 : xt0 = 0 → Wp X d 129 20 [some (mR 0), some (mI x1)] [] s Q) : Wp X d 129 17 [some (mR 0), some (mI x1)] [mI xt0] s Q := Wp_step k129 f129_17 ⟨h_1, h_2⟩
theorem b129_20 {X : (Nat → Int) × Nat} {d : Nat} {s : mSt} {Q : mQ} {x1 : Int} (h_1 : Q (some (mI (-1))) s) : Wp X d 129 20 [some (mR 0), some (mI x1)] [] s Q := Wp_step k129 f129_20 (Wp_step k129 f129_21 ⟨⟨rfl, trivial⟩, h_1⟩)
theorem b129_22 {X : (Nat → Int) × Nat} {d : Nat} {s : mSt} {Q : mQ} {x1 : Int} (h_1 : Sp X d 17 [mR 18, mI x1] s (fun r s' => ∃ v : Int, r = some (mI v) ∧ Wp X (d + 1) 129 33 [some (mR 0), some (mI x1)] [mI v] s' Q)) : Wp X (d + 1) 129 22 [some (mR 0), some (mI x1)] [] s Q := Wp_step k129 f129_22 (Wp_step k129 f129_23 ⟨kf_0, 7, rf_0_5, Wp_step k129 f129_26 ⟨kf_7, 18, rf_7_1, Wp_step k129 f129_29 (Wp_step k129 f129_30 ⟨⟨kf_18, Nat.le_of_ble_eq_true rfl⟩, Nat.le_refl _, _, rfl, Sp_E h_1⟩)⟩⟩)
theorem b129_33 {X : (Nat → Int) × Nat} {d : Nat} {s : mSt} {Q : mQ} {x1 : Int} {xt0 : Int} (h_1 : Q (some (mI xt0)) s) : Wp X d 129 33 [some (mR 0), some (mI x1)] [mI xt0] s Q := Wp_step k129 f129_33 ⟨⟨rfl, trivial⟩, h_1⟩
theorem e129 {X : (Nat → Int) × Nat} {d : Nat} {s : mSt} {Q : mQ} {x1 : Int} (h : Wp X d 129 0 [some (mR 0), some (mI x1)] [] s Q) : Sp X d 129 [mR 0, mI x1] s Q := Sp_of (show mCe 129 = 0 by decide +kernel) (by rw [show mML 129 = 2 by decide +kernel]; rfl) (Nat.le_trans (Nat.le_of_ble_eq_true (show Nat.ble (mArgs _).length 2 = true from rfl)) (show 2 ≤ mML 129 by decide +kernel)) h
-- 130 ClashDay.time(II)I
theorem k130 : mRk 130 = 1 := by decide +kernel
theorem f130_0 : mFetch 130 0 = some (.aload_n 0, 1, 0, 0, 0, 0) := by decide +kernel
theorem f130_1 : mFetch 130 1 = some (.getfield 41, 3, 11, 5, 2, 1) := by decide +kernel
theorem f130_4 : mFetch 130 4 = some (.getfield 116, 3, 7, 1, 2, 0) := by decide +kernel
theorem f130_7 : mFetch 130 7 = some (.astore_n 3, 1, 0, 0, 0, 0) := by decide +kernel
theorem f130_8 : mFetch 130 8 = some (.aload_n 3, 1, 0, 0, 0, 0) := by decide +kernel
theorem f130_9 : mFetch 130 9 = some (.iload_n 1, 1, 0, 0, 0, 0) := by decide +kernel
theorem f130_10 : mFetch 130 10 = some (.invokevirtual 155, 3, 8, 0, 2, 0) := by decide +kernel
theorem f130_13 : mFetch 130 13 = some (.ifCond .eq 20, 3, 33, 0, 0, 0) := by decide +kernel
theorem f130_16 : mFetch 130 16 = some (.aload_n 3, 1, 0, 0, 0, 0) := by decide +kernel
theorem f130_17 : mFetch 130 17 = some (.iload_n 2, 1, 0, 0, 0, 0) := by decide +kernel
theorem f130_18 : mFetch 130 18 = some (.invokevirtual 141, 3, 7, 0, 2, 0) := by decide +kernel
theorem f130_21 : mFetch 130 21 = some (.ifCond .eq 12, 3, 33, 0, 0, 0) := by decide +kernel
theorem f130_24 : mFetch 130 24 = some (.aload_n 3, 1, 0, 0, 0, 0) := by decide +kernel
theorem f130_25 : mFetch 130 25 = some (.iload_n 1, 1, 0, 0, 0, 0) := by decide +kernel
theorem f130_26 : mFetch 130 26 = some (.iload_n 2, 1, 0, 0, 0, 0) := by decide +kernel
theorem f130_27 : mFetch 130 27 = some (.invokevirtual 180, 3, 12, 0, 3, 0) := by decide +kernel
theorem f130_30 : mFetch 130 30 = some (.ifCond .ne 5, 3, 35, 0, 0, 0) := by decide +kernel
theorem f130_33 : mFetch 130 33 = some (.iconst (-1), 1, 0, 0, 0, 0) := by decide +kernel
theorem f130_34 : mFetch 130 34 = some (.ireturn, 1, 0, 0, 0, 0) := by decide +kernel
theorem f130_35 : mFetch 130 35 = some (.aload_n 3, 1, 0, 0, 0, 0) := by decide +kernel
theorem f130_36 : mFetch 130 36 = some (.iload_n 1, 1, 0, 0, 0, 0) := by decide +kernel
theorem f130_37 : mFetch 130 37 = some (.iload_n 2, 1, 0, 0, 0, 0) := by decide +kernel
theorem f130_38 : mFetch 130 38 = some (.invokevirtual 184, 3, 14, 0, 3, 0) := by decide +kernel
theorem f130_41 : mFetch 130 41 = some (.ireturn, 1, 0, 0, 0, 0) := by decide +kernel
theorem b130_0 {X : (Nat → Int) × Nat} {d : Nat} {s : mSt} {Q : mQ} {x1 : Int} {x2 : Int} {l3 : Option mV} (h_1 : Sp X d 8 [mR 18, mI x1] s (fun r s' => ∃ v : Int, r = some (mI v) ∧ Wp X (d + 1) 130 13 [some (mR 0), some (mI x1), some (mI x2), some (mR 18)] [mI v] s' Q)) : Wp X (d + 1) 130 0 [some (mR 0), some (mI x1), some (mI x2), l3] [] s Q := Wp_step k130 f130_0 (Wp_step k130 f130_1 ⟨kf_0, 7, rf_0_5, Wp_step k130 f130_4 ⟨kf_7, 18, rf_7_1, Wp_step k130 f130_7 (Wp_step k130 f130_8 (Wp_step k130 f130_9 (Wp_step k130 f130_10 ⟨⟨kf_18, Nat.le_of_ble_eq_true rfl⟩, Nat.le_refl _, _, rfl, Sp_E h_1⟩)))⟩⟩)
theorem b130_13 {X : (Nat → Int) × Nat} {d : Nat} {s : mSt} {Q : mQ} {x1 : Int} {x2 : Int} {xt0 : Int} (h_1 : xt0 = 0 → Wp X d 130 33 [some (mR 0), some (mI x1), some (mI x2), some (mR 18)] [] s Q) (h_2 : ¬ xt0 = 0 → Wp X d 130 16 [some (mR 0), some (mI x1), some (mI x2), some (mR 18)] [] s Q) : Wp X d 130 13 [some (mR 0), some (mI x1), some (mI x2), some (mR 18)] [mI xt0] s Q := Wp_step k130 f130_13 ⟨h_1, h_2⟩
theorem b130_16 {X : (Nat → Int) × Nat} {d : Nat} {s : mSt} {Q : mQ} {x1 : Int} {x2 : Int} (h_1 : Sp X d 7 [mR 18, mI x2] s (fun r s' => ∃ v : Int, r = some (mI v) ∧ Wp X (d + 1) 130 21 [some (mR 0), some (mI x1), some (mI x2), some (mR 18)] [mI v] s' Q)) : Wp X (d + 1) 130 16 [some (mR 0), some (mI x1), some (mI x2), some (mR 18)] [] s Q := Wp_step k130 f130_16 (Wp_step k130 f130_17 (Wp_step k130 f130_18 ⟨⟨kf_18, Nat.le_of_ble_eq_true rfl⟩, Nat.le_refl _, _, rfl, Sp_E h_1⟩))
theorem b130_21 {X : (Nat → Int) × Nat} {d : Nat} {s : mSt} {Q : mQ} {x1 : Int} {x2 : Int} {xt0 : Int} (h_1 : xt0 = 0 → Wp X d 130 33 [some (mR 0), some (mI x1), some (mI x2), some (mR 18)] [] s Q) (h_2 : ¬ xt0 = 0 → Wp X d 130 24 [some (mR 0), some (mI x1), some (mI x2), some (mR 18)] [] s Q) : Wp X d 130 21 [some (mR 0), some (mI x1), some (mI x2), some (mR 18)] [mI xt0] s Q := Wp_step k130 f130_21 ⟨h_1, h_2⟩
theorem b130_24 {X : (Nat → Int) × Nat} {d : Nat} {s : mSt} {Q : mQ} {x1 : Int} {x2 : Int} (h_1 : Sp X d 12 [mR 18, mI x1, mI x2] s (fun r s' => ∃ v : Int, r = some (mI v) ∧ Wp X (d + 1) 130 30 [some (mR 0), some (mI x1), some (mI x2), some (mR 18)] [mI v] s' Q)) : Wp X (d + 1) 130 24 [some (mR 0), some (mI x1), some (mI x2), some (mR 18)] [] s Q := Wp_step k130 f130_24 (Wp_step k130 f130_25 (Wp_step k130 f130_26 (Wp_step k130 f130_27 ⟨⟨kf_18, Nat.le_of_ble_eq_true rfl⟩, Nat.le_refl _, _, rfl, Sp_E h_1⟩)))
theorem b130_30 {X : (Nat → Int) × Nat} {d : Nat} {s : mSt} {Q : mQ} {x1 : Int} {x2 : Int} {xt0 : Int} (h_1 : ¬ xt0 = 0 → Wp X d 130 35 [some (mR 0), some (mI x1), some (mI x2), some (mR 18)] [] s Q) (h_2 : xt0 = 0 → Wp X d 130 33 [some (mR 0), some (mI x1), some (mI x2), some (mR 18)] [] s Q) : Wp X d 130 30 [some (mR 0), some (mI x1), some (mI x2), some (mR 18)] [mI xt0] s Q := Wp_step k130 f130_30 ⟨h_1, h_2⟩
theorem b130_33 {X : (Nat → Int) × Nat} {d : Nat} {s : mSt} {Q : mQ} {x1 : Int} {x2 : Int} (h_1 : Q (some (mI (-1))) s) : Wp X d 130 33 [some (mR 0), some (mI x1), some (mI x2), some (mR 18)] [] s Q := Wp_step k130 f130_33 (Wp_step k130 f130_34 ⟨⟨rfl, trivial⟩, h_1⟩)
theorem b130_35 {X : (Nat → Int) × Nat} {d : Nat} {s : mSt} {Q : mQ} {x1 : Int} {x2 : Int} (h_1 : Sp X d 14 [mR 18, mI x1, mI x2] s (fun r s' => ∃ v : Int, r = some (mI v) ∧ Wp X (d + 1) 130 41 [some (mR 0), some (mI x1), some (mI x2), some (mR 18)] [mI v] s' Q)) : Wp X (d + 1) 130 35 [some (mR 0), some (mI x1), some (mI x2), some (mR 18)] [] s Q := Wp_step k130 f130_35 (Wp_step k130 f130_36 (Wp_step k130 f130_37 (Wp_step k130 f130_38 ⟨⟨kf_18, Nat.le_of_ble_eq_true rfl⟩, Nat.le_refl _, _, rfl, Sp_E h_1⟩)))
theorem b130_41 {X : (Nat → Int) × Nat} {d : Nat} {s : mSt} {Q : mQ} {x1 : Int} {x2 : Int} {xt0 : Int} (h_1 : Q (some (mI xt0)) s) : Wp X d 130 41 [some (mR 0), some (mI x1), some (mI x2), some (mR 18)] [mI xt0] s Q := Wp_step k130 f130_41 ⟨⟨rfl, trivial⟩, h_1⟩
theorem e130 {X : (Nat → Int) × Nat} {d : Nat} {s : mSt} {Q : mQ} {x1 : Int} {x2 : Int} (h : Wp X d 130 0 [some (mR 0), some (mI x1), some (mI x2), none] [] s Q) : Sp X d 130 [mR 0, mI x1, mI x2] s Q := Sp_of (show mCe 130 = 0 by decide +kernel) (by rw [show mML 130 = 4 by decide +kernel]; rfl) (Nat.le_trans (Nat.le_of_ble_eq_true (show Nat.ble (mArgs _).length 4 = true from rfl)) (show 4 ≤ mML 130 by decide +kernel)) h
-- 131 ClashDay.turn()I
theorem k131 : mRk 131 = 1 := by decide +kernel
theorem f131_0 : mFetch 131 0 = some (.aload_n 0, 1, 0, 0, 0, 0) := by decide +kernel
theorem f131_1 : mFetch 131 1 = some (.getfield 41, 3, 11, 5, 2, 1) := by decide +kernel
theorem f131_4 : mFetch 131 4 = some (.getfield 116, 3, 7, 1, 2, 0) := by decide +kernel
theorem f131_7 : mFetch 131 7 = some (.invokevirtual 170, 3, 6, 0, 1, 0) := by decide +kernel
theorem f131_10 : mFetch 131 10 = some (.ifCond .eq 19, 3, 29, 0, 0, 0) := by decide +kernel
theorem f131_13 : mFetch 131 13 = some (.aload_n 0, 1, 0, 0, 0, 0) := by decide +kernel
theorem f131_14 : mFetch 131 14 = some (.getfield 41, 3, 11, 5, 2, 1) := by decide +kernel
theorem f131_17 : mFetch 131 17 = some (.getfield 116, 3, 7, 1, 2, 0) := by decide +kernel
theorem f131_20 : mFetch 131 20 = some (.getfield 188, 3, 0, 4, 0, 0) := by decide +kernel
theorem f131_23 : mFetch 131 23 = some (.sipush 999, 3, 0, 0, 0, 0) := by decide +kernel
theorem f131_26 : mFetch 131 26 = some (.if_icmp .lt 5, 3, 31, 0, 0, 0) := by decide +kernel
theorem f131_29 : mFetch 131 29 = some (.iconst (-1), 1, 0, 0, 0, 0) := by decide +kernel
theorem f131_30 : mFetch 131 30 = some (.ireturn, 1, 0, 0, 0, 0) := by decide +kernel
theorem f131_31 : mFetch 131 31 = some (.aload_n 0, 1, 0, 0, 0, 0) := by decide +kernel
theorem f131_32 : mFetch 131 32 = some (.invokevirtual 191, 3, 165, 0, 1, 11) := by decide +kernel
theorem f131_35 : mFetch 131 35 = some (.aload_n 0, 1, 0, 0, 0, 0) := by decide +kernel
theorem f131_36 : mFetch 131 36 = some (.getfield 72, 3, 11, 11, 2, 1) := by decide +kernel
theorem f131_39 : mFetch 131 39 = some (.aload_n 0, 1, 0, 0, 0, 0) := by decide +kernel
theorem f131_40 : mFetch 131 40 = some (.getfield 41, 3, 11, 5, 2, 1) := by decide +kernel
theorem f131_43 : mFetch 131 43 = some (.getfield 116, 3, 7, 1, 2, 0) := by decide +kernel
theorem f131_46 : mFetch 131 46 = some (.aload_n 0, 1, 0, 0, 0, 0) := by decide +kernel
theorem f131_47 : mFetch 131 47 = some (.invokevirtual 194, 3, 164, 0, 1, 11) := by decide +kernel
theorem f131_50 : mFetch 131 50 = some (.invokevirtual 198, 3, 117, 0, 3, 10) := by decide +kernel
theorem f131_53 : mFetch 131 53 = some (.ireturn, 1, 0, 0, 0, 0) := by decide +kernel
theorem b131_0 {X : (Nat → Int) × Nat} {d : Nat} {s : mSt} {Q : mQ} (h_1 : Sp X d 6 [mR 18] s (fun r s' => ∃ v : Int, r = some (mI v) ∧ Wp X (d + 1) 131 10 [some (mR 0)] [mI v] s' Q)) : Wp X (d + 1) 131 0 [some (mR 0)] [] s Q := Wp_step k131 f131_0 (Wp_step k131 f131_1 ⟨kf_0, 7, rf_0_5, Wp_step k131 f131_4 ⟨kf_7, 18, rf_7_1, Wp_step k131 f131_7 ⟨⟨kf_18, Nat.le_of_ble_eq_true rfl⟩, Nat.le_refl _, _, rfl, Sp_E h_1⟩⟩⟩)
theorem b131_10 {X : (Nat → Int) × Nat} {d : Nat} {s : mSt} {Q : mQ} {xt0 : Int} (h_1 : xt0 = 0 → Wp X d 131 29 [some (mR 0)] [] s Q) (h_2 : ¬ xt0 = 0 → Wp X d 131 13 [some (mR 0)] [] s Q) : Wp X d 131 10 [some (mR 0)] [mI xt0] s Q := Wp_step k131 f131_10 ⟨h_1, h_2⟩
theorem b131_13 {X : (Nat → Int) × Nat} {d : Nat} {s : mSt} {Q : mQ} (h_1 : (s 18 4) < 999 → Wp X d 131 31 [some (mR 0)] [] s Q) (h_2 : ¬ (s 18 4) < 999 → Wp X d 131 29 [some (mR 0)] [] s Q) : Wp X d 131 13 [some (mR 0)] [] s Q := Wp_step k131 f131_13 (Wp_step k131 f131_14 ⟨kf_0, 7, rf_0_5, Wp_step k131 f131_17 ⟨kf_7, 18, rf_7_1, Wp_step k131 f131_20 ⟨kf_18, Wp_step k131 f131_23 (Wp_step k131 f131_26 ⟨h_1, h_2⟩)⟩⟩⟩)
theorem b131_29 {X : (Nat → Int) × Nat} {d : Nat} {s : mSt} {Q : mQ} (h_1 : Q (some (mI (-1))) s) : Wp X d 131 29 [some (mR 0)] [] s Q := Wp_step k131 f131_29 (Wp_step k131 f131_30 ⟨⟨rfl, trivial⟩, h_1⟩)
theorem b131_31 {X : (Nat → Int) × Nat} {d : Nat} {s : mSt} {Q : mQ} (h_1 : Sp X d 165 [mR 0] s (fun r s' => r = none ∧ Wp X (d + 1) 131 35 [some (mR 0)] [] s' Q)) : Wp X (d + 1) 131 31 [some (mR 0)] [] s Q := Wp_step k131 f131_31 (Wp_step k131 f131_32 ⟨⟨kf_0, Nat.le_of_ble_eq_true rfl⟩, Nat.le_refl _, _, rfl, Sp_V h_1⟩)
theorem b131_35 {X : (Nat → Int) × Nat} {d : Nat} {s : mSt} {Q : mQ} (h_1 : Sp X d 164 [mR 0] s (fun r s' => ∃ v : Option Nat, r = some (Sum.inr (Sum.inr (Sum.inl v))) ∧ Wp X (d + 1) 131 50 [some (mR 0)] [Sum.inr (Sum.inr (Sum.inl v)), mR 18, mR 50] s' Q)) : Wp X (d + 1) 131 35 [some (mR 0)] [] s Q := Wp_step k131 f131_35 (Wp_step k131 f131_36 ⟨kf_0, 50, rf_0_11, Wp_step k131 f131_39 (Wp_step k131 f131_40 ⟨kf_0, 7, rf_0_5, Wp_step k131 f131_43 ⟨kf_7, 18, rf_7_1, Wp_step k131 f131_46 (Wp_step k131 f131_47 ⟨⟨kf_0, Nat.le_of_ble_eq_true rfl⟩, Nat.le_refl _, _, rfl, Sp_E h_1⟩)⟩⟩)⟩)
theorem b131_50 {X : (Nat → Int) × Nat} {d : Nat} {s : mSt} {Q : mQ} {ot2 : Option Nat} (h_1 : Sp X d 117 [mR 50, mR 18, Sum.inr (Sum.inr (Sum.inl ot2))] s (fun r s' => ∃ v : Int, r = some (mI v) ∧ Wp X (d + 1) 131 53 [some (mR 0)] [mI v] s' Q)) : Wp X (d + 1) 131 50 [some (mR 0)] [Sum.inr (Sum.inr (Sum.inl ot2)), mR 18, mR 50] s Q := Wp_step k131 f131_50 ⟨⟨kf_50, Nat.le_of_ble_eq_true rfl⟩, Nat.le_refl _, _, rfl, Sp_E h_1⟩
theorem b131_53 {X : (Nat → Int) × Nat} {d : Nat} {s : mSt} {Q : mQ} {xt0 : Int} (h_1 : Q (some (mI xt0)) s) : Wp X d 131 53 [some (mR 0)] [mI xt0] s Q := Wp_step k131 f131_53 ⟨⟨rfl, trivial⟩, h_1⟩
theorem e131 {X : (Nat → Int) × Nat} {d : Nat} {s : mSt} {Q : mQ} (h : Wp X d 131 0 [some (mR 0)] [] s Q) : Sp X d 131 [mR 0] s Q := Sp_of (show mCe 131 = 0 by decide +kernel) (by rw [show mML 131 = 1 by decide +kernel]; rfl) (Nat.le_trans (Nat.le_of_ble_eq_true (show Nat.ble (mArgs _).length 1 = true from rfl)) (show 1 ≤ mML 131 by decide +kernel)) h
-- 132 ClashDay.plan(I)I
theorem k132 : mRk 132 = 1 := by decide +kernel
theorem f132_0 : mFetch 132 0 = some (.aload_n 0, 1, 0, 0, 0, 0) := by decide +kernel
theorem f132_1 : mFetch 132 1 = some (.getfield 41, 3, 11, 5, 2, 1) := by decide +kernel
theorem f132_4 : mFetch 132 4 = some (.getfield 116, 3, 7, 1, 2, 0) := by decide +kernel
theorem f132_7 : mFetch 132 7 = some (.astore_n 2, 1, 0, 0, 0, 0) := by decide +kernel
theorem f132_8 : mFetch 132 8 = some (.aload_n 2, 1, 0, 0, 0, 0) := by decide +kernel
theorem f132_9 : mFetch 132 9 = some (.iload_n 1, 1, 0, 0, 0, 0) := by decide +kernel
theorem f132_10 : mFetch 132 10 = some (.invokevirtual 167, 3, 10, 0, 2, 0) := by decide +kernel
theorem f132_13 : mFetch 132 13 = some (.ifCond .eq 21, 3, 34, 0, 0, 0) := by decide +kernel
theorem f132_16 : mFetch 132 16 = some (.aload_n 0, 1, 0, 0, 0, 0) := by decide +kernel
theorem f132_17 : mFetch 132 17 = some (.getfield 63, 3, 11, 10, 2, 1) := by decide +kernel
theorem f132_20 : mFetch 132 20 = some (.aload_n 2, 1, 0, 0, 0, 0) := by decide +kernel
theorem f132_21 : mFetch 132 21 = some (.iload_n 1, 1, 0, 0, 0, 0) := by decide +kernel
theorem f132_22 : mFetch 132 22 = some (.aload_n 2, 1, 0, 0, 0, 0) := by decide +kernel
theorem f132_23 : mFetch 132 23 = some (.getfield 158, 3, 0, 8, 2, 0) := by decide +kernel
theorem f132_26 : mFetch 132 26 = some (.iload_n 1, 1, 0, 0, 0, 0) := by decide +kernel
theorem f132_27 : mFetch 132 27 = some (.iaload, 1, 0, 0, 0, 0) := by decide +kernel
theorem f132_28 : mFetch 132 28 = some (.invokevirtual 202, 3, 59, 0, 4, 4) := by decide +kernel
theorem f132_31 : mFetch 132 31 = some (.ifCond .ne 5, 3, 36, 0, 0, 0) := by decide +kernel
theorem f132_34 : mFetch 132 34 = some (.iconst (-1), 1, 0, 0, 0, 0) := by decide +kernel
theorem f132_35 : mFetch 132 35 = some (.ireturn, 1, 0, 0, 0, 0) := by decide +kernel
theorem f132_36 : mFetch 132 36 = some (.aload_n 0, 1, 0, 0, 0, 0) := by decide +kernel
theorem f132_37 : mFetch 132 37 = some (.invokevirtual 191, 3, 165, 0, 1, 11) := by decide +kernel
theorem f132_40 : mFetch 132 40 = some (.aload_n 2, 1, 0, 0, 0, 0) := by decide +kernel
theorem f132_41 : mFetch 132 41 = some (.iload_n 1, 1, 0, 0, 0, 0) := by decide +kernel
theorem f132_42 : mFetch 132 42 = some (.aload_n 0, 1, 0, 0, 0, 0) := by decide +kernel
theorem f132_43 : mFetch 132 43 = some (.getfield 63, 3, 11, 10, 2, 1) := by decide +kernel
theorem f132_46 : mFetch 132 46 = some (.invokevirtual 206, 3, 23, 0, 3, 0) := by decide +kernel
theorem f132_49 : mFetch 132 49 = some (.aload_n 0, 1, 0, 0, 0, 0) := by decide +kernel
theorem f132_50 : mFetch 132 50 = some (.getfield 63, 3, 11, 10, 2, 1) := by decide +kernel
theorem f132_53 : mFetch 132 53 = some (.getfield 210, 3, 4, 10, 0, 0) := by decide +kernel
theorem f132_56 : mFetch 132 56 = some (.ireturn, 1, 0, 0, 0, 0) := by decide +kernel
theorem b132_0 {X : (Nat → Int) × Nat} {d : Nat} {s : mSt} {Q : mQ} {x1 : Int} {l2 : Option mV} (h_1 : Sp X d 10 [mR 18, mI x1] s (fun r s' => ∃ v : Int, r = some (mI v) ∧ Wp X (d + 1) 132 13 [some (mR 0), some (mI x1), some (mR 18)] [mI v] s' Q)) : Wp X (d + 1) 132 0 [some (mR 0), some (mI x1), l2] [] s Q := Wp_step k132 f132_0 (Wp_step k132 f132_1 ⟨kf_0, 7, rf_0_5, Wp_step k132 f132_4 ⟨kf_7, 18, rf_7_1, Wp_step k132 f132_7 (Wp_step k132 f132_8 (Wp_step k132 f132_9 (Wp_step k132 f132_10 ⟨⟨kf_18, Nat.le_of_ble_eq_true rfl⟩, Nat.le_refl _, _, rfl, Sp_E h_1⟩)))⟩⟩)
theorem b132_13 {X : (Nat → Int) × Nat} {d : Nat} {s : mSt} {Q : mQ} {x1 : Int} {xt0 : Int} (h_1 : xt0 = 0 → Wp X d 132 34 [some (mR 0), some (mI x1), some (mR 18)] [] s Q) (h_2 : ¬ xt0 = 0 → Wp X d 132 16 [some (mR 0), some (mI x1), some (mR 18)] [] s Q) : Wp X d 132 13 [some (mR 0), some (mI x1), some (mR 18)] [mI xt0] s Q := Wp_step k132 f132_13 ⟨h_1, h_2⟩
theorem b132_16 {X : (Nat → Int) × Nat} {d : Nat} {s : mSt} {Q : mQ} {x1 : Int} (h_1 : 0 ≤ x1 ∧ x1 < 6) (h_2 : Sp X d 59 [mR 44, mR 18, mI x1, mI (s 21 x1.toNat)] s (fun r s' => ∃ v : Int, r = some (mI v) ∧ Wp X (d + 1) 132 31 [some (mR 0), some (mI x1), some (mR 18)] [mI v] s' Q)) : Wp X (d + 1) 132 16 [some (mR 0), some (mI x1), some (mR 18)] [] s Q := Wp_step k132 f132_16 (Wp_step k132 f132_17 ⟨kf_0, 44, rf_0_10, Wp_step k132 f132_20 (Wp_step k132 f132_21 (Wp_step k132 f132_22 (Wp_step k132 f132_23 ⟨kf_18, 21, rf_18_8, Wp_step k132 f132_26 (Wp_step k132 f132_27 ⟨6, af_21, h_1, Wp_step k132 f132_28 ⟨⟨kf_44, Nat.le_of_ble_eq_true rfl⟩, Nat.le_refl _, _, rfl, Sp_E h_2⟩⟩)⟩)))⟩)
theorem b132_31 {X : (Nat → Int) × Nat} {d : Nat} {s : mSt} {Q : mQ} {x1 : Int} {xt0 : Int} (h_1 : ¬ xt0 = 0 → Wp X d 132 36 [some (mR 0), some (mI x1), some (mR 18)] [] s Q) (h_2 : xt0 = 0 → Wp X d 132 34 [some (mR 0), some (mI x1), some (mR 18)] [] s Q) : Wp X d 132 31 [some (mR 0), some (mI x1), some (mR 18)] [mI xt0] s Q := Wp_step k132 f132_31 ⟨h_1, h_2⟩
theorem b132_34 {X : (Nat → Int) × Nat} {d : Nat} {s : mSt} {Q : mQ} {x1 : Int} (h_1 : Q (some (mI (-1))) s) : Wp X d 132 34 [some (mR 0), some (mI x1), some (mR 18)] [] s Q := Wp_step k132 f132_34 (Wp_step k132 f132_35 ⟨⟨rfl, trivial⟩, h_1⟩)
theorem b132_36 {X : (Nat → Int) × Nat} {d : Nat} {s : mSt} {Q : mQ} {x1 : Int} (h_1 : Sp X d 165 [mR 0] s (fun r s' => r = none ∧ Wp X (d + 1) 132 40 [some (mR 0), some (mI x1), some (mR 18)] [] s' Q)) : Wp X (d + 1) 132 36 [some (mR 0), some (mI x1), some (mR 18)] [] s Q := Wp_step k132 f132_36 (Wp_step k132 f132_37 ⟨⟨kf_0, Nat.le_of_ble_eq_true rfl⟩, Nat.le_refl _, _, rfl, Sp_V h_1⟩)
theorem b132_40 {X : (Nat → Int) × Nat} {d : Nat} {s : mSt} {Q : mQ} {x1 : Int} (h_1 : Sp X d 23 [mR 18, mI x1, mR 44] s (fun r s' => r = none ∧ Wp X (d + 1) 132 49 [some (mR 0), some (mI x1), some (mR 18)] [] s' Q)) : Wp X (d + 1) 132 40 [some (mR 0), some (mI x1), some (mR 18)] [] s Q := Wp_step k132 f132_40 (Wp_step k132 f132_41 (Wp_step k132 f132_42 (Wp_step k132 f132_43 ⟨kf_0, 44, rf_0_10, Wp_step k132 f132_46 ⟨⟨kf_18, Nat.le_of_ble_eq_true rfl⟩, Nat.le_refl _, _, rfl, Sp_V h_1⟩⟩)))
theorem b132_49 {X : (Nat → Int) × Nat} {d : Nat} {s : mSt} {Q : mQ} {x1 : Int} (h_1 : Q (some (mI (s 44 10))) s) : Wp X d 132 49 [some (mR 0), some (mI x1), some (mR 18)] [] s Q := Wp_step k132 f132_49 (Wp_step k132 f132_50 ⟨kf_0, 44, rf_0_10, Wp_step k132 f132_53 ⟨kf_44, Wp_step k132 f132_56 ⟨⟨rfl, trivial⟩, h_1⟩⟩⟩)
theorem e132 {X : (Nat → Int) × Nat} {d : Nat} {s : mSt} {Q : mQ} {x1 : Int} (h : Wp X d 132 0 [some (mR 0), some (mI x1), none] [] s Q) : Sp X d 132 [mR 0, mI x1] s Q := Sp_of (show mCe 132 = 0 by decide +kernel) (by rw [show mML 132 = 3 by decide +kernel]; rfl) (Nat.le_trans (Nat.le_of_ble_eq_true (show Nat.ble (mArgs _).length 3 = true from rfl)) (show 3 ≤ mML 132 by decide +kernel)) h
-- 133 ClashDay.drop(I)I
theorem k133 : mRk 133 = 1 := by decide +kernel
theorem f133_0 : mFetch 133 0 = some (.aload_n 0, 1, 0, 0, 0, 0) := by decide +kernel
theorem f133_1 : mFetch 133 1 = some (.getfield 41, 3, 11, 5, 2, 1) := by decide +kernel
theorem f133_4 : mFetch 133 4 = some (.getfield 116, 3, 7, 1, 2, 0) := by decide +kernel
theorem f133_7 : mFetch 133 7 = some (.iload_n 1, 1, 0, 0, 0, 0) := by decide +kernel
theorem f133_8 : mFetch 133 8 = some (.invokevirtual 213, 3, 9, 0, 2, 0) := by decide +kernel
theorem f133_11 : mFetch 133 11 = some (.ifCond .ne 5, 3, 16, 0, 0, 0) := by decide +kernel
theorem f133_14 : mFetch 133 14 = some (.iconst (-1), 1, 0, 0, 0, 0) := by decide +kernel
theorem f133_15 : mFetch 133 15 = some (.ireturn, 1, 0, 0, 0, 0) := by decide +kernel
theorem f133_16 : mFetch 133 16 = some (.aload_n 0, 1, 0, 0, 0, 0) := by decide +kernel
theorem f133_17 : mFetch 133 17 = some (.invokevirtual 191, 3, 165, 0, 1, 11) := by decide +kernel
theorem f133_20 : mFetch 133 20 = some (.aload_n 0, 1, 0, 0, 0, 0) := by decide +kernel
theorem f133_21 : mFetch 133 21 = some (.getfield 41, 3, 11, 5, 2, 1) := by decide +kernel
theorem f133_24 : mFetch 133 24 = some (.getfield 116, 3, 7, 1, 2, 0) := by decide +kernel
theorem f133_27 : mFetch 133 27 = some (.iload_n 1, 1, 0, 0, 0, 0) := by decide +kernel
theorem f133_28 : mFetch 133 28 = some (.invokevirtual 216, 3, 24, 0, 2, 0) := by decide +kernel
theorem f133_31 : mFetch 133 31 = some (.aload_n 0, 1, 0, 0, 0, 0) := by decide +kernel
theorem f133_32 : mFetch 133 32 = some (.getfield 41, 3, 11, 5, 2, 1) := by decide +kernel
theorem f133_35 : mFetch 133 35 = some (.getfield 116, 3, 7, 1, 2, 0) := by decide +kernel
theorem f133_38 : mFetch 133 38 = some (.invokevirtual 219, 3, 11, 0, 1, 0) := by decide +kernel
theorem f133_41 : mFetch 133 41 = some (.invokestatic 223, 3, 309, 0, 1, 99) := by decide +kernel
theorem f133_44 : mFetch 133 44 = some (.ireturn, 1, 0, 0, 0, 0) := by decide +kernel
theorem b133_0 {X : (Nat → Int) × Nat} {d : Nat} {s : mSt} {Q : mQ} {x1 : Int} (h_1 : Sp X d 9 [mR 18, mI x1] s (fun r s' => ∃ v : Int, r = some (mI v) ∧ Wp X (d + 1) 133 11 [some (mR 0), some (mI x1)] [mI v] s' Q)) : Wp X (d + 1) 133 0 [some (mR 0), some (mI x1)] [] s Q := Wp_step k133 f133_0 (Wp_step k133 f133_1 ⟨kf_0, 7, rf_0_5, Wp_step k133 f133_4 ⟨kf_7, 18, rf_7_1, Wp_step k133 f133_7 (Wp_step k133 f133_8 ⟨⟨kf_18, Nat.le_of_ble_eq_true rfl⟩, Nat.le_refl _, _, rfl, Sp_E h_1⟩)⟩⟩)
theorem b133_11 {X : (Nat → Int) × Nat} {d : Nat} {s : mSt} {Q : mQ} {x1 : Int} {xt0 : Int} (h_1 : ¬ xt0 = 0 → Wp X d 133 16 [some (mR 0), some (mI x1)] [] s Q) (h_2 : xt0 = 0 → Wp X d 133 14 [some (mR 0), some (mI x1)] [] s Q) : Wp X d 133 11 [some (mR 0), some (mI x1)] [mI xt0] s Q := Wp_step k133 f133_11 ⟨h_1, h_2⟩
theorem b133_14 {X : (Nat → Int) × Nat} {d : Nat} {s : mSt} {Q : mQ} {x1 : Int} (h_1 : Q (some (mI (-1))) s) : Wp X d 133 14 [some (mR 0), some (mI x1)] [] s Q := Wp_step k133 f133_14 (Wp_step k133 f133_15 ⟨⟨rfl, trivial⟩, h_1⟩)
theorem b133_16 {X : (Nat → Int) × Nat} {d : Nat} {s : mSt} {Q : mQ} {x1 : Int} (h_1 : Sp X d 165 [mR 0] s (fun r s' => r = none ∧ Wp X (d + 1) 133 20 [some (mR 0), some (mI x1)] [] s' Q)) : Wp X (d + 1) 133 16 [some (mR 0), some (mI x1)] [] s Q := Wp_step k133 f133_16 (Wp_step k133 f133_17 ⟨⟨kf_0, Nat.le_of_ble_eq_true rfl⟩, Nat.le_refl _, _, rfl, Sp_V h_1⟩)
theorem b133_20 {X : (Nat → Int) × Nat} {d : Nat} {s : mSt} {Q : mQ} {x1 : Int} (h_1 : Sp X d 24 [mR 18, mI x1] s (fun r s' => r = none ∧ Wp X (d + 1) 133 31 [some (mR 0), some (mI x1)] [] s' Q)) : Wp X (d + 1) 133 20 [some (mR 0), some (mI x1)] [] s Q := Wp_step k133 f133_20 (Wp_step k133 f133_21 ⟨kf_0, 7, rf_0_5, Wp_step k133 f133_24 ⟨kf_7, 18, rf_7_1, Wp_step k133 f133_27 (Wp_step k133 f133_28 ⟨⟨kf_18, Nat.le_of_ble_eq_true rfl⟩, Nat.le_refl _, _, rfl, Sp_V h_1⟩)⟩⟩)
theorem b133_31 {X : (Nat → Int) × Nat} {d : Nat} {s : mSt} {Q : mQ} {x1 : Int} (h_1 : Sp X d 11 [mR 18] s (fun r s' => ∃ v : Int, r = some (mI v) ∧ Wp X (d + 1) 133 41 [some (mR 0), some (mI x1)] [mI v] s' Q)) : Wp X (d + 1) 133 31 [some (mR 0), some (mI x1)] [] s Q := Wp_step k133 f133_31 (Wp_step k133 f133_32 ⟨kf_0, 7, rf_0_5, Wp_step k133 f133_35 ⟨kf_7, 18, rf_7_1, Wp_step k133 f133_38 ⟨⟨kf_18, Nat.le_of_ble_eq_true rfl⟩, Nat.le_refl _, _, rfl, Sp_E h_1⟩⟩⟩)
theorem b133_41 {X : (Nat → Int) × Nat} {d : Nat} {s : mSt} {Q : mQ} {x1 : Int} {xt0 : Int} (h_1 : Sp X d 309 [mI xt0] s (fun r s' => ∃ v : Int, r = some (mI v) ∧ Wp X (d + 1) 133 44 [some (mR 0), some (mI x1)] [mI v] s' Q)) : Wp X (d + 1) 133 41 [some (mR 0), some (mI x1)] [mI xt0] s Q := Wp_step k133 f133_41 ⟨⟨Nat.le_of_ble_eq_true rfl, Nat.le_refl _⟩, _, rfl, Sp_E h_1⟩
theorem b133_44 {X : (Nat → Int) × Nat} {d : Nat} {s : mSt} {Q : mQ} {x1 : Int} {xt0 : Int} (h_1 : Q (some (mI xt0)) s) : Wp X d 133 44 [some (mR 0), some (mI x1)] [mI xt0] s Q := Wp_step k133 f133_44 ⟨⟨rfl, trivial⟩, h_1⟩
theorem e133 {X : (Nat → Int) × Nat} {d : Nat} {s : mSt} {Q : mQ} {x1 : Int} (h : Wp X d 133 0 [some (mR 0), some (mI x1)] [] s Q) : Sp X d 133 [mR 0, mI x1] s Q := Sp_of (show mCe 133 = 0 by decide +kernel) (by rw [show mML 133 = 2 by decide +kernel]; rfl) (Nat.le_trans (Nat.le_of_ble_eq_true (show Nat.ble (mArgs _).length 2 = true from rfl)) (show 2 ≤ mML 133 by decide +kernel)) h
-- 134 ClashDay.delay(II)I
theorem k134 : mRk 134 = 1 := by decide +kernel
theorem f134_0 : mFetch 134 0 = some (.aload_n 0, 1, 0, 0, 0, 0) := by decide +kernel
theorem f134_1 : mFetch 134 1 = some (.getfield 41, 3, 11, 5, 2, 1) := by decide +kernel
theorem f134_4 : mFetch 134 4 = some (.getfield 116, 3, 7, 1, 2, 0) := by decide +kernel
theorem f134_7 : mFetch 134 7 = some (.astore_n 3, 1, 0, 0, 0, 0) := by decide +kernel
theorem f134_8 : mFetch 134 8 = some (.iload_n 2, 1, 0, 0, 0, 0) := by decide +kernel
theorem f134_9 : mFetch 134 9 = some (.iconst 1, 1, 0, 0, 0, 0) := by decide +kernel
theorem f134_10 : mFetch 134 10 = some (.if_icmp .lt 17, 3, 27, 0, 0, 0) := by decide +kernel
theorem f134_13 : mFetch 134 13 = some (.iload_n 2, 1, 0, 0, 0, 0) := by decide +kernel
theorem f134_14 : mFetch 134 14 = some (.bipush 9, 2, 0, 0, 0, 0) := by decide +kernel
theorem f134_16 : mFetch 134 16 = some (.if_icmp .gt 11, 3, 27, 0, 0, 0) := by decide +kernel
theorem f134_19 : mFetch 134 19 = some (.aload_n 3, 1, 0, 0, 0, 0) := by decide +kernel
theorem f134_20 : mFetch 134 20 = some (.iload_n 1, 1, 0, 0, 0, 0) := by decide +kernel
theorem f134_21 : mFetch 134 21 = some (.invokevirtual 228, 3, 25, 0, 2, 0) := by decide +kernel
theorem f134_24 : mFetch 134 24 = some (.ifCond .ne 5, 3, 29, 0, 0, 0) := by decide +kernel
theorem f134_27 : mFetch 134 27 = some (.iconst (-1), 1, 0, 0, 0, 0) := by decide +kernel
theorem f134_28 : mFetch 134 28 = some (.ireturn, 1, 0, 0, 0, 0) := by decide +kernel
theorem f134_29 : mFetch 134 29 = some (.aload_n 0, 1, 0, 0, 0, 0) := by decide +kernel
theorem f134_30 : mFetch 134 30 = some (.invokevirtual 191, 3, 165, 0, 1, 11) := by decide +kernel
theorem f134_33 : mFetch 134 33 = some (.aload_n 3, 1, 0, 0, 0, 0) := by decide +kernel
theorem f134_34 : mFetch 134 34 = some (.iload_n 1, 1, 0, 0, 0, 0) := by decide +kernel
theorem f134_35 : mFetch 134 35 = some (.iload_n 2, 1, 0, 0, 0, 0) := by decide +kernel
theorem f134_36 : mFetch 134 36 = some (.invokevirtual 231, 3, 26, 0, 3, 0) := by decide +kernel
theorem f134_39 : mFetch 134 39 = some (.aload_n 3, 1, 0, 0, 0, 0) := by decide +kernel
theorem f134_40 : mFetch 134 40 = some (.getfield 144, 3, 0, 6, 2, 0) := by decide +kernel
theorem f134_43 : mFetch 134 43 = some (.iload_n 1, 1, 0, 0, 0, 0) := by decide +kernel
theorem f134_44 : mFetch 134 44 = some (.iaload, 1, 0, 0, 0, 0) := by decide +kernel
theorem f134_45 : mFetch 134 45 = some (.ireturn, 1, 0, 0, 0, 0) := by decide +kernel
theorem b134_0 {X : (Nat → Int) × Nat} {d : Nat} {s : mSt} {Q : mQ} {x1 : Int} {x2 : Int} {l3 : Option mV} (h_1 : x2 < 1 → Wp X d 134 27 [some (mR 0), some (mI x1), some (mI x2), some (mR 18)] [] s Q) (h_2 : ¬ x2 < 1 → Wp X d 134 13 [some (mR 0), some (mI x1), some (mI x2), some (mR 18)] [] s Q) : Wp X d 134 0 [some (mR 0), some (mI x1), some (mI x2), l3] [] s Q := Wp_step k134 f134_0 (Wp_step k134 f134_1 ⟨kf_0, 7, rf_0_5, Wp_step k134 f134_4 ⟨kf_7, 18, rf_7_1, Wp_step k134 f134_7 (Wp_step k134 f134_8 (Wp_step k134 f134_9 (Wp_step k134 f134_10 ⟨h_1, h_2⟩)))⟩⟩)
theorem b134_13 {X : (Nat → Int) × Nat} {d : Nat} {s : mSt} {Q : mQ} {x1 : Int} {x2 : Int} (h_1 : 9 < x2 → Wp X d 134 27 [some (mR 0), some (mI x1), some (mI x2), some (mR 18)] [] s Q) (h_2 : ¬ 9 < x2 → Wp X d 134 19 [some (mR 0), some (mI x1), some (mI x2), some (mR 18)] [] s Q) : Wp X d 134 13 [some (mR 0), some (mI x1), some (mI x2), some (mR 18)] [] s Q := Wp_step k134 f134_13 (Wp_step k134 f134_14 (Wp_step k134 f134_16 ⟨h_1, h_2⟩))
theorem b134_19 {X : (Nat → Int) × Nat} {d : Nat} {s : mSt} {Q : mQ} {x1 : Int} {x2 : Int} (h_1 : Sp X d 25 [mR 18, mI x1] s (fun r s' => ∃ v : Int, r = some (mI v) ∧ Wp X (d + 1) 134 24 [some (mR 0), some (mI x1), some (mI x2), some (mR 18)] [mI v] s' Q)) : Wp X (d + 1) 134 19 [some (mR 0), some (mI x1), some (mI x2), some (mR 18)] [] s Q := Wp_step k134 f134_19 (Wp_step k134 f134_20 (Wp_step k134 f134_21 ⟨⟨kf_18, Nat.le_of_ble_eq_true rfl⟩, Nat.le_refl _, _, rfl, Sp_E h_1⟩))
theorem b134_24 {X : (Nat → Int) × Nat} {d : Nat} {s : mSt} {Q : mQ} {x1 : Int} {x2 : Int} {xt0 : Int} (h_1 : ¬ xt0 = 0 → Wp X d 134 29 [some (mR 0), some (mI x1), some (mI x2), some (mR 18)] [] s Q) (h_2 : xt0 = 0 → Wp X d 134 27 [some (mR 0), some (mI x1), some (mI x2), some (mR 18)] [] s Q) : Wp X d 134 24 [some (mR 0), some (mI x1), some (mI x2), some (mR 18)] [mI xt0] s Q := Wp_step k134 f134_24 ⟨h_1, h_2⟩
theorem b134_27 {X : (Nat → Int) × Nat} {d : Nat} {s : mSt} {Q : mQ} {x1 : Int} {x2 : Int} (h_1 : Q (some (mI (-1))) s) : Wp X d 134 27 [some (mR 0), some (mI x1), some (mI x2), some (mR 18)] [] s Q := Wp_step k134 f134_27 (Wp_step k134 f134_28 ⟨⟨rfl, trivial⟩, h_1⟩)
theorem b134_29 {X : (Nat → Int) × Nat} {d : Nat} {s : mSt} {Q : mQ} {x1 : Int} {x2 : Int} (h_1 : Sp X d 165 [mR 0] s (fun r s' => r = none ∧ Wp X (d + 1) 134 33 [some (mR 0), some (mI x1), some (mI x2), some (mR 18)] [] s' Q)) : Wp X (d + 1) 134 29 [some (mR 0), some (mI x1), some (mI x2), some (mR 18)] [] s Q := Wp_step k134 f134_29 (Wp_step k134 f134_30 ⟨⟨kf_0, Nat.le_of_ble_eq_true rfl⟩, Nat.le_refl _, _, rfl, Sp_V h_1⟩)
theorem b134_33 {X : (Nat → Int) × Nat} {d : Nat} {s : mSt} {Q : mQ} {x1 : Int} {x2 : Int} (h_1 : Sp X d 26 [mR 18, mI x1, mI x2] s (fun r s' => r = none ∧ Wp X (d + 1) 134 39 [some (mR 0), some (mI x1), some (mI x2), some (mR 18)] [] s' Q)) : Wp X (d + 1) 134 33 [some (mR 0), some (mI x1), some (mI x2), some (mR 18)] [] s Q := Wp_step k134 f134_33 (Wp_step k134 f134_34 (Wp_step k134 f134_35 (Wp_step k134 f134_36 ⟨⟨kf_18, Nat.le_of_ble_eq_true rfl⟩, Nat.le_refl _, _, rfl, Sp_V h_1⟩)))
theorem b134_39 {X : (Nat → Int) × Nat} {d : Nat} {s : mSt} {Q : mQ} {x1 : Int} {x2 : Int} (h_1 : 0 ≤ x1 ∧ x1 < 5) (h_2 : Q (some (mI (s 19 x1.toNat))) s) : Wp X d 134 39 [some (mR 0), some (mI x1), some (mI x2), some (mR 18)] [] s Q := Wp_step k134 f134_39 (Wp_step k134 f134_40 ⟨kf_18, 19, rf_18_6, Wp_step k134 f134_43 (Wp_step k134 f134_44 ⟨5, af_19, h_1, Wp_step k134 f134_45 ⟨⟨rfl, trivial⟩, h_2⟩⟩)⟩)
theorem e134 {X : (Nat → Int) × Nat} {d : Nat} {s : mSt} {Q : mQ} {x1 : Int} {x2 : Int} (h : Wp X d 134 0 [some (mR 0), some (mI x1), some (mI x2), none] [] s Q) : Sp X d 134 [mR 0, mI x1, mI x2] s Q := Sp_of (show mCe 134 = 0 by decide +kernel) (by rw [show mML 134 = 4 by decide +kernel]; rfl) (Nat.le_trans (Nat.le_of_ble_eq_true (show Nat.ble (mArgs _).length 4 = true from rfl)) (show 4 ≤ mML 134 by decide +kernel)) h
-- 135 ClashDay.take(II)I
theorem k135 : mRk 135 = 1 := by decide +kernel
theorem f135_0 : mFetch 135 0 = some (.aload_n 0, 1, 0, 0, 0, 0) := by decide +kernel
theorem f135_1 : mFetch 135 1 = some (.getfield 41, 3, 11, 5, 2, 1) := by decide +kernel
theorem f135_4 : mFetch 135 4 = some (.getfield 116, 3, 7, 1, 2, 0) := by decide +kernel
theorem f135_7 : mFetch 135 7 = some (.astore_n 3, 1, 0, 0, 0, 0) := by decide +kernel
theorem f135_8 : mFetch 135 8 = some (.aload_n 3, 1, 0, 0, 0, 0) := by decide +kernel
theorem f135_9 : mFetch 135 9 = some (.invokevirtual 170, 3, 6, 0, 1, 0) := by decide +kernel
theorem f135_12 : mFetch 135 12 = some (.ifCond .eq 30, 3, 42, 0, 0, 0) := by decide +kernel
theorem f135_15 : mFetch 135 15 = some (.iload_n 1, 1, 0, 0, 0, 0) := by decide +kernel
theorem f135_16 : mFetch 135 16 = some (.invokestatic 174, 3, 163, 0, 1, 99) := by decide +kernel
theorem f135_19 : mFetch 135 19 = some (.ifCond .eq 23, 3, 42, 0, 0, 0) := by decide +kernel
theorem f135_22 : mFetch 135 22 = some (.iload_n 2, 1, 0, 0, 0, 0) := by decide +kernel
theorem f135_23 : mFetch 135 23 = some (.ifCond .lt 19, 3, 42, 0, 0, 0) := by decide +kernel
theorem f135_26 : mFetch 135 26 = some (.iload_n 2, 1, 0, 0, 0, 0) := by decide +kernel
theorem f135_27 : mFetch 135 27 = some (.bipush 9, 2, 0, 0, 0, 0) := by decide +kernel
theorem f135_29 : mFetch 135 29 = some (.if_icmp .gt 13, 3, 42, 0, 0, 0) := by decide +kernel
theorem f135_32 : mFetch 135 32 = some (.aload_n 3, 1, 0, 0, 0, 0) := by decide +kernel
theorem f135_33 : mFetch 135 33 = some (.getfield 235, 3, 0, 11, 2, 0) := by decide +kernel
theorem f135_36 : mFetch 135 36 = some (.iload_n 1, 1, 0, 0, 0, 0) := by decide +kernel
theorem f135_37 : mFetch 135 37 = some (.iaload, 1, 0, 0, 0, 0) := by decide +kernel
theorem f135_38 : mFetch 135 38 = some (.iload_n 2, 1, 0, 0, 0, 0) := by decide +kernel
theorem f135_39 : mFetch 135 39 = some (.if_icmp .ne 5, 3, 44, 0, 0, 0) := by decide +kernel
theorem f135_42 : mFetch 135 42 = some (.iconst (-1), 1, 0, 0, 0, 0) := by decide +kernel
theorem f135_43 : mFetch 135 43 = some (.ireturn, 1, 0, 0, 0, 0) := by decide +kernel
theorem f135_44 : mFetch 135 44 = some (.aload_n 0, 1, 0, 0, 0, 0) := by decide +kernel
theorem f135_45 : mFetch 135 45 = some (.invokevirtual 191, 3, 165, 0, 1, 11) := by decide +kernel
theorem f135_48 : mFetch 135 48 = some (.aload_n 3, 1, 0, 0, 0, 0) := by decide +kernel
theorem f135_49 : mFetch 135 49 = some (.getfield 235, 3, 0, 11, 2, 0) := by decide +kernel
theorem f135_52 : mFetch 135 52 = some (.iload_n 1, 1, 0, 0, 0, 0) := by decide +kernel
theorem f135_53 : mFetch 135 53 = some (.iaload, 1, 0, 0, 0, 0) := by decide +kernel
theorem f135_54 : mFetch 135 54 = some (.istore 4, 2, 0, 0, 0, 0) := by decide +kernel
theorem f135_56 : mFetch 135 56 = some (.aload_n 3, 1, 0, 0, 0, 0) := by decide +kernel
theorem f135_57 : mFetch 135 57 = some (.getfield 235, 3, 0, 11, 2, 0) := by decide +kernel
theorem f135_60 : mFetch 135 60 = some (.iload_n 1, 1, 0, 0, 0, 0) := by decide +kernel
theorem f135_61 : mFetch 135 61 = some (.iload_n 2, 1, 0, 0, 0, 0) := by decide +kernel
theorem f135_62 : mFetch 135 62 = some (.iastore, 1, 0, 0, 0, 0) := by decide +kernel
theorem f135_63 : mFetch 135 63 = some (.iload 4, 2, 0, 0, 0, 0) := by decide +kernel
theorem f135_65 : mFetch 135 65 = some (.ireturn, 1, 0, 0, 0, 0) := by decide +kernel
theorem b135_0 {X : (Nat → Int) × Nat} {d : Nat} {s : mSt} {Q : mQ} {x1 : Int} {x2 : Int} {l3 : Option mV} {l4 : Option mV} (h_1 : Sp X d 6 [mR 18] s (fun r s' => ∃ v : Int, r = some (mI v) ∧ Wp X (d + 1) 135 12 [some (mR 0), some (mI x1), some (mI x2), some (mR 18), l4] [mI v] s' Q)) : Wp X (d + 1) 135 0 [some (mR 0), some (mI x1), some (mI x2), l3, l4] [] s Q := Wp_step k135 f135_0 (Wp_step k135 f135_1 ⟨kf_0, 7, rf_0_5, Wp_step k135 f135_4 ⟨kf_7, 18, rf_7_1, Wp_step k135 f135_7 (Wp_step k135 f135_8 (Wp_step k135 f135_9 ⟨⟨kf_18, Nat.le_of_ble_eq_true rfl⟩, Nat.le_refl _, _, rfl, Sp_E h_1⟩))⟩⟩)
theorem b135_12 {X : (Nat → Int) × Nat} {d : Nat} {s : mSt} {Q : mQ} {x1 : Int} {x2 : Int} {l4 : Option mV} {xt0 : Int} (h_1 : xt0 = 0 → Wp X d 135 42 [some (mR 0), some (mI x1), some (mI x2), some (mR 18), l4] [] s Q) (h_2 : ¬ xt0 = 0 → Wp X d 135 15 [some (mR 0), some (mI x1), some (mI x2), some (mR 18), l4] [] s Q) : Wp X d 135 12 [some (mR 0), some (mI x1), some (mI x2), some (mR 18), l4] [mI xt0] s Q := Wp_step k135 f135_12 ⟨h_1, h_2⟩
theorem b135_15 {X : (Nat → Int) × Nat} {d : Nat} {s : mSt} {Q : mQ} {x1 : Int} {x2 : Int} {l4 : Option mV} (h_1 : Sp X d 163 [mI x1] s (fun r s' => ∃ v : Int, r = some (mI v) ∧ Wp X (d + 1) 135 19 [some (mR 0), some (mI x1), some (mI x2), some (mR 18), l4] [mI v] s' Q)) : Wp X (d + 1) 135 15 [some (mR 0), some (mI x1), some (mI x2), some (mR 18), l4] [] s Q := Wp_step k135 f135_15 (Wp_step k135 f135_16 ⟨⟨Nat.le_of_ble_eq_true rfl, Nat.le_refl _⟩, _, rfl, Sp_E h_1⟩)
theorem b135_19 {X : (Nat → Int) × Nat} {d : Nat} {s : mSt} {Q : mQ} {x1 : Int} {x2 : Int} {l4 : Option mV} {xt0 : Int} (h_1 : xt0 = 0 → Wp X d 135 42 [some (mR 0), some (mI x1), some (mI x2), some (mR 18), l4] [] s Q) (h_2 : ¬ xt0 = 0 → Wp X d 135 22 [some (mR 0), some (mI x1), some (mI x2), some (mR 18), l4] [] s Q) : Wp X d 135 19 [some (mR 0), some (mI x1), some (mI x2), some (mR 18), l4] [mI xt0] s Q := Wp_step k135 f135_19 ⟨h_1, h_2⟩
theorem b135_22 {X : (Nat → Int) × Nat} {d : Nat} {s : mSt} {Q : mQ} {x1 : Int} {x2 : Int} {l4 : Option mV} (h_1 : x2 < 0 → Wp X d 135 42 [some (mR 0), some (mI x1), some (mI x2), some (mR 18), l4] [] s Q) (h_2 : ¬ x2 < 0 → Wp X d 135 26 [some (mR 0), some (mI x1), some (mI x2), some (mR 18), l4] [] s Q) : Wp X d 135 22 [some (mR 0), some (mI x1), some (mI x2), some (mR 18), l4] [] s Q := Wp_step k135 f135_22 (Wp_step k135 f135_23 ⟨h_1, h_2⟩)
theorem b135_26 {X : (Nat → Int) × Nat} {d : Nat} {s : mSt} {Q : mQ} {x1 : Int} {x2 : Int} {l4 : Option mV} (h_1 : 9 < x2 → Wp X d 135 42 [some (mR 0), some (mI x1), some (mI x2), some (mR 18), l4] [] s Q) (h_2 : ¬ 9 < x2 → Wp X d 135 32 [some (mR 0), some (mI x1), some (mI x2), some (mR 18), l4] [] s Q) : Wp X d 135 26 [some (mR 0), some (mI x1), some (mI x2), some (mR 18), l4] [] s Q := Wp_step k135 f135_26 (Wp_step k135 f135_27 (Wp_step k135 f135_29 ⟨h_1, h_2⟩))
theorem b135_32 {X : (Nat → Int) × Nat} {d : Nat} {s : mSt} {Q : mQ} {x1 : Int} {x2 : Int} {l4 : Option mV} (h_1 : 0 ≤ x1 ∧ x1 < 30) (h_2 : ¬ (s 24 x1.toNat) = x2 → Wp X d 135 44 [some (mR 0), some (mI x1), some (mI x2), some (mR 18), l4] [] s Q) (h_3 : (s 24 x1.toNat) = x2 → Wp X d 135 42 [some (mR 0), some (mI x1), some (mI x2), some (mR 18), l4] [] s Q) : Wp X d 135 32 [some (mR 0), some (mI x1), some (mI x2), some (mR 18), l4] [] s Q := Wp_step k135 f135_32 (Wp_step k135 f135_33 ⟨kf_18, 24, rf_18_11, Wp_step k135 f135_36 (Wp_step k135 f135_37 ⟨30, af_24, h_1, Wp_step k135 f135_38 (Wp_step k135 f135_39 ⟨h_2, h_3⟩)⟩)⟩)
theorem b135_42 {X : (Nat → Int) × Nat} {d : Nat} {s : mSt} {Q : mQ} {x1 : Int} {x2 : Int} {l4 : Option mV} (h_1 : Q (some (mI (-1))) s) : Wp X d 135 42 [some (mR 0), some (mI x1), some (mI x2), some (mR 18), l4] [] s Q := Wp_step k135 f135_42 (Wp_step k135 f135_43 ⟨⟨rfl, trivial⟩, h_1⟩)
theorem b135_44 {X : (Nat → Int) × Nat} {d : Nat} {s : mSt} {Q : mQ} {x1 : Int} {x2 : Int} {l4 : Option mV} (h_1 : Sp X d 165 [mR 0] s (fun r s' => r = none ∧ Wp X (d + 1) 135 48 [some (mR 0), some (mI x1), some (mI x2), some (mR 18), l4] [] s' Q)) : Wp X (d + 1) 135 44 [some (mR 0), some (mI x1), some (mI x2), some (mR 18), l4] [] s Q := Wp_step k135 f135_44 (Wp_step k135 f135_45 ⟨⟨kf_0, Nat.le_of_ble_eq_true rfl⟩, Nat.le_refl _, _, rfl, Sp_V h_1⟩)
theorem b135_48 {X : (Nat → Int) × Nat} {d : Nat} {s : mSt} {Q : mQ} {x1 : Int} {x2 : Int} {l4 : Option mV} (h_1 : 0 ≤ x1 ∧ x1 < 30) (h_2 : 0 ≤ x1 ∧ x1 < 30) (h_3 : Q (some (mI (s 24 x1.toNat))) (uS s 24 x1.toNat x2)) : Wp X d 135 48 [some (mR 0), some (mI x1), some (mI x2), some (mR 18), l4] [] s Q := Wp_step k135 f135_48 (Wp_step k135 f135_49 ⟨kf_18, 24, rf_18_11, Wp_step k135 f135_52 (Wp_step k135 f135_53 ⟨30, af_24, h_1, Wp_step k135 f135_54 (Wp_step k135 f135_56 (Wp_step k135 f135_57 ⟨kf_18, 24, rf_18_11, Wp_step k135 f135_60 (Wp_step k135 f135_61 (Wp_step k135 f135_62 ⟨30, af_24, h_2, Wp_step k135 f135_63 (Wp_step k135 f135_65 ⟨⟨rfl, trivial⟩, h_3⟩)⟩))⟩))⟩)⟩)
theorem e135 {X : (Nat → Int) × Nat} {d : Nat} {s : mSt} {Q : mQ} {x1 : Int} {x2 : Int} (h : Wp X d 135 0 [some (mR 0), some (mI x1), some (mI x2), none, none] [] s Q) : Sp X d 135 [mR 0, mI x1, mI x2] s Q := Sp_of (show mCe 135 = 0 by decide +kernel) (by rw [show mML 135 = 5 by decide +kernel]; rfl) (Nat.le_trans (Nat.le_of_ble_eq_true (show Nat.ble (mArgs _).length 5 = true from rfl)) (show 5 ≤ mML 135 by decide +kernel)) h
-- 136 ClashDay.undo()I
theorem k136 : mRk 136 = 1 := by decide +kernel
theorem f136_0 : mFetch 136 0 = some (.aload_n 0, 1, 0, 0, 0, 0) := by decide +kernel
theorem f136_1 : mFetch 136 1 = some (.getfield 126, 3, 11, 8, 0, 1) := by decide +kernel
theorem f136_4 : mFetch 136 4 = some (.ifCond .ne 5, 3, 9, 0, 0, 0) := by decide +kernel
theorem f136_7 : mFetch 136 7 = some (.iconst (-1), 1, 0, 0, 0, 0) := by decide +kernel
theorem f136_8 : mFetch 136 8 = some (.ireturn, 1, 0, 0, 0, 0) := by decide +kernel
theorem f136_9 : mFetch 136 9 = some (.aload_n 0, 1, 0, 0, 0, 0) := by decide +kernel
theorem f136_10 : mFetch 136 10 = some (.dup, 1, 0, 0, 0, 0) := by decide +kernel
theorem f136_11 : mFetch 136 11 = some (.getfield 126, 3, 11, 8, 0, 1) := by decide +kernel
theorem f136_14 : mFetch 136 14 = some (.iconst 1, 1, 0, 0, 0, 0) := by decide +kernel
theorem f136_15 : mFetch 136 15 = some (.isub, 1, 0, 0, 0, 0) := by decide +kernel
theorem f136_16 : mFetch 136 16 = some (.putfield 126, 3, 11, 8, 0, 1) := by decide +kernel
theorem f136_19 : mFetch 136 19 = some (.aload_n 0, 1, 0, 0, 0, 0) := by decide +kernel
theorem f136_20 : mFetch 136 20 = some (.getfield 41, 3, 11, 5, 2, 1) := by decide +kernel
theorem f136_23 : mFetch 136 23 = some (.getfield 116, 3, 7, 1, 2, 0) := by decide +kernel
theorem f136_26 : mFetch 136 26 = some (.aload_n 0, 1, 0, 0, 0, 0) := by decide +kernel
theorem f136_27 : mFetch 136 27 = some (.getfield 51, 3, 11, 7, 2, 1) := by decide +kernel
theorem f136_30 : mFetch 136 30 = some (.aload_n 0, 1, 0, 0, 0, 0) := by decide +kernel
theorem f136_31 : mFetch 136 31 = some (.getfield 126, 3, 11, 8, 0, 1) := by decide +kernel
theorem f136_34 : mFetch 136 34 = some (.aaload, 1, 0, 0, 0, 0) := by decide +kernel
theorem f136_35 : mFetch 136 35 = some (.invokevirtual 112, 3, 3, 0, 2, 0) := by decide +kernel
theorem f136_38 : mFetch 136 38 = some (.aload_n 0, 1, 0, 0, 0, 0) := by decide +kernel
theorem f136_39 : mFetch 136 39 = some (.getfield 126, 3, 11, 8, 0, 1) := by decide +kernel
theorem f136_42 : mFetch 136 42 = some (.ireturn, 1, 0, 0, 0, 0) := by decide +kernel
theorem b136_0 {X : (Nat → Int) × Nat} {d : Nat} {s : mSt} {Q : mQ} (h_1 : ¬ (s 0 8) = 0 → Wp X d 136 9 [some (mR 0)] [] s Q) (h_2 : (s 0 8) = 0 → Wp X d 136 7 [some (mR 0)] [] s Q) : Wp X d 136 0 [some (mR 0)] [] s Q := Wp_step k136 f136_0 (Wp_step k136 f136_1 ⟨kf_0, Wp_step k136 f136_4 ⟨h_1, h_2⟩⟩)
theorem b136_7 {X : (Nat → Int) × Nat} {d : Nat} {s : mSt} {Q : mQ} (h_1 : Q (some (mI (-1))) s) : Wp X d 136 7 [some (mR 0)] [] s Q := Wp_step k136 f136_7 (Wp_step k136 f136_8 ⟨⟨rfl, trivial⟩, h_1⟩)
theorem b136_9 {X : (Nat → Int) × Nat} {d : Nat} {s : mSt} {Q : mQ} {r1 : Nat} (hr1 : isBd r1) (h_1 : 0 ≤ ((uS s 0 8 (w32 ((s 0 8) - 1))) 0 8) ∧ ((uS s 0 8 (w32 ((s 0 8) - 1))) 0 8) < 20) (h_2 : (uS s 0 8 (w32 ((s 0 8) - 1))) 33 ((uS s 0 8 (w32 ((s 0 8) - 1))) 0 8).toNat = (r1 : Int)) (h_3 : Sp X d 3 [mR 18, mR r1] (uS s 0 8 (w32 ((s 0 8) - 1))) (fun r s' => r = none ∧ Wp X (d + 1) 136 38 [some (mR 0)] [] s' Q)) : Wp X (d + 1) 136 9 [some (mR 0)] [] s Q := Wp_step k136 f136_9 (Wp_step k136 f136_10 (Wp_step k136 f136_11 ⟨kf_0, Wp_step k136 f136_14 (Wp_step k136 f136_15 (Wp_step k136 f136_16 ⟨kf_0, Wp_step k136 f136_19 (Wp_step k136 f136_20 ⟨kf_0, 7, rf_0_5, Wp_step k136 f136_23 ⟨kf_7, 18, rf_7_1, Wp_step k136 f136_26 (Wp_step k136 f136_27 ⟨kf_0, 33, rf_0_7, Wp_step k136 f136_30 (Wp_step k136 f136_31 ⟨kf_0, Wp_step k136 f136_34 ⟨25, 20, af_33, ⟨by decide, by decide⟩, h_1, r1, h_2, Wp_step k136 f136_35 ⟨⟨kf_18, Nat.le_of_ble_eq_true rfl⟩, Nat.le_refl _, _, rfl, Sp_V h_3⟩⟩⟩)⟩)⟩⟩)⟩))⟩))
theorem b136_38 {X : (Nat → Int) × Nat} {d : Nat} {s : mSt} {Q : mQ} (h_1 : Q (some (mI (s 0 8))) s) : Wp X d 136 38 [some (mR 0)] [] s Q := Wp_step k136 f136_38 (Wp_step k136 f136_39 ⟨kf_0, Wp_step k136 f136_42 ⟨⟨rfl, trivial⟩, h_1⟩⟩)
theorem e136 {X : (Nat → Int) × Nat} {d : Nat} {s : mSt} {Q : mQ} (h : Wp X d 136 0 [some (mR 0)] [] s Q) : Sp X d 136 [mR 0] s Q := Sp_of (show mCe 136 = 0 by decide +kernel) (by rw [show mML 136 = 1 by decide +kernel]; rfl) (Nat.le_trans (Nat.le_of_ble_eq_true (show Nat.ble (mArgs _).length 1 = true from rfl)) (show 1 ≤ mML 136 by decide +kernel)) h
