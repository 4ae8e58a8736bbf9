-- 271 ClashDayModel.keptIn(I)I
theorem k271 : mRk 271 = 1 := by decide +kernel
theorem f271_0 : mFetch 271 0 = some (.iconst 0, 1, 0, 0, 0, 0) := by decide +kernel
theorem f271_1 : mFetch 271 1 = some (.istore_n 2, 1, 0, 0, 0, 0) := by decide +kernel
theorem f271_2 : mFetch 271 2 = some (.iconst 0, 1, 0, 0, 0, 0) := by decide +kernel
theorem f271_3 : mFetch 271 3 = some (.istore_n 3, 1, 0, 0, 0, 0) := by decide +kernel
theorem f271_4 : mFetch 271 4 = some (.iload_n 3, 1, 0, 0, 0, 0) := by decide +kernel
theorem f271_5 : mFetch 271 5 = some (.aload_n 0, 1, 0, 0, 0, 0) := by decide +kernel
theorem f271_6 : mFetch 271 6 = some (.getfield 39, 3, 12, 20, 2, 1) := by decide +kernel
theorem f271_9 : mFetch 271 9 = some (.iconst 4, 1, 0, 0, 0, 0) := by decide +kernel
theorem f271_10 : mFetch 271 10 = some (.iaload, 1, 0, 0, 0, 0) := by decide +kernel
theorem f271_11 : mFetch 271 11 = some (.if_icmp .ge 34, 3, 45, 0, 0, 0) := by decide +kernel
theorem f271_14 : mFetch 271 14 = some (.iload_n 2, 1, 0, 0, 0, 0) := by decide +kernel
theorem f271_15 : mFetch 271 15 = some (.aload_n 0, 1, 0, 0, 0, 0) := by decide +kernel
theorem f271_16 : mFetch 271 16 = some (.iload_n 3, 1, 0, 0, 0, 0) := by decide +kernel
theorem f271_17 : mFetch 271 17 = some (.invokevirtual 334, 3, 216, 0, 2, 12) := by decide +kernel
theorem f271_20 : mFetch 271 20 = some (.ifCond .eq 16, 3, 36, 0, 0, 0) := by decide +kernel
theorem f271_23 : mFetch 271 23 = some (.aload_n 0, 1, 0, 0, 0, 0) := by decide +kernel
theorem f271_24 : mFetch 271 24 = some (.iload_n 3, 1, 0, 0, 0, 0) := by decide +kernel
theorem f271_25 : mFetch 271 25 = some (.iload_n 1, 1, 0, 0, 0, 0) := by decide +kernel
theorem f271_26 : mFetch 271 26 = some (.invokevirtual 340, 3, 224, 0, 3, 12) := by decide +kernel
theorem f271_29 : mFetch 271 29 = some (.ifCond .eq 7, 3, 36, 0, 0, 0) := by decide +kernel
theorem f271_32 : mFetch 271 32 = some (.iconst 1, 1, 0, 0, 0, 0) := by decide +kernel
theorem f271_33 : mFetch 271 33 = some (.goto 4, 3, 37, 0, 0, 0) := by decide +kernel
theorem f271_36 : mFetch 271 36 = some (.iconst 0, 1, 0, 0, 0, 0) := by decide +kernel
theorem f271_37 : mFetch 271 37 = some (.iadd, 1, 0, 0, 0, 0) := by decide +kernel
theorem f271_38 : mFetch 271 38 = some (.istore_n 2, 1, 0, 0, 0, 0) := by decide +kernel
theorem f271_39 : mFetch 271 39 = some (.iinc 3 1, 3, 0, 0, 0, 0) := by decide +kernel
theorem f271_42 : mFetch 271 42 = some (.goto (-38), 3, 4, 0, 0, 0) := by decide +kernel
theorem f271_45 : mFetch 271 45 = some (.iload_n 2, 1, 0, 0, 0, 0) := by decide +kernel
theorem f271_46 : mFetch 271 46 = some (.ireturn, 1, 0, 0, 0, 0) := by decide +kernel
theorem b271_0 {X : (Nat → Int) × Nat} {d : Nat} {s : mSt} {Q : mQ} {x1 : Int} {l2 : Option mV} {l3 : Option mV} (h_1 : Wp X d 271 4 [some (mR 407), some (mI x1), some (mI 0), some (mI 0)] [] s Q) : Wp X d 271 0 [some (mR 407), some (mI x1), l2, l3] [] s Q := Wp_step k271 f271_0 (Wp_step k271 f271_1 (Wp_step k271 f271_2 (Wp_step k271 f271_3 (h_1))))
theorem b271_4 {X : (Nat → Int) × Nat} {d : Nat} {s : mSt} {Q : mQ} {x1 : Int} {x2 : Int} {x3 : Int} (h_1 : (s 417 4) ≤ x3 → Wp X d 271 45 [some (mR 407), some (mI x1), some (mI x2), some (mI x3)] [] s Q) (h_2 : ¬ (s 417 4) ≤ x3 → Wp X d 271 14 [some (mR 407), some (mI x1), some (mI x2), some (mI x3)] [] s Q) : Wp X d 271 4 [some (mR 407), some (mI x1), some (mI x2), some (mI x3)] [] s Q := Wp_step k271 f271_4 (Wp_step k271 f271_5 (Wp_step k271 f271_6 ⟨kf_407, 417, rf_407_20, Wp_step k271 f271_9 (Wp_step k271 f271_10 ⟨166, af_417, ⟨by decide, by decide⟩, Wp_step k271 f271_11 ⟨h_1, h_2⟩⟩)⟩))
theorem b271_14 {X : (Nat → Int) × Nat} {d : Nat} {s : mSt} {Q : mQ} {x1 : Int} {x2 : Int} {x3 : Int} (h_1 : Sp X d 216 [mR 407, mI x3] s (fun r s' => ∃ v : Int, r = some (mI v) ∧ Wp X (d + 1) 271 20 [some (mR 407), some (mI x1), some (mI x2), some (mI x3)] [mI v, mI x2] s' Q)) : Wp X (d + 1) 271 14 [some (mR 407), some (mI x1), some (mI x2), some (mI x3)] [] s Q := Wp_step k271 f271_14 (Wp_step k271 f271_15 (Wp_step k271 f271_16 (Wp_step k271 f271_17 ⟨⟨kf_407, Nat.le_of_ble_eq_true rfl⟩, Nat.le_refl _, _, rfl, Sp_E h_1⟩)))
theorem b271_20 {X : (Nat → Int) × Nat} {d : Nat} {s : mSt} {Q : mQ} {x1 : Int} {x2 : Int} {x3 : Int} {xt0 : Int} {xt1 : Int} (h_1 : xt1 = 0 → Wp X d 271 36 [some (mR 407), some (mI x1), some (mI x2), some (mI x3)] [mI xt0] s Q) (h_2 : ¬ xt1 = 0 → Wp X d 271 23 [some (mR 407), some (mI x1), some (mI x2), some (mI x3)] [mI xt0] s Q) : Wp X d 271 20 [some (mR 407), some (mI x1), some (mI x2), some (mI x3)] [mI xt1, mI xt0] s Q := Wp_step k271 f271_20 ⟨h_1, h_2⟩
theorem b271_23 {X : (Nat → Int) × Nat} {d : Nat} {s : mSt} {Q : mQ} {x1 : Int} {x2 : Int} {x3 : Int} {xt0 : Int} (h_1 : Sp X d 224 [mR 407, mI x3, mI x1] s (fun r s' => ∃ v : Int, r = some (mI v) ∧ Wp X (d + 1) 271 29 [some (mR 407), some (mI x1), some (mI x2), some (mI x3)] [mI v, mI xt0] s' Q)) : Wp X (d + 1) 271 23 [some (mR 407), some (mI x1), some (mI x2), some (mI x3)] [mI xt0] s Q := Wp_step k271 f271_23 (Wp_step k271 f271_24 (Wp_step k271 f271_25 (Wp_step k271 f271_26 ⟨⟨kf_407, Nat.le_of_ble_eq_true rfl⟩, Nat.le_refl _, _, rfl, Sp_E h_1⟩)))
theorem b271_29 {X : (Nat → Int) × Nat} {d : Nat} {s : mSt} {Q : mQ} {x1 : Int} {x2 : Int} {x3 : Int} {xt0 : Int} {xt1 : Int} (h_1 : xt1 = 0 → Wp X d 271 36 [some (mR 407), some (mI x1), some (mI x2), some (mI x3)] [mI xt0] s Q) (h_2 : ¬ xt1 = 0 → Wp X d 271 32 [some (mR 407), some (mI x1), some (mI x2), some (mI x3)] [mI xt0] s Q) : Wp X d 271 29 [some (mR 407), some (mI x1), some (mI x2), some (mI x3)] [mI xt1, mI xt0] s Q := Wp_step k271 f271_29 ⟨h_1, h_2⟩
theorem b271_32 {X : (Nat → Int) × Nat} {d : Nat} {s : mSt} {Q : mQ} {x1 : Int} {x2 : Int} {x3 : Int} {xt0 : Int} (h_1 : Wp X d 271 37 [some (mR 407), some (mI x1), some (mI x2), some (mI x3)] [mI 1, mI xt0] s Q) : Wp X d 271 32 [some (mR 407), some (mI x1), some (mI x2), some (mI x3)] [mI xt0] s Q := Wp_step k271 f271_32 (Wp_step k271 f271_33 (h_1))
theorem b271_36 {X : (Nat → Int) × Nat} {d : Nat} {s : mSt} {Q : mQ} {x1 : Int} {x2 : Int} {x3 : Int} {xt0 : Int} (h_1 : Wp X d 271 37 [some (mR 407), some (mI x1), some (mI x2), some (mI x3)] [mI 0, mI xt0] s Q) : Wp X d 271 36 [some (mR 407), some (mI x1), some (mI x2), some (mI x3)] [mI xt0] s Q := Wp_step k271 f271_36 (h_1)
theorem b271_37 {X : (Nat → Int) × Nat} {d : Nat} {s : mSt} {Q : mQ} {x1 : Int} {x2 : Int} {x3 : Int} {xt0 : Int} {xt1 : Int} (h_1 : Wp X d 271 4 [some (mR 407), some (mI x1), some (mI (w32 (xt0 + xt1))), some (mI (w32 (x3 + 1)))] [] s Q) : Wp X d 271 37 [some (mR 407), some (mI x1), some (mI x2), some (mI x3)] [mI xt1, mI xt0] s Q := Wp_step k271 f271_37 (Wp_step k271 f271_38 (Wp_step k271 f271_39 (Wp_step k271 f271_42 (h_1))))
theorem b271_45 {X : (Nat → Int) × Nat} {d : Nat} {s : mSt} {Q : mQ} {x1 : Int} {x2 : Int} {x3 : Int} (h_1 : Q (some (mI x2)) s) : Wp X d 271 45 [some (mR 407), some (mI x1), some (mI x2), some (mI x3)] [] s Q := Wp_step k271 f271_45 (Wp_step k271 f271_46 ⟨⟨rfl, trivial⟩, h_1⟩)
theorem e271 {X : (Nat → Int) × Nat} {d : Nat} {s : mSt} {Q : mQ} {x1 : Int} (h : Wp X d 271 0 [some (mR 407), some (mI x1), none, none] [] s Q) : Sp X d 271 [mR 407, mI x1] s Q := Sp_of (show mCe 271 = 0 by decide +kernel) (by rw [show mML 271 = 4 by decide +kernel]; rfl) (Nat.le_trans (Nat.le_of_ble_eq_true (show Nat.ble (mArgs _).length 4 = true from rfl)) (show 4 ≤ mML 271 by decide +kernel)) h
-- 272 ClashDayModel.watchers(II)I
theorem k272 : mRk 272 = 1 := by decide +kernel
theorem f272_0 : mFetch 272 0 = some (.aload_n 0, 1, 0, 0, 0, 0) := by decide +kernel
theorem f272_1 : mFetch 272 1 = some (.invokevirtual 354, 3, 212, 0, 1, 12) := by decide +kernel
theorem f272_4 : mFetch 272 4 = some (.ifCond .eq 25, 3, 29, 0, 0, 0) := by decide +kernel
theorem f272_7 : mFetch 272 7 = some (.iload_n 1, 1, 0, 0, 0, 0) := by decide +kernel
theorem f272_8 : mFetch 272 8 = some (.i2l, 1, 0, 0, 0, 0) := by decide +kernel
theorem f272_9 : mFetch 272 9 = some (.lconst 1, 1, 0, 0, 0, 0) := by decide +kernel
theorem f272_10 : mFetch 272 10 = some (.ldc2_w 477, 3, 6, 0, 0, 0) := by decide +kernel
theorem f272_13 : mFetch 272 13 = some (.invokestatic 151, 3, 167, 0, 3, 99) := by decide +kernel
theorem f272_16 : mFetch 272 16 = some (.ifCond .eq 13, 3, 29, 0, 0, 0) := by decide +kernel
theorem f272_19 : mFetch 272 19 = some (.iload_n 2, 1, 0, 0, 0, 0) := by decide +kernel
theorem f272_20 : mFetch 272 20 = some (.i2l, 1, 0, 0, 0, 0) := by decide +kernel
theorem f272_21 : mFetch 272 21 = some (.lconst 0, 1, 0, 0, 0, 0) := by decide +kernel
theorem f272_22 : mFetch 272 22 = some (.lconst 1, 1, 0, 0, 0, 0) := by decide +kernel
theorem f272_23 : mFetch 272 23 = some (.invokestatic 151, 3, 167, 0, 3, 99) := by decide +kernel
theorem f272_26 : mFetch 272 26 = some (.ifCond .ne 5, 3, 31, 0, 0, 0) := by decide +kernel
theorem f272_29 : mFetch 272 29 = some (.iconst (-1), 1, 0, 0, 0, 0) := by decide +kernel
theorem f272_30 : mFetch 272 30 = some (.ireturn, 1, 0, 0, 0, 0) := by decide +kernel
theorem f272_31 : mFetch 272 31 = some (.iconst 0, 1, 0, 0, 0, 0) := by decide +kernel
theorem f272_32 : mFetch 272 32 = some (.istore_n 3, 1, 0, 0, 0, 0) := by decide +kernel
theorem f272_33 : mFetch 272 33 = some (.iconst 0, 1, 0, 0, 0, 0) := by decide +kernel
theorem f272_34 : mFetch 272 34 = some (.istore 4, 2, 0, 0, 0, 0) := by decide +kernel
theorem f272_36 : mFetch 272 36 = some (.iconst 0, 1, 0, 0, 0, 0) := by decide +kernel
theorem f272_37 : mFetch 272 37 = some (.istore 5, 2, 0, 0, 0, 0) := by decide +kernel
theorem f272_39 : mFetch 272 39 = some (.iload 5, 2, 0, 0, 0, 0) := by decide +kernel
theorem f272_41 : mFetch 272 41 = some (.bipush 30, 2, 0, 0, 0, 0) := by decide +kernel
theorem f272_43 : mFetch 272 43 = some (.if_icmp .ge 39, 3, 82, 0, 0, 0) := by decide +kernel
theorem f272_46 : mFetch 272 46 = some (.aload_n 0, 1, 0, 0, 0, 0) := by decide +kernel
theorem f272_47 : mFetch 272 47 = some (.iload 5, 2, 0, 0, 0, 0) := by decide +kernel
theorem f272_49 : mFetch 272 49 = some (.invokevirtual 479, 3, 271, 0, 2, 12) := by decide +kernel
theorem f272_52 : mFetch 272 52 = some (.iload_n 1, 1, 0, 0, 0, 0) := by decide +kernel
theorem f272_53 : mFetch 272 53 = some (.iadd, 1, 0, 0, 0, 0) := by decide +kernel
theorem f272_54 : mFetch 272 54 = some (.iconst 1, 1, 0, 0, 0, 0) := by decide +kernel
theorem f272_55 : mFetch 272 55 = some (.isub, 1, 0, 0, 0, 0) := by decide +kernel
theorem f272_56 : mFetch 272 56 = some (.iload_n 1, 1, 0, 0, 0, 0) := by decide +kernel
theorem f272_57 : mFetch 272 57 = some (.idiv, 1, 0, 0, 0, 0) := by decide +kernel
theorem f272_58 : mFetch 272 58 = some (.istore 6, 2, 0, 0, 0, 0) := by decide +kernel
theorem f272_60 : mFetch 272 60 = some (.iload 6, 2, 0, 0, 0, 0) := by decide +kernel
theorem f272_62 : mFetch 272 62 = some (.iload_n 3, 1, 0, 0, 0, 0) := by decide +kernel
theorem f272_63 : mFetch 272 63 = some (.if_icmp .gt 6, 3, 69, 0, 0, 0) := by decide +kernel
theorem f272_66 : mFetch 272 66 = some (.goto 10, 3, 76, 0, 0, 0) := by decide +kernel
theorem f272_69 : mFetch 272 69 = some (.iload 6, 2, 0, 0, 0, 0) := by decide +kernel
theorem f272_71 : mFetch 272 71 = some (.istore_n 3, 1, 0, 0, 0, 0) := by decide +kernel
theorem f272_72 : mFetch 272 72 = some (.iload 5, 2, 0, 0, 0, 0) := by decide +kernel
theorem f272_74 : mFetch 272 74 = some (.istore 4, 2, 0, 0, 0, 0) := by decide +kernel
theorem f272_76 : mFetch 272 76 = some (.iinc 5 1, 3, 0, 0, 0, 0) := by decide +kernel
theorem f272_79 : mFetch 272 79 = some (.goto (-40), 3, 39, 0, 0, 0) := by decide +kernel
theorem f272_82 : mFetch 272 82 = some (.iload_n 2, 1, 0, 0, 0, 0) := by decide +kernel
theorem f272_83 : mFetch 272 83 = some (.ifCond .ne 7, 3, 90, 0, 0, 0) := by decide +kernel
theorem f272_86 : mFetch 272 86 = some (.iload_n 3, 1, 0, 0, 0, 0) := by decide +kernel
theorem f272_87 : mFetch 272 87 = some (.goto 5, 3, 92, 0, 0, 0) := by decide +kernel
theorem f272_90 : mFetch 272 90 = some (.iload 4, 2, 0, 0, 0, 0) := by decide +kernel
theorem f272_92 : mFetch 272 92 = some (.ireturn, 1, 0, 0, 0, 0) := by decide +kernel
theorem b272_0 {X : (Nat → Int) × Nat} {d : Nat} {s : mSt} {Q : mQ} {x1 : Int} {x2 : Int} {l3 : Option mV} {l4 : Option mV} {l5 : Option mV} {l6 : Option mV} (h_1 : Sp X d 212 [mR 407] s (fun r s' => ∃ v : Int, r = some (mI v) ∧ Wp X (d + 1) 272 4 [some (mR 407), some (mI x1), some (mI x2), l3, l4, l5, l6] [mI v] s' Q)) : Wp X (d + 1) 272 0 [some (mR 407), some (mI x1), some (mI x2), l3, l4, l5, l6] [] s Q := Wp_step k272 f272_0 (Wp_step k272 f272_1 ⟨⟨kf_407, Nat.le_of_ble_eq_true rfl⟩, Nat.le_refl _, _, rfl, Sp_E h_1⟩)
theorem b272_4 {X : (Nat → Int) × Nat} {d : Nat} {s : mSt} {Q : mQ} {x1 : Int} {x2 : Int} {l3 : Option mV} {l4 : Option mV} {l5 : Option mV} {l6 : Option mV} {xt0 : Int} (h_1 : xt0 = 0 → Wp X d 272 29 [some (mR 407), some (mI x1), some (mI x2), l3, l4, l5, l6] [] s Q) (h_2 : ¬ xt0 = 0 → Wp X d 272 7 [some (mR 407), some (mI x1), some (mI x2), l3, l4, l5, l6] [] s Q) : Wp X d 272 4 [some (mR 407), some (mI x1), some (mI x2), l3, l4, l5, l6] [mI xt0] s Q := Wp_step k272 f272_4 ⟨h_1, h_2⟩
theorem b272_7 {X : (Nat → Int) × Nat} {d : Nat} {s : mSt} {Q : mQ} {x1 : Int} {x2 : Int} {l3 : Option mV} {l4 : Option mV} {l5 : Option mV} {l6 : Option mV} (h_1 : Sp X d 167 [mJ x1, mJ 1, mJ 6] s (fun r s' => ∃ v : Int, r = some (mI v) ∧ Wp X (d + 1) 272 16 [some (mR 407), some (mI x1), some (mI x2), l3, l4, l5, l6] [mI v] s' Q)) : Wp X (d + 1) 272 7 [some (mR 407), some (mI x1), some (mI x2), l3, l4, l5, l6] [] s Q := Wp_step k272 f272_7 (Wp_step k272 f272_8 (Wp_step k272 f272_9 (Wp_step k272 f272_10 (Wp_step k272 f272_13 ⟨⟨Nat.le_of_ble_eq_true rfl, Nat.le_refl _⟩, _, rfl, Sp_E h_1⟩))))
theorem b272_16 {X : (Nat → Int) × Nat} {d : Nat} {s : mSt} {Q : mQ} {x1 : Int} {x2 : Int} {l3 : Option mV} {l4 : Option mV} {l5 : Option mV} {l6 : Option mV} {xt0 : Int} (h_1 : xt0 = 0 → Wp X d 272 29 [some (mR 407), some (mI x1), some (mI x2), l3, l4, l5, l6] [] s Q) (h_2 : ¬ xt0 = 0 → Wp X d 272 19 [some (mR 407), some (mI x1), some (mI x2), l3, l4, l5, l6] [] s Q) : Wp X d 272 16 [some (mR 407), some (mI x1), some (mI x2), l3, l4, l5, l6] [mI xt0] s Q := Wp_step k272 f272_16 ⟨h_1, h_2⟩
theorem b272_19 {X : (Nat → Int) × Nat} {d : Nat} {s : mSt} {Q : mQ} {x1 : Int} {x2 : Int} {l3 : Option mV} {l4 : Option mV} {l5 : Option mV} {l6 : Option mV} (h_1 : Sp X d 167 [mJ x2, mJ 0, mJ 1] s (fun r s' => ∃ v : Int, r = some (mI v) ∧ Wp X (d + 1) 272 26 [some (mR 407), some (mI x1), some (mI x2), l3, l4, l5, l6] [mI v] s' Q)) : Wp X (d + 1) 272 19 [some (mR 407), some (mI x1), some (mI x2), l3, l4, l5, l6] [] s Q := Wp_step k272 f272_19 (Wp_step k272 f272_20 (Wp_step k272 f272_21 (Wp_step k272 f272_22 (Wp_step k272 f272_23 ⟨⟨Nat.le_of_ble_eq_true rfl, Nat.le_refl _⟩, _, rfl, Sp_E h_1⟩))))
theorem b272_26 {X : (Nat → Int) × Nat} {d : Nat} {s : mSt} {Q : mQ} {x1 : Int} {x2 : Int} {l3 : Option mV} {l4 : Option mV} {l5 : Option mV} {l6 : Option mV} {xt0 : Int} (h_1 : ¬ xt0 = 0 → Wp X d 272 31 [some (mR 407), some (mI x1), some (mI x2), l3, l4, l5, l6] [] s Q) (h_2 : xt0 = 0 → Wp X d 272 29 [some (mR 407), some (mI x1), some (mI x2), l3, l4, l5, l6] [] s Q) : Wp X d 272 26 [some (mR 407), some (mI x1), some (mI x2), l3, l4, l5, l6] [mI xt0] s Q := Wp_step k272 f272_26 ⟨h_1, h_2⟩
theorem b272_29 {X : (Nat → Int) × Nat} {d : Nat} {s : mSt} {Q : mQ} {x1 : Int} {x2 : Int} {l3 : Option mV} {l4 : Option mV} {l5 : Option mV} {l6 : Option mV} (h_1 : Q (some (mI (-1))) s) : Wp X d 272 29 [some (mR 407), some (mI x1), some (mI x2), l3, l4, l5, l6] [] s Q := Wp_step k272 f272_29 (Wp_step k272 f272_30 ⟨⟨rfl, trivial⟩, h_1⟩)
theorem b272_31 {X : (Nat → Int) × Nat} {d : Nat} {s : mSt} {Q : mQ} {x1 : Int} {x2 : Int} {l3 : Option mV} {l4 : Option mV} {l5 : Option mV} {l6 : Option mV} (h_1 : Wp X d 272 39 [some (mR 407), some (mI x1), some (mI x2), some (mI 0), some (mI 0), some (mI 0), l6] [] s Q) : Wp X d 272 31 [some (mR 407), some (mI x1), some (mI x2), l3, l4, l5, l6] [] s Q := Wp_step k272 f272_31 (Wp_step k272 f272_32 (Wp_step k272 f272_33 (Wp_step k272 f272_34 (Wp_step k272 f272_36 (Wp_step k272 f272_37 (h_1))))))
theorem b272_39 {X : (Nat → Int) × Nat} {d : Nat} {s : mSt} {Q : mQ} {x1 : Int} {x2 : Int} {x3 : Int} {x4 : Int} {x5 : Int} {l6 : Option mV} (h_1 : 30 ≤ x5 → Wp X d 272 82 [some (mR 407), some (mI x1), some (mI x2), some (mI x3), some (mI x4), some (mI x5), l6] [] s Q) (h_2 : ¬ 30 ≤ x5 → Wp X d 272 46 [some (mR 407), some (mI x1), some (mI x2), some (mI x3), some (mI x4), some (mI x5), l6] [] s Q) : Wp X d 272 39 [some (mR 407), some (mI x1), some (mI x2), some (mI x3), some (mI x4), some (mI x5), l6] [] s Q := Wp_step k272 f272_39 (Wp_step k272 f272_41 (Wp_step k272 f272_43 ⟨h_1, h_2⟩))
theorem b272_46 {X : (Nat → Int) × Nat} {d : Nat} {s : mSt} {Q : mQ} {x1 : Int} {x2 : Int} {x3 : Int} {x4 : Int} {x5 : Int} {l6 : Option mV} (h_1 : Sp X d 271 [mR 407, mI x5] s (fun r s' => ∃ v : Int, r = some (mI v) ∧ Wp X (d + 1) 272 52 [some (mR 407), some (mI x1), some (mI x2), some (mI x3), some (mI x4), some (mI x5), l6] [mI v] s' Q)) : Wp X (d + 1) 272 46 [some (mR 407), some (mI x1), some (mI x2), some (mI x3), some (mI x4), some (mI x5), l6] [] s Q := Wp_step k272 f272_46 (Wp_step k272 f272_47 (Wp_step k272 f272_49 ⟨⟨kf_407, Nat.le_of_ble_eq_true rfl⟩, Nat.le_refl _, _, rfl, Sp_E h_1⟩))
theorem b272_52 {X : (Nat → Int) × Nat} {d : Nat} {s : mSt} {Q : mQ} {x1 : Int} {x2 : Int} {x3 : Int} {x4 : Int} {x5 : Int} {l6 : Option mV} {xt0 : Int} (h_1 : x1 ≠ 0) (h_2 : x3 < (w32 (Int.tdiv (w32 ((w32 (xt0 + x1)) - 1)) x1)) → Wp X d 272 69 [some (mR 407), some (mI x1), some (mI x2), some (mI x3), some (mI x4), some (mI x5), some (mI (w32 (Int.tdiv (w32 ((w32 (xt0 + x1)) - 1)) x1)))] [] s Q) (h_3 : ¬ x3 < (w32 (Int.tdiv (w32 ((w32 (xt0 + x1)) - 1)) x1)) → Wp X d 272 66 [some (mR 407), some (mI x1), some (mI x2), some (mI x3), some (mI x4), some (mI x5), some (mI (w32 (Int.tdiv (w32 ((w32 (xt0 + x1)) - 1)) x1)))] [] s Q) : Wp X d 272 52 [some (mR 407), some (mI x1), some (mI x2), some (mI x3), some (mI x4), some (mI x5), l6] [mI xt0] s Q := Wp_step k272 f272_52 (Wp_step k272 f272_53 (Wp_step k272 f272_54 (Wp_step k272 f272_55 (Wp_step k272 f272_56 (Wp_step k272 f272_57 ⟨h_1, Wp_step k272 f272_58 (Wp_step k272 f272_60 (Wp_step k272 f272_62 (Wp_step k272 f272_63 ⟨h_2, h_3⟩)))⟩)))))
theorem b272_66 {X : (Nat → Int) × Nat} {d : Nat} {s : mSt} {Q : mQ} {x1 : Int} {x2 : Int} {x3 : Int} {x4 : Int} {x5 : Int} {x6 : Int} (h_1 : Wp X d 272 76 [some (mR 407), some (mI x1), some (mI x2), some (mI x3), some (mI x4), some (mI x5), some (mI x6)] [] s Q) : Wp X d 272 66 [some (mR 407), some (mI x1), some (mI x2), some (mI x3), some (mI x4), some (mI x5), some (mI x6)] [] s Q := Wp_step k272 f272_66 (h_1)
theorem b272_69 {X : (Nat → Int) × Nat} {d : Nat} {s : mSt} {Q : mQ} {x1 : Int} {x2 : Int} {x3 : Int} {x4 : Int} {x5 : Int} {x6 : Int} (h_1 : Wp X d 272 76 [some (mR 407), some (mI x1), some (mI x2), some (mI x6), some (mI x5), some (mI x5), some (mI x6)] [] s Q) : Wp X d 272 69 [some (mR 407), some (mI x1), some (mI x2), some (mI x3), some (mI x4), some (mI x5), some (mI x6)] [] s Q := Wp_step k272 f272_69 (Wp_step k272 f272_71 (Wp_step k272 f272_72 (Wp_step k272 f272_74 (h_1))))
theorem b272_76 {X : (Nat → Int) × Nat} {d : Nat} {s : mSt} {Q : mQ} {x1 : Int} {x2 : Int} {x3 : Int} {x4 : Int} {x5 : Int} {x6 : Int} (h_1 : Wp X d 272 39 [some (mR 407), some (mI x1), some (mI x2), some (mI x3), some (mI x4), some (mI (w32 (x5 + 1))), some (mI x6)] [] s Q) : Wp X d 272 76 [some (mR 407), some (mI x1), some (mI x2), some (mI x3), some (mI x4), some (mI x5), some (mI x6)] [] s Q := Wp_step k272 f272_76 (Wp_step k272 f272_79 (h_1))
theorem b272_82 {X : (Nat → Int) × Nat} {d : Nat} {s : mSt} {Q : mQ} {x1 : Int} {x2 : Int} {x3 : Int} {x4 : Int} {x5 : Int} {l6 : Option mV} (h_1 : ¬ x2 = 0 → Wp X d 272 90 [some (mR 407), some (mI x1), some (mI x2), some (mI x3), some (mI x4), some (mI x5), l6] [] s Q) (h_2 : x2 = 0 → Wp X d 272 86 [some (mR 407), some (mI x1), some (mI x2), some (mI x3), some (mI x4), some (mI x5), l6] [] s Q) : Wp X d 272 82 [some (mR 407), some (mI x1), some (mI x2), some (mI x3), some (mI x4), some (mI x5), l6] [] s Q := Wp_step k272 f272_82 (Wp_step k272 f272_83 ⟨h_1, h_2⟩)
theorem b272_86 {X : (Nat → Int) × Nat} {d : Nat} {s : mSt} {Q : mQ} {x1 : Int} {x2 : Int} {x3 : Int} {x4 : Int} {x5 : Int} {l6 : Option mV} (h_1 : Wp X d 272 92 [some (mR 407), some (mI x1), some (mI x2), some (mI x3), some (mI x4), some (mI x5), l6] [mI x3] s Q) : Wp X d 272 86 [some (mR 407), some (mI x1), some (mI x2), some (mI x3), some (mI x4), some (mI x5), l6] [] s Q := Wp_step k272 f272_86 (Wp_step k272 f272_87 (h_1))
theorem b272_90 {X : (Nat → Int) × Nat} {d : Nat} {s : mSt} {Q : mQ} {x1 : Int} {x2 : Int} {x3 : Int} {x4 : Int} {x5 : Int} {l6 : Option mV} (h_1 : Wp X d 272 92 [some (mR 407), some (mI x1), some (mI x2), some (mI x3), some (mI x4), some (mI x5), l6] [mI x4] s Q) : Wp X d 272 90 [some (mR 407), some (mI x1), some (mI x2), some (mI x3), some (mI x4), some (mI x5), l6] [] s Q := Wp_step k272 f272_90 (h_1)
theorem b272_92 {X : (Nat → Int) × Nat} {d : Nat} {s : mSt} {Q : mQ} {x1 : Int} {x2 : Int} {x3 : Int} {x4 : Int} {x5 : Int} {l6 : Option mV} {xt0 : Int} (h_1 : Q (some (mI xt0)) s) : Wp X d 272 92 [some (mR 407), some (mI x1), some (mI x2), some (mI x3), some (mI x4), some (mI x5), l6] [mI xt0] s Q := Wp_step k272 f272_92 ⟨⟨rfl, trivial⟩, h_1⟩
theorem e272 {X : (Nat → Int) × Nat} {d : Nat} {s : mSt} {Q : mQ} {x1 : Int} {x2 : Int} (h : Wp X d 272 0 [some (mR 407), some (mI x1), some (mI x2), none, none, none, none] [] s Q) : Sp X d 272 [mR 407, mI x1, mI x2] s Q := Sp_of (show mCe 272 = 0 by decide +kernel) (by rw [show mML 272 = 7 by decide +kernel]; rfl) (Nat.le_trans (Nat.le_of_ble_eq_true (show Nat.ble (mArgs _).length 7 = true from rfl)) (show 7 ≤ mML 272 by decide +kernel)) h
-- 273 ClashDayModel.watches(II)V
theorem k273 : mRk 273 = 0 := by decide +kernel
theorem f273_0 : mFetch 273 0 = some (.iconst 0, 1, 0, 0, 0, 0) := by decide +kernel
theorem f273_1 : mFetch 273 1 = some (.istore_n 3, 1, 0, 0, 0, 0) := by decide +kernel
theorem f273_2 : mFetch 273 2 = some (.iload_n 3, 1, 0, 0, 0, 0) := by decide +kernel
theorem f273_3 : mFetch 273 3 = some (.bipush 6, 2, 0, 0, 0, 0) := by decide +kernel
theorem f273_5 : mFetch 273 5 = some (.if_icmp .ge 35, 3, 40, 0, 0, 0) := by decide +kernel
theorem f273_8 : mFetch 273 8 = some (.aload_n 0, 1, 0, 0, 0, 0) := by decide +kernel
theorem f273_9 : mFetch 273 9 = some (.getfield 73, 3, 12, 41, 2, 1) := by decide +kernel
theorem f273_12 : mFetch 273 12 = some (.iload_n 3, 1, 0, 0, 0, 0) := by decide +kernel
theorem f273_13 : mFetch 273 13 = some (.aload_n 0, 1, 0, 0, 0, 0) := by decide +kernel
theorem f273_14 : mFetch 273 14 = some (.getfield 70, 3, 12, 40, 2, 1) := by decide +kernel
theorem f273_17 : mFetch 273 17 = some (.iload_n 3, 1, 0, 0, 0, 0) := by decide +kernel
theorem f273_18 : mFetch 273 18 = some (.iaload, 1, 0, 0, 0, 0) := by decide +kernel
theorem f273_19 : mFetch 273 19 = some (.iastore, 1, 0, 0, 0, 0) := by decide +kernel
theorem f273_20 : mFetch 273 20 = some (.aload_n 0, 1, 0, 0, 0, 0) := by decide +kernel
theorem f273_21 : mFetch 273 21 = some (.getfield 70, 3, 12, 40, 2, 1) := by decide +kernel
theorem f273_24 : mFetch 273 24 = some (.iload_n 3, 1, 0, 0, 0, 0) := by decide +kernel
theorem f273_25 : mFetch 273 25 = some (.iconst (-1), 1, 0, 0, 0, 0) := by decide +kernel
theorem f273_26 : mFetch 273 26 = some (.iastore, 1, 0, 0, 0, 0) := by decide +kernel
theorem f273_27 : mFetch 273 27 = some (.aload_n 0, 1, 0, 0, 0, 0) := by decide +kernel
theorem f273_28 : mFetch 273 28 = some (.getfield 76, 3, 12, 42, 2, 1) := by decide +kernel
theorem f273_31 : mFetch 273 31 = some (.iload_n 3, 1, 0, 0, 0, 0) := by decide +kernel
theorem f273_32 : mFetch 273 32 = some (.iconst 0, 1, 0, 0, 0, 0) := by decide +kernel
theorem f273_33 : mFetch 273 33 = some (.iastore, 1, 0, 0, 0, 0) := by decide +kernel
theorem f273_34 : mFetch 273 34 = some (.iinc 3 1, 3, 0, 0, 0, 0) := by decide +kernel
theorem f273_37 : mFetch 273 37 = some (.goto (-35), 3, 2, 0, 0, 0) := by decide +kernel
theorem f273_40 : mFetch 273 40 = some (.iconst 0, 1, 0, 0, 0, 0) := by decide +kernel
theorem f273_41 : mFetch 273 41 = some (.istore_n 3, 1, 0, 0, 0, 0) := by decide +kernel
theorem f273_42 : mFetch 273 42 = some (.iload_n 3, 1, 0, 0, 0, 0) := by decide +kernel
theorem f273_43 : mFetch 273 43 = some (.aload_n 0, 1, 0, 0, 0, 0) := by decide +kernel
theorem f273_44 : mFetch 273 44 = some (.getfield 39, 3, 12, 20, 2, 1) := by decide +kernel
theorem f273_47 : mFetch 273 47 = some (.iconst 4, 1, 0, 0, 0, 0) := by decide +kernel
theorem f273_48 : mFetch 273 48 = some (.iaload, 1, 0, 0, 0, 0) := by decide +kernel
theorem f273_49 : mFetch 273 49 = some (.if_icmp .ge 65, 3, 114, 0, 0, 0) := by decide +kernel
theorem f273_52 : mFetch 273 52 = some (.aload_n 0, 1, 0, 0, 0, 0) := by decide +kernel
theorem f273_53 : mFetch 273 53 = some (.iload_n 3, 1, 0, 0, 0, 0) := by decide +kernel
theorem f273_54 : mFetch 273 54 = some (.invokevirtual 334, 3, 216, 0, 2, 12) := by decide +kernel
theorem f273_57 : mFetch 273 57 = some (.ifCond .eq 51, 3, 108, 0, 0, 0) := by decide +kernel
theorem f273_60 : mFetch 273 60 = some (.aload_n 0, 1, 0, 0, 0, 0) := by decide +kernel
theorem f273_61 : mFetch 273 61 = some (.iload_n 3, 1, 0, 0, 0, 0) := by decide +kernel
theorem f273_62 : mFetch 273 62 = some (.iload_n 2, 1, 0, 0, 0, 0) := by decide +kernel
theorem f273_63 : mFetch 273 63 = some (.invokevirtual 340, 3, 224, 0, 3, 12) := by decide +kernel
theorem f273_66 : mFetch 273 66 = some (.ifCond .eq 42, 3, 108, 0, 0, 0) := by decide +kernel
theorem f273_69 : mFetch 273 69 = some (.aload_n 0, 1, 0, 0, 0, 0) := by decide +kernel
theorem f273_70 : mFetch 273 70 = some (.getfield 73, 3, 12, 41, 2, 1) := by decide +kernel
theorem f273_73 : mFetch 273 73 = some (.iload_n 3, 1, 0, 0, 0, 0) := by decide +kernel
theorem f273_74 : mFetch 273 74 = some (.iaload, 1, 0, 0, 0, 0) := by decide +kernel
theorem f273_75 : mFetch 273 75 = some (.ifCond .ge 6, 3, 81, 0, 0, 0) := by decide +kernel
theorem f273_78 : mFetch 273 78 = some (.goto 30, 3, 108, 0, 0, 0) := by decide +kernel
theorem f273_81 : mFetch 273 81 = some (.aload_n 0, 1, 0, 0, 0, 0) := by decide +kernel
theorem f273_82 : mFetch 273 82 = some (.getfield 70, 3, 12, 40, 2, 1) := by decide +kernel
theorem f273_85 : mFetch 273 85 = some (.iload_n 3, 1, 0, 0, 0, 0) := by decide +kernel
theorem f273_86 : mFetch 273 86 = some (.aload_n 0, 1, 0, 0, 0, 0) := by decide +kernel
theorem f273_87 : mFetch 273 87 = some (.getfield 73, 3, 12, 41, 2, 1) := by decide +kernel
theorem f273_90 : mFetch 273 90 = some (.iload_n 3, 1, 0, 0, 0, 0) := by decide +kernel
theorem f273_91 : mFetch 273 91 = some (.iaload, 1, 0, 0, 0, 0) := by decide +kernel
theorem f273_92 : mFetch 273 92 = some (.iastore, 1, 0, 0, 0, 0) := by decide +kernel
theorem f273_93 : mFetch 273 93 = some (.aload_n 0, 1, 0, 0, 0, 0) := by decide +kernel
theorem f273_94 : mFetch 273 94 = some (.getfield 76, 3, 12, 42, 2, 1) := by decide +kernel
theorem f273_97 : mFetch 273 97 = some (.aload_n 0, 1, 0, 0, 0, 0) := by decide +kernel
theorem f273_98 : mFetch 273 98 = some (.getfield 70, 3, 12, 40, 2, 1) := by decide +kernel
theorem f273_101 : mFetch 273 101 = some (.iload_n 3, 1, 0, 0, 0, 0) := by decide +kernel
theorem f273_102 : mFetch 273 102 = some (.iaload, 1, 0, 0, 0, 0) := by decide +kernel
theorem f273_103 : mFetch 273 103 = some (.dup2, 1, 0, 0, 0, 0) := by decide +kernel
theorem f273_104 : mFetch 273 104 = some (.iaload, 1, 0, 0, 0, 0) := by decide +kernel
theorem f273_105 : mFetch 273 105 = some (.iconst 1, 1, 0, 0, 0, 0) := by decide +kernel
theorem f273_106 : mFetch 273 106 = some (.iadd, 1, 0, 0, 0, 0) := by decide +kernel
theorem f273_107 : mFetch 273 107 = some (.iastore, 1, 0, 0, 0, 0) := by decide +kernel
theorem f273_108 : mFetch 273 108 = some (.iinc 3 1, 3, 0, 0, 0, 0) := by decide +kernel
theorem f273_111 : mFetch 273 111 = some (.goto (-69), 3, 42, 0, 0, 0) := by decide +kernel
theorem f273_114 : mFetch 273 114 = some (.iconst 0, 1, 0, 0, 0, 0) := by decide +kernel
theorem f273_115 : mFetch 273 115 = some (.istore_n 3, 1, 0, 0, 0, 0) := by decide +kernel
theorem f273_116 : mFetch 273 116 = some (.iload_n 3, 1, 0, 0, 0, 0) := by decide +kernel
theorem f273_117 : mFetch 273 117 = some (.aload_n 0, 1, 0, 0, 0, 0) := by decide +kernel
theorem f273_118 : mFetch 273 118 = some (.getfield 39, 3, 12, 20, 2, 1) := by decide +kernel
theorem f273_121 : mFetch 273 121 = some (.iconst 4, 1, 0, 0, 0, 0) := by decide +kernel
theorem f273_122 : mFetch 273 122 = some (.iaload, 1, 0, 0, 0, 0) := by decide +kernel
theorem f273_123 : mFetch 273 123 = some (.if_icmp .ge 77, 3, 200, 0, 0, 0) := by decide +kernel
theorem f273_126 : mFetch 273 126 = some (.aload_n 0, 1, 0, 0, 0, 0) := by decide +kernel
theorem f273_127 : mFetch 273 127 = some (.iload_n 3, 1, 0, 0, 0, 0) := by decide +kernel
theorem f273_128 : mFetch 273 128 = some (.invokevirtual 334, 3, 216, 0, 2, 12) := by decide +kernel
theorem f273_131 : mFetch 273 131 = some (.ifCond .eq 63, 3, 194, 0, 0, 0) := by decide +kernel
theorem f273_134 : mFetch 273 134 = some (.aload_n 0, 1, 0, 0, 0, 0) := by decide +kernel
theorem f273_135 : mFetch 273 135 = some (.iload_n 3, 1, 0, 0, 0, 0) := by decide +kernel
theorem f273_136 : mFetch 273 136 = some (.iload_n 2, 1, 0, 0, 0, 0) := by decide +kernel
theorem f273_137 : mFetch 273 137 = some (.invokevirtual 340, 3, 224, 0, 3, 12) := by decide +kernel
theorem f273_140 : mFetch 273 140 = some (.ifCond .eq 54, 3, 194, 0, 0, 0) := by decide +kernel
theorem f273_143 : mFetch 273 143 = some (.aload_n 0, 1, 0, 0, 0, 0) := by decide +kernel
theorem f273_144 : mFetch 273 144 = some (.getfield 70, 3, 12, 40, 2, 1) := by decide +kernel
theorem f273_147 : mFetch 273 147 = some (.iload_n 3, 1, 0, 0, 0, 0) := by decide +kernel
theorem f273_148 : mFetch 273 148 = some (.iaload, 1, 0, 0, 0, 0) := by decide +kernel
theorem f273_149 : mFetch 273 149 = some (.ifCond .lt 6, 3, 155, 0, 0, 0) := by decide +kernel
theorem f273_152 : mFetch 273 152 = some (.goto 42, 3, 194, 0, 0, 0) := by decide +kernel
theorem f273_155 : mFetch 273 155 = some (.iconst 0, 1, 0, 0, 0, 0) := by decide +kernel
theorem f273_156 : mFetch 273 156 = some (.istore 4, 2, 0, 0, 0, 0) := by decide +kernel
theorem f273_158 : mFetch 273 158 = some (.aload_n 0, 1, 0, 0, 0, 0) := by decide +kernel
theorem f273_159 : mFetch 273 159 = some (.getfield 76, 3, 12, 42, 2, 1) := by decide +kernel
theorem f273_162 : mFetch 273 162 = some (.iload 4, 2, 0, 0, 0, 0) := by decide +kernel
theorem f273_164 : mFetch 273 164 = some (.iaload, 1, 0, 0, 0, 0) := by decide +kernel
theorem f273_165 : mFetch 273 165 = some (.iload_n 1, 1, 0, 0, 0, 0) := by decide +kernel
theorem f273_166 : mFetch 273 166 = some (.if_icmp .lt 9, 3, 175, 0, 0, 0) := by decide +kernel
theorem f273_169 : mFetch 273 169 = some (.iinc 4 1, 3, 0, 0, 0, 0) := by decide +kernel
theorem f273_172 : mFetch 273 172 = some (.goto (-14), 3, 158, 0, 0, 0) := by decide +kernel
theorem f273_175 : mFetch 273 175 = some (.aload_n 0, 1, 0, 0, 0, 0) := by decide +kernel
theorem f273_176 : mFetch 273 176 = some (.getfield 70, 3, 12, 40, 2, 1) := by decide +kernel
theorem f273_179 : mFetch 273 179 = some (.iload_n 3, 1, 0, 0, 0, 0) := by decide +kernel
theorem f273_180 : mFetch 273 180 = some (.iload 4, 2, 0, 0, 0, 0) := by decide +kernel
theorem f273_182 : mFetch 273 182 = some (.iastore, 1, 0, 0, 0, 0) := by decide +kernel
theorem f273_183 : mFetch 273 183 = some (.aload_n 0, 1, 0, 0, 0, 0) := by decide +kernel
theorem f273_184 : mFetch 273 184 = some (.getfield 76, 3, 12, 42, 2, 1) := by decide +kernel
theorem f273_187 : mFetch 273 187 = some (.iload 4, 2, 0, 0, 0, 0) := by decide +kernel
theorem f273_189 : mFetch 273 189 = some (.dup2, 1, 0, 0, 0, 0) := by decide +kernel
theorem f273_190 : mFetch 273 190 = some (.iaload, 1, 0, 0, 0, 0) := by decide +kernel
theorem f273_191 : mFetch 273 191 = some (.iconst 1, 1, 0, 0, 0, 0) := by decide +kernel
theorem f273_192 : mFetch 273 192 = some (.iadd, 1, 0, 0, 0, 0) := by decide +kernel
theorem f273_193 : mFetch 273 193 = some (.iastore, 1, 0, 0, 0, 0) := by decide +kernel
theorem f273_194 : mFetch 273 194 = some (.iinc 3 1, 3, 0, 0, 0, 0) := by decide +kernel
theorem f273_197 : mFetch 273 197 = some (.goto (-81), 3, 116, 0, 0, 0) := by decide +kernel
theorem f273_200 : mFetch 273 200 = some (.return_, 1, 0, 0, 0, 0) := by decide +kernel
theorem b273_0 {X : (Nat → Int) × Nat} {d : Nat} {s : mSt} {Q : mQ} {x1 : Int} {x2 : Int} {l3 : Option mV} {l4 : Option mV} (h_1 : Wp X d 273 2 [some (mR 407), some (mI x1), some (mI x2), some (mI 0), l4] [] s Q) : Wp X d 273 0 [some (mR 407), some (mI x1), some (mI x2), l3, l4] [] s Q := Wp_step k273 f273_0 (Wp_step k273 f273_1 (h_1))
theorem b273_2 {X : (Nat → Int) × Nat} {d : Nat} {s : mSt} {Q : mQ} {x1 : Int} {x2 : Int} {x3 : Int} {l4 : Option mV} (h_1 : 6 ≤ x3 → Wp X d 273 40 [some (mR 407), some (mI x1), some (mI x2), some (mI x3), l4] [] s Q) (h_2 : ¬ 6 ≤ x3 → Wp X d 273 8 [some (mR 407), some (mI x1), some (mI x2), some (mI x3), l4] [] s Q) : Wp X d 273 2 [some (mR 407), some (mI x1), some (mI x2), some (mI x3), l4] [] s Q := Wp_step k273 f273_2 (Wp_step k273 f273_3 (Wp_step k273 f273_5 ⟨h_1, h_2⟩))
theorem b273_8 {X : (Nat → Int) × Nat} {d : Nat} {s : mSt} {Q : mQ} {x1 : Int} {x2 : Int} {x3 : Int} {l4 : Option mV} (h_1 : 0 ≤ x3 ∧ x3 < 6) (h_2 : 0 ≤ x3 ∧ x3 < 6) (h_3 : 0 ≤ x3 ∧ x3 < 6) (h_4 : 0 ≤ x3 ∧ x3 < 6) (h_5 : Wp X d 273 2 [some (mR 407), some (mI x1), some (mI x2), some (mI (w32 (x3 + 1))), l4] [] (uS (uS (uS s 427 x3.toNat (s 426 x3.toNat)) 426 x3.toNat (-1)) 428 x3.toNat 0) Q) : Wp X d 273 8 [some (mR 407), some (mI x1), some (mI x2), some (mI x3), l4] [] s Q := Wp_step k273 f273_8 (Wp_step k273 f273_9 ⟨kf_407, 427, rf_407_41, Wp_step k273 f273_12 (Wp_step k273 f273_13 (Wp_step k273 f273_14 ⟨kf_407, 426, rf_407_40, Wp_step k273 f273_17 (Wp_step k273 f273_18 ⟨6, af_426, h_1, Wp_step k273 f273_19 ⟨6, af_427, h_2, Wp_step k273 f273_20 (Wp_step k273 f273_21 ⟨kf_407, 426, rf_407_40, Wp_step k273 f273_24 (Wp_step k273 f273_25 (Wp_step k273 f273_26 ⟨6, af_426, h_3, Wp_step k273 f273_27 (Wp_step k273 f273_28 ⟨kf_407, 428, rf_407_42, Wp_step k273 f273_31 (Wp_step k273 f273_32 (Wp_step k273 f273_33 ⟨6, af_428, h_4, Wp_step k273 f273_34 (Wp_step k273 f273_37 (h_5))⟩))⟩)⟩))⟩)⟩⟩)⟩))⟩)
theorem b273_40 {X : (Nat → Int) × Nat} {d : Nat} {s : mSt} {Q : mQ} {x1 : Int} {x2 : Int} {x3 : Int} {l4 : Option mV} (h_1 : Wp X d 273 42 [some (mR 407), some (mI x1), some (mI x2), some (mI 0), l4] [] s Q) : Wp X d 273 40 [some (mR 407), some (mI x1), some (mI x2), some (mI x3), l4] [] s Q := Wp_step k273 f273_40 (Wp_step k273 f273_41 (h_1))
theorem b273_42 {X : (Nat → Int) × Nat} {d : Nat} {s : mSt} {Q : mQ} {x1 : Int} {x2 : Int} {x3 : Int} {l4 : Option mV} (h_1 : (s 417 4) ≤ x3 → Wp X d 273 114 [some (mR 407), some (mI x1), some (mI x2), some (mI x3), l4] [] s Q) (h_2 : ¬ (s 417 4) ≤ x3 → Wp X d 273 52 [some (mR 407), some (mI x1), some (mI x2), some (mI x3), l4] [] s Q) : Wp X d 273 42 [some (mR 407), some (mI x1), some (mI x2), some (mI x3), l4] [] s Q := Wp_step k273 f273_42 (Wp_step k273 f273_43 (Wp_step k273 f273_44 ⟨kf_407, 417, rf_407_20, Wp_step k273 f273_47 (Wp_step k273 f273_48 ⟨166, af_417, ⟨by decide, by decide⟩, Wp_step k273 f273_49 ⟨h_1, h_2⟩⟩)⟩))
theorem b273_52 {X : (Nat → Int) × Nat} {d : Nat} {s : mSt} {Q : mQ} {x1 : Int} {x2 : Int} {x3 : Int} {l4 : Option mV} (h_1 : Sp X d 216 [mR 407, mI x3] s (fun r s' => ∃ v : Int, r = some (mI v) ∧ Wp X (d + 1) 273 57 [some (mR 407), some (mI x1), some (mI x2), some (mI x3), l4] [mI v] s' Q)) : Wp X (d + 1) 273 52 [some (mR 407), some (mI x1), some (mI x2), some (mI x3), l4] [] s Q := Wp_step k273 f273_52 (Wp_step k273 f273_53 (Wp_step k273 f273_54 ⟨⟨kf_407, Nat.le_of_ble_eq_true rfl⟩, Nat.le_refl _, _, rfl, Sp_E h_1⟩))
theorem b273_57 {X : (Nat → Int) × Nat} {d : Nat} {s : mSt} {Q : mQ} {x1 : Int} {x2 : Int} {x3 : Int} {l4 : Option mV} {xt0 : Int} (h_1 : xt0 = 0 → Wp X d 273 108 [some (mR 407), some (mI x1), some (mI x2), some (mI x3), l4] [] s Q) (h_2 : ¬ xt0 = 0 → Wp X d 273 60 [some (mR 407), some (mI x1), some (mI x2), some (mI x3), l4] [] s Q) : Wp X d 273 57 [some (mR 407), some (mI x1), some (mI x2), some (mI x3), l4] [mI xt0] s Q := Wp_step k273 f273_57 ⟨h_1, h_2⟩
theorem b273_60 {X : (Nat → Int) × Nat} {d : Nat} {s : mSt} {Q : mQ} {x1 : Int} {x2 : Int} {x3 : Int} {l4 : Option mV} (h_1 : Sp X d 224 [mR 407, mI x3, mI x2] s (fun r s' => ∃ v : Int, r = some (mI v) ∧ Wp X (d + 1) 273 66 [some (mR 407), some (mI x1), some (mI x2), some (mI x3), l4] [mI v] s' Q)) : Wp X (d + 1) 273 60 [some (mR 407), some (mI x1), some (mI x2), some (mI x3), l4] [] s Q := Wp_step k273 f273_60 (Wp_step k273 f273_61 (Wp_step k273 f273_62 (Wp_step k273 f273_63 ⟨⟨kf_407, Nat.le_of_ble_eq_true rfl⟩, Nat.le_refl _, _, rfl, Sp_E h_1⟩)))
theorem b273_66 {X : (Nat → Int) × Nat} {d : Nat} {s : mSt} {Q : mQ} {x1 : Int} {x2 : Int} {x3 : Int} {l4 : Option mV} {xt0 : Int} (h_1 : xt0 = 0 → Wp X d 273 108 [some (mR 407), some (mI x1), some (mI x2), some (mI x3), l4] [] s Q) (h_2 : ¬ xt0 = 0 → Wp X d 273 69 [some (mR 407), some (mI x1), some (mI x2), some (mI x3), l4] [] s Q) : Wp X d 273 66 [some (mR 407), some (mI x1), some (mI x2), some (mI x3), l4] [mI xt0] s Q := Wp_step k273 f273_66 ⟨h_1, h_2⟩
theorem b273_69 {X : (Nat → Int) × Nat} {d : Nat} {s : mSt} {Q : mQ} {x1 : Int} {x2 : Int} {x3 : Int} {l4 : Option mV} (h_1 : 0 ≤ x3 ∧ x3 < 6) (h_2 : 0 ≤ (s 427 x3.toNat) → Wp X d 273 81 [some (mR 407), some (mI x1), some (mI x2), some (mI x3), l4] [] s Q) (h_3 : ¬ 0 ≤ (s 427 x3.toNat) → Wp X d 273 78 [some (mR 407), some (mI x1), some (mI x2), some (mI x3), l4] [] s Q) : Wp X d 273 69 [some (mR 407), some (mI x1), some (mI x2), some (mI x3), l4] [] s Q := Wp_step k273 f273_69 (Wp_step k273 f273_70 ⟨kf_407, 427, rf_407_41, Wp_step k273 f273_73 (Wp_step k273 f273_74 ⟨6, af_427, h_1, Wp_step k273 f273_75 ⟨h_2, h_3⟩⟩)⟩)
theorem b273_78 {X : (Nat → Int) × Nat} {d : Nat} {s : mSt} {Q : mQ} {x1 : Int} {x2 : Int} {x3 : Int} {l4 : Option mV} (h_1 : Wp X d 273 108 [some (mR 407), some (mI x1), some (mI x2), some (mI x3), l4] [] s Q) : Wp X d 273 78 [some (mR 407), some (mI x1), some (mI x2), some (mI x3), l4] [] s Q := Wp_step k273 f273_78 (h_1)
theorem b273_81 {X : (Nat → Int) × Nat} {d : Nat} {s : mSt} {Q : mQ} {x1 : Int} {x2 : Int} {x3 : Int} {l4 : Option mV} (h_1 : 0 ≤ x3 ∧ x3 < 6) (h_2 : 0 ≤ x3 ∧ x3 < 6) (h_3 : 0 ≤ x3 ∧ x3 < 6) (h_4 : 0 ≤ ((uS s 426 x3.toNat (s 427 x3.toNat)) 426 x3.toNat) ∧ ((uS s 426 x3.toNat (s 427 x3.toNat)) 426 x3.toNat) < 6) (h_5 : 0 ≤ ((uS s 426 x3.toNat (s 427 x3.toNat)) 426 x3.toNat) ∧ ((uS s 426 x3.toNat (s 427 x3.toNat)) 426 x3.toNat) < 6) (h_6 : Wp X d 273 108 [some (mR 407), some (mI x1), some (mI x2), some (mI x3), l4] [] (uS (uS s 426 x3.toNat (s 427 x3.toNat)) 428 (((uS s 426 x3.toNat (s 427 x3.toNat)) 426 x3.toNat).toNat) (w32 (((uS s 426 x3.toNat (s 427 x3.toNat)) 428 ((uS s 426 x3.toNat (s 427 x3.toNat)) 426 x3.toNat).toNat) + 1))) Q) : Wp X d 273 81 [some (mR 407), some (mI x1), some (mI x2), some (mI x3), l4] [] s Q := Wp_step k273 f273_81 (Wp_step k273 f273_82 ⟨kf_407, 426, rf_407_40, Wp_step k273 f273_85 (Wp_step k273 f273_86 (Wp_step k273 f273_87 ⟨kf_407, 427, rf_407_41, Wp_step k273 f273_90 (Wp_step k273 f273_91 ⟨6, af_427, h_1, Wp_step k273 f273_92 ⟨6, af_426, h_2, Wp_step k273 f273_93 (Wp_step k273 f273_94 ⟨kf_407, 428, rf_407_42, Wp_step k273 f273_97 (Wp_step k273 f273_98 ⟨kf_407, 426, rf_407_40, Wp_step k273 f273_101 (Wp_step k273 f273_102 ⟨6, af_426, h_3, Wp_step k273 f273_103 (Wp_step k273 f273_104 ⟨6, af_428, h_4, Wp_step k273 f273_105 (Wp_step k273 f273_106 (Wp_step k273 f273_107 ⟨6, af_428, h_5, h_6⟩))⟩)⟩)⟩)⟩)⟩⟩)⟩))⟩)
theorem b273_108 {X : (Nat → Int) × Nat} {d : Nat} {s : mSt} {Q : mQ} {x1 : Int} {x2 : Int} {x3 : Int} {l4 : Option mV} (h_1 : Wp X d 273 42 [some (mR 407), some (mI x1), some (mI x2), some (mI (w32 (x3 + 1))), l4] [] s Q) : Wp X d 273 108 [some (mR 407), some (mI x1), some (mI x2), some (mI x3), l4] [] s Q := Wp_step k273 f273_108 (Wp_step k273 f273_111 (h_1))
theorem b273_114 {X : (Nat → Int) × Nat} {d : Nat} {s : mSt} {Q : mQ} {x1 : Int} {x2 : Int} {x3 : Int} {l4 : Option mV} (h_1 : Wp X d 273 116 [some (mR 407), some (mI x1), some (mI x2), some (mI 0), l4] [] s Q) : Wp X d 273 114 [some (mR 407), some (mI x1), some (mI x2), some (mI x3), l4] [] s Q := Wp_step k273 f273_114 (Wp_step k273 f273_115 (h_1))
theorem b273_116 {X : (Nat → Int) × Nat} {d : Nat} {s : mSt} {Q : mQ} {x1 : Int} {x2 : Int} {x3 : Int} {l4 : Option mV} (h_1 : (s 417 4) ≤ x3 → Wp X d 273 200 [some (mR 407), some (mI x1), some (mI x2), some (mI x3), l4] [] s Q) (h_2 : ¬ (s 417 4) ≤ x3 → Wp X d 273 126 [some (mR 407), some (mI x1), some (mI x2), some (mI x3), l4] [] s Q) : Wp X d 273 116 [some (mR 407), some (mI x1), some (mI x2), some (mI x3), l4] [] s Q := Wp_step k273 f273_116 (Wp_step k273 f273_117 (Wp_step k273 f273_118 ⟨kf_407, 417, rf_407_20, Wp_step k273 f273_121 (Wp_step k273 f273_122 ⟨166, af_417, ⟨by decide, by decide⟩, Wp_step k273 f273_123 ⟨h_1, h_2⟩⟩)⟩))
theorem b273_126 {X : (Nat → Int) × Nat} {d : Nat} {s : mSt} {Q : mQ} {x1 : Int} {x2 : Int} {x3 : Int} {l4 : Option mV} (h_1 : Sp X d 216 [mR 407, mI x3] s (fun r s' => ∃ v : Int, r = some (mI v) ∧ Wp X (d + 1) 273 131 [some (mR 407), some (mI x1), some (mI x2), some (mI x3), l4] [mI v] s' Q)) : Wp X (d + 1) 273 126 [some (mR 407), some (mI x1), some (mI x2), some (mI x3), l4] [] s Q := Wp_step k273 f273_126 (Wp_step k273 f273_127 (Wp_step k273 f273_128 ⟨⟨kf_407, Nat.le_of_ble_eq_true rfl⟩, Nat.le_refl _, _, rfl, Sp_E h_1⟩))
theorem b273_131 {X : (Nat → Int) × Nat} {d : Nat} {s : mSt} {Q : mQ} {x1 : Int} {x2 : Int} {x3 : Int} {l4 : Option mV} {xt0 : Int} (h_1 : xt0 = 0 → Wp X d 273 194 [some (mR 407), some (mI x1), some (mI x2), some (mI x3), l4] [] s Q) (h_2 : ¬ xt0 = 0 → Wp X d 273 134 [some (mR 407), some (mI x1), some (mI x2), some (mI x3), l4] [] s Q) : Wp X d 273 131 [some (mR 407), some (mI x1), some (mI x2), some (mI x3), l4] [mI xt0] s Q := Wp_step k273 f273_131 ⟨h_1, h_2⟩
theorem b273_134 {X : (Nat → Int) × Nat} {d : Nat} {s : mSt} {Q : mQ} {x1 : Int} {x2 : Int} {x3 : Int} {l4 : Option mV} (h_1 : Sp X d 224 [mR 407, mI x3, mI x2] s (fun r s' => ∃ v : Int, r = some (mI v) ∧ Wp X (d + 1) 273 140 [some (mR 407), some (mI x1), some (mI x2), some (mI x3), l4] [mI v] s' Q)) : Wp X (d + 1) 273 134 [some (mR 407), some (mI x1), some (mI x2), some (mI x3), l4] [] s Q := Wp_step k273 f273_134 (Wp_step k273 f273_135 (Wp_step k273 f273_136 (Wp_step k273 f273_137 ⟨⟨kf_407, Nat.le_of_ble_eq_true rfl⟩, Nat.le_refl _, _, rfl, Sp_E h_1⟩)))
theorem b273_140 {X : (Nat → Int) × Nat} {d : Nat} {s : mSt} {Q : mQ} {x1 : Int} {x2 : Int} {x3 : Int} {l4 : Option mV} {xt0 : Int} (h_1 : xt0 = 0 → Wp X d 273 194 [some (mR 407), some (mI x1), some (mI x2), some (mI x3), l4] [] s Q) (h_2 : ¬ xt0 = 0 → Wp X d 273 143 [some (mR 407), some (mI x1), some (mI x2), some (mI x3), l4] [] s Q) : Wp X d 273 140 [some (mR 407), some (mI x1), some (mI x2), some (mI x3), l4] [mI xt0] s Q := Wp_step k273 f273_140 ⟨h_1, h_2⟩
theorem b273_143 {X : (Nat → Int) × Nat} {d : Nat} {s : mSt} {Q : mQ} {x1 : Int} {x2 : Int} {x3 : Int} {l4 : Option mV} (h_1 : 0 ≤ x3 ∧ x3 < 6) (h_2 : (s 426 x3.toNat) < 0 → Wp X d 273 155 [some (mR 407), some (mI x1), some (mI x2), some (mI x3), l4] [] s Q) (h_3 : ¬ (s 426 x3.toNat) < 0 → Wp X d 273 152 [some (mR 407), some (mI x1), some (mI x2), some (mI x3), l4] [] s Q) : Wp X d 273 143 [some (mR 407), some (mI x1), some (mI x2), some (mI x3), l4] [] s Q := Wp_step k273 f273_143 (Wp_step k273 f273_144 ⟨kf_407, 426, rf_407_40, Wp_step k273 f273_147 (Wp_step k273 f273_148 ⟨6, af_426, h_1, Wp_step k273 f273_149 ⟨h_2, h_3⟩⟩)⟩)
theorem b273_152 {X : (Nat → Int) × Nat} {d : Nat} {s : mSt} {Q : mQ} {x1 : Int} {x2 : Int} {x3 : Int} {l4 : Option mV} (h_1 : Wp X d 273 194 [some (mR 407), some (mI x1), some (mI x2), some (mI x3), l4] [] s Q) : Wp X d 273 152 [some (mR 407), some (mI x1), some (mI x2), some (mI x3), l4] [] s Q := Wp_step k273 f273_152 (h_1)
theorem b273_155 {X : (Nat → Int) × Nat} {d : Nat} {s : mSt} {Q : mQ} {x1 : Int} {x2 : Int} {x3 : Int} {l4 : Option mV} (h_1 : Wp X d 273 158 [some (mR 407), some (mI x1), some (mI x2), some (mI x3), some (mI 0)] [] s Q) : Wp X d 273 155 [some (mR 407), some (mI x1), some (mI x2), some (mI x3), l4] [] s Q := Wp_step k273 f273_155 (Wp_step k273 f273_156 (h_1))
theorem b273_158 {X : (Nat → Int) × Nat} {d : Nat} {s : mSt} {Q : mQ} {x1 : Int} {x2 : Int} {x3 : Int} {x4 : Int} (h_1 : 0 ≤ x4 ∧ x4 < 6) (h_2 : (s 428 x4.toNat) < x1 → Wp X d 273 175 [some (mR 407), some (mI x1), some (mI x2), some (mI x3), some (mI x4)] [] s Q) (h_3 : ¬ (s 428 x4.toNat) < x1 → Wp X d 273 169 [some (mR 407), some (mI x1), some (mI x2), some (mI x3), some (mI x4)] [] s Q) : Wp X d 273 158 [some (mR 407), some (mI x1), some (mI x2), some (mI x3), some (mI x4)] [] s Q := Wp_step k273 f273_158 (Wp_step k273 f273_159 ⟨kf_407, 428, rf_407_42, Wp_step k273 f273_162 (Wp_step k273 f273_164 ⟨6, af_428, h_1, Wp_step k273 f273_165 (Wp_step k273 f273_166 ⟨h_2, h_3⟩)⟩)⟩)
theorem b273_169 {X : (Nat → Int) × Nat} {d : Nat} {s : mSt} {Q : mQ} {x1 : Int} {x2 : Int} {x3 : Int} {x4 : Int} (h_1 : Wp X d 273 158 [some (mR 407), some (mI x1), some (mI x2), some (mI x3), some (mI (w32 (x4 + 1)))] [] s Q) : Wp X d 273 169 [some (mR 407), some (mI x1), some (mI x2), some (mI x3), some (mI x4)] [] s Q := Wp_step k273 f273_169 (Wp_step k273 f273_172 (h_1))
theorem b273_175 {X : (Nat → Int) × Nat} {d : Nat} {s : mSt} {Q : mQ} {x1 : Int} {x2 : Int} {x3 : Int} {x4 : Int} (h_1 : 0 ≤ x3 ∧ x3 < 6) (h_2 : 0 ≤ x4 ∧ x4 < 6) (h_3 : 0 ≤ x4 ∧ x4 < 6) (h_4 : Wp X d 273 194 [some (mR 407), some (mI x1), some (mI x2), some (mI x3), some (mI x4)] [] (uS (uS s 426 x3.toNat x4) 428 x4.toNat (w32 (((uS s 426 x3.toNat x4) 428 x4.toNat) + 1))) Q) : Wp X d 273 175 [some (mR 407), some (mI x1), some (mI x2), some (mI x3), some (mI x4)] [] s Q := Wp_step k273 f273_175 (Wp_step k273 f273_176 ⟨kf_407, 426, rf_407_40, Wp_step k273 f273_179 (Wp_step k273 f273_180 (Wp_step k273 f273_182 ⟨6, af_426, h_1, Wp_step k273 f273_183 (Wp_step k273 f273_184 ⟨kf_407, 428, rf_407_42, Wp_step k273 f273_187 (Wp_step k273 f273_189 (Wp_step k273 f273_190 ⟨6, af_428, h_2, Wp_step k273 f273_191 (Wp_step k273 f273_192 (Wp_step k273 f273_193 ⟨6, af_428, h_3, h_4⟩))⟩))⟩)⟩))⟩)
theorem b273_194 {X : (Nat → Int) × Nat} {d : Nat} {s : mSt} {Q : mQ} {x1 : Int} {x2 : Int} {x3 : Int} {l4 : Option mV} (h_1 : Wp X d 273 116 [some (mR 407), some (mI x1), some (mI x2), some (mI (w32 (x3 + 1))), l4] [] s Q) : Wp X d 273 194 [some (mR 407), some (mI x1), some (mI x2), some (mI x3), l4] [] s Q := Wp_step k273 f273_194 (Wp_step k273 f273_197 (h_1))
theorem b273_200 {X : (Nat → Int) × Nat} {d : Nat} {s : mSt} {Q : mQ} {x1 : Int} {x2 : Int} {x3 : Int} {l4 : Option mV} (h_1 : Q none s) : Wp X d 273 200 [some (mR 407), some (mI x1), some (mI x2), some (mI x3), l4] [] s Q := Wp_step k273 f273_200 ⟨⟨rfl, Or.inl rfl⟩, h_1⟩
theorem e273 {X : (Nat → Int) × Nat} {d : Nat} {s : mSt} {Q : mQ} {x1 : Int} {x2 : Int} (h : Wp X d 273 0 [some (mR 407), some (mI x1), some (mI x2), none, none] [] s Q) : Sp X d 273 [mR 407, mI x1, mI x2] s Q := Sp_of (show mCe 273 = 0 by decide +kernel) (by rw [show mML 273 = 5 by decide +kernel]; rfl) (Nat.le_trans (Nat.le_of_ble_eq_true (show Nat.ble (mArgs _).length 5 = true from rfl)) (show 5 ≤ mML 273 by decide +kernel)) h
-- 274 ClashDayModel.chain(III)I
theorem k274 : mRk 274 = 1 := by decide +kernel
theorem f274_0 : mFetch 274 0 = some (.iload_n 1, 1, 0, 0, 0, 0) := by decide +kernel
theorem f274_1 : mFetch 274 1 = some (.i2l, 1, 0, 0, 0, 0) := by decide +kernel
theorem f274_2 : mFetch 274 2 = some (.lconst 1, 1, 0, 0, 0, 0) := by decide +kernel
theorem f274_3 : mFetch 274 3 = some (.ldc2_w 477, 3, 6, 0, 0, 0) := by decide +kernel
theorem f274_6 : mFetch 274 6 = some (.invokestatic 151, 3, 167, 0, 3, 99) := by decide +kernel
theorem f274_9 : mFetch 274 9 = some (.ifCond .eq 23, 3, 32, 0, 0, 0) := by decide +kernel
theorem f274_12 : mFetch 274 12 = some (.aload_n 0, 1, 0, 0, 0, 0) := by decide +kernel
theorem f274_13 : mFetch 274 13 = some (.iload_n 2, 1, 0, 0, 0, 0) := by decide +kernel
theorem f274_14 : mFetch 274 14 = some (.invokevirtual 334, 3, 216, 0, 2, 12) := by decide +kernel
theorem f274_17 : mFetch 274 17 = some (.ifCond .eq 15, 3, 32, 0, 0, 0) := by decide +kernel
theorem f274_20 : mFetch 274 20 = some (.iload_n 3, 1, 0, 0, 0, 0) := by decide +kernel
theorem f274_21 : mFetch 274 21 = some (.i2l, 1, 0, 0, 0, 0) := by decide +kernel
theorem f274_22 : mFetch 274 22 = some (.lconst 0, 1, 0, 0, 0, 0) := by decide +kernel
theorem f274_23 : mFetch 274 23 = some (.ldc2_w 357, 3, 29, 0, 0, 0) := by decide +kernel
theorem f274_26 : mFetch 274 26 = some (.invokestatic 151, 3, 167, 0, 3, 99) := by decide +kernel
theorem f274_29 : mFetch 274 29 = some (.ifCond .ne 5, 3, 34, 0, 0, 0) := by decide +kernel
theorem f274_32 : mFetch 274 32 = some (.iconst (-1), 1, 0, 0, 0, 0) := by decide +kernel
theorem f274_33 : mFetch 274 33 = some (.ireturn, 1, 0, 0, 0, 0) := by decide +kernel
theorem f274_34 : mFetch 274 34 = some (.iconst 0, 1, 0, 0, 0, 0) := by decide +kernel
theorem f274_35 : mFetch 274 35 = some (.istore 4, 2, 0, 0, 0, 0) := by decide +kernel
theorem f274_37 : mFetch 274 37 = some (.iload 4, 2, 0, 0, 0, 0) := by decide +kernel
theorem f274_39 : mFetch 274 39 = some (.bipush 6, 2, 0, 0, 0, 0) := by decide +kernel
theorem f274_41 : mFetch 274 41 = some (.if_icmp .ge 17, 3, 58, 0, 0, 0) := by decide +kernel
theorem f274_44 : mFetch 274 44 = some (.aload_n 0, 1, 0, 0, 0, 0) := by decide +kernel
theorem f274_45 : mFetch 274 45 = some (.getfield 70, 3, 12, 40, 2, 1) := by decide +kernel
theorem f274_48 : mFetch 274 48 = some (.iload 4, 2, 0, 0, 0, 0) := by decide +kernel
theorem f274_50 : mFetch 274 50 = some (.iconst (-1), 1, 0, 0, 0, 0) := by decide +kernel
theorem f274_51 : mFetch 274 51 = some (.iastore, 1, 0, 0, 0, 0) := by decide +kernel
theorem f274_52 : mFetch 274 52 = some (.iinc 4 1, 3, 0, 0, 0, 0) := by decide +kernel
theorem f274_55 : mFetch 274 55 = some (.goto (-18), 3, 37, 0, 0, 0) := by decide +kernel
theorem f274_58 : mFetch 274 58 = some (.iconst 0, 1, 0, 0, 0, 0) := by decide +kernel
theorem f274_59 : mFetch 274 59 = some (.istore 4, 2, 0, 0, 0, 0) := by decide +kernel
theorem f274_61 : mFetch 274 61 = some (.iload 4, 2, 0, 0, 0, 0) := by decide +kernel
theorem f274_63 : mFetch 274 63 = some (.iload_n 3, 1, 0, 0, 0, 0) := by decide +kernel
theorem f274_64 : mFetch 274 64 = some (.if_icmp .gt 16, 3, 80, 0, 0, 0) := by decide +kernel
theorem f274_67 : mFetch 274 67 = some (.aload_n 0, 1, 0, 0, 0, 0) := by decide +kernel
theorem f274_68 : mFetch 274 68 = some (.iload_n 1, 1, 0, 0, 0, 0) := by decide +kernel
theorem f274_69 : mFetch 274 69 = some (.iload 4, 2, 0, 0, 0, 0) := by decide +kernel
theorem f274_71 : mFetch 274 71 = some (.invokevirtual 482, 3, 273, 0, 3, 12) := by decide +kernel
theorem f274_74 : mFetch 274 74 = some (.iinc 4 1, 3, 0, 0, 0, 0) := by decide +kernel
theorem f274_77 : mFetch 274 77 = some (.goto (-16), 3, 61, 0, 0, 0) := by decide +kernel
theorem f274_80 : mFetch 274 80 = some (.aload_n 0, 1, 0, 0, 0, 0) := by decide +kernel
theorem f274_81 : mFetch 274 81 = some (.getfield 70, 3, 12, 40, 2, 1) := by decide +kernel
theorem f274_84 : mFetch 274 84 = some (.iload_n 2, 1, 0, 0, 0, 0) := by decide +kernel
theorem f274_85 : mFetch 274 85 = some (.iaload, 1, 0, 0, 0, 0) := by decide +kernel
theorem f274_86 : mFetch 274 86 = some (.ifCond .ge 8, 3, 94, 0, 0, 0) := by decide +kernel
theorem f274_89 : mFetch 274 89 = some (.bipush (-2), 2, 0, 0, 0, 0) := by decide +kernel
theorem f274_91 : mFetch 274 91 = some (.goto 9, 3, 100, 0, 0, 0) := by decide +kernel
theorem f274_94 : mFetch 274 94 = some (.aload_n 0, 1, 0, 0, 0, 0) := by decide +kernel
theorem f274_95 : mFetch 274 95 = some (.getfield 70, 3, 12, 40, 2, 1) := by decide +kernel
theorem f274_98 : mFetch 274 98 = some (.iload_n 2, 1, 0, 0, 0, 0) := by decide +kernel
theorem f274_99 : mFetch 274 99 = some (.iaload, 1, 0, 0, 0, 0) := by decide +kernel
theorem f274_100 : mFetch 274 100 = some (.ireturn, 1, 0, 0, 0, 0) := by decide +kernel
theorem b274_0 {X : (Nat → Int) × Nat} {d : Nat} {s : mSt} {Q : mQ} {x1 : Int} {x2 : Int} {x3 : Int} {l4 : Option mV} (h_1 : Sp X d 167 [mJ x1, mJ 1, mJ 6] s (fun r s' => ∃ v : Int, r = some (mI v) ∧ Wp X (d + 1) 274 9 [some (mR 407), some (mI x1), some (mI x2), some (mI x3), l4] [mI v] s' Q)) : Wp X (d + 1) 274 0 [some (mR 407), some (mI x1), some (mI x2), some (mI x3), l4] [] s Q := Wp_step k274 f274_0 (Wp_step k274 f274_1 (Wp_step k274 f274_2 (Wp_step k274 f274_3 (Wp_step k274 f274_6 ⟨⟨Nat.le_of_ble_eq_true rfl, Nat.le_refl _⟩, _, rfl, Sp_E h_1⟩))))
theorem b274_9 {X : (Nat → Int) × Nat} {d : Nat} {s : mSt} {Q : mQ} {x1 : Int} {x2 : Int} {x3 : Int} {l4 : Option mV} {xt0 : Int} (h_1 : xt0 = 0 → Wp X d 274 32 [some (mR 407), some (mI x1), some (mI x2), some (mI x3), l4] [] s Q) (h_2 : ¬ xt0 = 0 → Wp X d 274 12 [some (mR 407), some (mI x1), some (mI x2), some (mI x3), l4] [] s Q) : Wp X d 274 9 [some (mR 407), some (mI x1), some (mI x2), some (mI x3), l4] [mI xt0] s Q := Wp_step k274 f274_9 ⟨h_1, h_2⟩
theorem b274_12 {X : (Nat → Int) × Nat} {d : Nat} {s : mSt} {Q : mQ} {x1 : Int} {x2 : Int} {x3 : Int} {l4 : Option mV} (h_1 : Sp X d 216 [mR 407, mI x2] s (fun r s' => ∃ v : Int, r = some (mI v) ∧ Wp X (d + 1) 274 17 [some (mR 407), some (mI x1), some (mI x2), some (mI x3), l4] [mI v] s' Q)) : Wp X (d + 1) 274 12 [some (mR 407), some (mI x1), some (mI x2), some (mI x3), l4] [] s Q := Wp_step k274 f274_12 (Wp_step k274 f274_13 (Wp_step k274 f274_14 ⟨⟨kf_407, Nat.le_of_ble_eq_true rfl⟩, Nat.le_refl _, _, rfl, Sp_E h_1⟩))
theorem b274_17 {X : (Nat → Int) × Nat} {d : Nat} {s : mSt} {Q : mQ} {x1 : Int} {x2 : Int} {x3 : Int} {l4 : Option mV} {xt0 : Int} (h_1 : xt0 = 0 → Wp X d 274 32 [some (mR 407), some (mI x1), some (mI x2), some (mI x3), l4] [] s Q) (h_2 : ¬ xt0 = 0 → Wp X d 274 20 [some (mR 407), some (mI x1), some (mI x2), some (mI x3), l4] [] s Q) : Wp X d 274 17 [some (mR 407), some (mI x1), some (mI x2), some (mI x3), l4] [mI xt0] s Q := Wp_step k274 f274_17 ⟨h_1, h_2⟩
theorem b274_20 {X : (Nat → Int) × Nat} {d : Nat} {s : mSt} {Q : mQ} {x1 : Int} {x2 : Int} {x3 : Int} {l4 : Option mV} (h_1 : Sp X d 167 [mJ x3, mJ 0, mJ 29] s (fun r s' => ∃ v : Int, r = some (mI v) ∧ Wp X (d + 1) 274 29 [some (mR 407), some (mI x1), some (mI x2), some (mI x3), l4] [mI v] s' Q)) : Wp X (d + 1) 274 20 [some (mR 407), some (mI x1), some (mI x2), some (mI x3), l4] [] s Q := Wp_step k274 f274_20 (Wp_step k274 f274_21 (Wp_step k274 f274_22 (Wp_step k274 f274_23 (Wp_step k274 f274_26 ⟨⟨Nat.le_of_ble_eq_true rfl, Nat.le_refl _⟩, _, rfl, Sp_E h_1⟩))))
theorem b274_29 {X : (Nat → Int) × Nat} {d : Nat} {s : mSt} {Q : mQ} {x1 : Int} {x2 : Int} {x3 : Int} {l4 : Option mV} {xt0 : Int} (h_1 : ¬ xt0 = 0 → Wp X d 274 34 [some (mR 407), some (mI x1), some (mI x2), some (mI x3), l4] [] s Q) (h_2 : xt0 = 0 → Wp X d 274 32 [some (mR 407), some (mI x1), some (mI x2), some (mI x3), l4] [] s Q) : Wp X d 274 29 [some (mR 407), some (mI x1), some (mI x2), some (mI x3), l4] [mI xt0] s Q := Wp_step k274 f274_29 ⟨h_1, h_2⟩
theorem b274_32 {X : (Nat → Int) × Nat} {d : Nat} {s : mSt} {Q : mQ} {x1 : Int} {x2 : Int} {x3 : Int} {l4 : Option mV} (h_1 : Q (some (mI (-1))) s) : Wp X d 274 32 [some (mR 407), some (mI x1), some (mI x2), some (mI x3), l4] [] s Q := Wp_step k274 f274_32 (Wp_step k274 f274_33 ⟨⟨rfl, trivial⟩, h_1⟩)
theorem b274_34 {X : (Nat → Int) × Nat} {d : Nat} {s : mSt} {Q : mQ} {x1 : Int} {x2 : Int} {x3 : Int} {l4 : Option mV} (h_1 : Wp X d 274 37 [some (mR 407), some (mI x1), some (mI x2), some (mI x3), some (mI 0)] [] s Q) : Wp X d 274 34 [some (mR 407), some (mI x1), some (mI x2), some (mI x3), l4] [] s Q := Wp_step k274 f274_34 (Wp_step k274 f274_35 (h_1))
theorem b274_37 {X : (Nat → Int) × Nat} {d : Nat} {s : mSt} {Q : mQ} {x1 : Int} {x2 : Int} {x3 : Int} {x4 : Int} (h_1 : 6 ≤ x4 → Wp X d 274 58 [some (mR 407), some (mI x1), some (mI x2), some (mI x3), some (mI x4)] [] s Q) (h_2 : ¬ 6 ≤ x4 → Wp X d 274 44 [some (mR 407), some (mI x1), some (mI x2), some (mI x3), some (mI x4)] [] s Q) : Wp X d 274 37 [some (mR 407), some (mI x1), some (mI x2), some (mI x3), some (mI x4)] [] s Q := Wp_step k274 f274_37 (Wp_step k274 f274_39 (Wp_step k274 f274_41 ⟨h_1, h_2⟩))
theorem b274_44 {X : (Nat → Int) × Nat} {d : Nat} {s : mSt} {Q : mQ} {x1 : Int} {x2 : Int} {x3 : Int} {x4 : Int} (h_1 : 0 ≤ x4 ∧ x4 < 6) (h_2 : Wp X d 274 37 [some (mR 407), some (mI x1), some (mI x2), some (mI x3), some (mI (w32 (x4 + 1)))] [] (uS s 426 x4.toNat (-1)) Q) : Wp X d 274 44 [some (mR 407), some (mI x1), some (mI x2), some (mI x3), some (mI x4)] [] s Q := Wp_step k274 f274_44 (Wp_step k274 f274_45 ⟨kf_407, 426, rf_407_40, Wp_step k274 f274_48 (Wp_step k274 f274_50 (Wp_step k274 f274_51 ⟨6, af_426, h_1, Wp_step k274 f274_52 (Wp_step k274 f274_55 (h_2))⟩))⟩)
theorem b274_58 {X : (Nat → Int) × Nat} {d : Nat} {s : mSt} {Q : mQ} {x1 : Int} {x2 : Int} {x3 : Int} {x4 : Int} (h_1 : Wp X d 274 61 [some (mR 407), some (mI x1), some (mI x2), some (mI x3), some (mI 0)] [] s Q) : Wp X d 274 58 [some (mR 407), some (mI x1), some (mI x2), some (mI x3), some (mI x4)] [] s Q := Wp_step k274 f274_58 (Wp_step k274 f274_59 (h_1))
theorem b274_61 {X : (Nat → Int) × Nat} {d : Nat} {s : mSt} {Q : mQ} {x1 : Int} {x2 : Int} {x3 : Int} {x4 : Int} (h_1 : x3 < x4 → Wp X d 274 80 [some (mR 407), some (mI x1), some (mI x2), some (mI x3), some (mI x4)] [] s Q) (h_2 : ¬ x3 < x4 → Wp X d 274 67 [some (mR 407), some (mI x1), some (mI x2), some (mI x3), some (mI x4)] [] s Q) : Wp X d 274 61 [some (mR 407), some (mI x1), some (mI x2), some (mI x3), some (mI x4)] [] s Q := Wp_step k274 f274_61 (Wp_step k274 f274_63 (Wp_step k274 f274_64 ⟨h_1, h_2⟩))
theorem b274_67 {X : (Nat → Int) × Nat} {d : Nat} {s : mSt} {Q : mQ} {x1 : Int} {x2 : Int} {x3 : Int} {x4 : Int} (h_1 : Sp X d 273 [mR 407, mI x1, mI x4] s (fun r s' => r = none ∧ Wp X (d + 1) 274 74 [some (mR 407), some (mI x1), some (mI x2), some (mI x3), some (mI x4)] [] s' Q)) : Wp X (d + 1) 274 67 [some (mR 407), some (mI x1), some (mI x2), some (mI x3), some (mI x4)] [] s Q := Wp_step k274 f274_67 (Wp_step k274 f274_68 (Wp_step k274 f274_69 (Wp_step k274 f274_71 ⟨⟨kf_407, Nat.le_of_ble_eq_true rfl⟩, Nat.le_refl _, _, rfl, Sp_V h_1⟩)))
theorem b274_74 {X : (Nat → Int) × Nat} {d : Nat} {s : mSt} {Q : mQ} {x1 : Int} {x2 : Int} {x3 : Int} {x4 : Int} (h_1 : Wp X d 274 61 [some (mR 407), some (mI x1), some (mI x2), some (mI x3), some (mI (w32 (x4 + 1)))] [] s Q) : Wp X d 274 74 [some (mR 407), some (mI x1), some (mI x2), some (mI x3), some (mI x4)] [] s Q := Wp_step k274 f274_74 (Wp_step k274 f274_77 (h_1))
theorem b274_80 {X : (Nat → Int) × Nat} {d : Nat} {s : mSt} {Q : mQ} {x1 : Int} {x2 : Int} {x3 : Int} {x4 : Int} (h_1 : 0 ≤ x2 ∧ x2 < 6) (h_2 : 0 ≤ (s 426 x2.toNat) → Wp X d 274 94 [some (mR 407), some (mI x1), some (mI x2), some (mI x3), some (mI x4)] [] s Q) (h_3 : ¬ 0 ≤ (s 426 x2.toNat) → Wp X d 274 89 [some (mR 407), some (mI x1), some (mI x2), some (mI x3), some (mI x4)] [] s Q) : Wp X d 274 80 [some (mR 407), some (mI x1), some (mI x2), some (mI x3), some (mI x4)] [] s Q := Wp_step k274 f274_80 (Wp_step k274 f274_81 ⟨kf_407, 426, rf_407_40, Wp_step k274 f274_84 (Wp_step k274 f274_85 ⟨6, af_426, h_1, Wp_step k274 f274_86 ⟨h_2, h_3⟩⟩)⟩)
theorem b274_89 {X : (Nat → Int) × Nat} {d : Nat} {s : mSt} {Q : mQ} {x1 : Int} {x2 : Int} {x3 : Int} {x4 : Int} (h_1 : Wp X d 274 100 [some (mR 407), some (mI x1), some (mI x2), some (mI x3), some (mI x4)] [mI (-2)] s Q) : Wp X d 274 89 [some (mR 407), some (mI x1), some (mI x2), some (mI x3), some (mI x4)] [] s Q := Wp_step k274 f274_89 (Wp_step k274 f274_91 (h_1))
theorem b274_94 {X : (Nat → Int) × Nat} {d : Nat} {s : mSt} {Q : mQ} {x1 : Int} {x2 : Int} {x3 : Int} {x4 : Int} (h_1 : 0 ≤ x2 ∧ x2 < 6) (h_2 : Wp X d 274 100 [some (mR 407), some (mI x1), some (mI x2), some (mI x3), some (mI x4)] [mI (s 426 x2.toNat)] s Q) : Wp X d 274 94 [some (mR 407), some (mI x1), some (mI x2), some (mI x3), some (mI x4)] [] s Q := Wp_step k274 f274_94 (Wp_step k274 f274_95 ⟨kf_407, 426, rf_407_40, Wp_step k274 f274_98 (Wp_step k274 f274_99 ⟨6, af_426, h_1, h_2⟩)⟩)
theorem b274_100 {X : (Nat → Int) × Nat} {d : Nat} {s : mSt} {Q : mQ} {x1 : Int} {x2 : Int} {x3 : Int} {x4 : Int} {xt0 : Int} (h_1 : Q (some (mI xt0)) s) : Wp X d 274 100 [some (mR 407), some (mI x1), some (mI x2), some (mI x3), some (mI x4)] [mI xt0] s Q := Wp_step k274 f274_100 ⟨⟨rfl, trivial⟩, h_1⟩
theorem e274 {X : (Nat → Int) × Nat} {d : Nat} {s : mSt} {Q : mQ} {x1 : Int} {x2 : Int} {x3 : Int} (h : Wp X d 274 0 [some (mR 407), some (mI x1), some (mI x2), some (mI x3), none] [] s Q) : Sp X d 274 [mR 407, mI x1, mI x2, mI x3] s Q := Sp_of (show mCe 274 = 0 by decide +kernel) (by rw [show mML 274 = 5 by decide +kernel]; rfl) (Nat.le_trans (Nat.le_of_ble_eq_true (show Nat.ble (mArgs _).length 5 = true from rfl)) (show 5 ≤ mML 274 by decide +kernel)) h
-- 275 ClashDayModel.mustNotMeet(III)Z
theorem k275 : mRk 275 = 2 := by decide +kernel
theorem f275_0 : mFetch 275 0 = some (.aload_n 0, 1, 0, 0, 0, 0) := by decide +kernel
theorem f275_1 : mFetch 275 1 = some (.iload_n 1, 1, 0, 0, 0, 0) := by decide +kernel
theorem f275_2 : mFetch 275 2 = some (.iload_n 3, 1, 0, 0, 0, 0) := by decide +kernel
theorem f275_3 : mFetch 275 3 = some (.invokevirtual 337, 3, 222, 0, 3, 12) := by decide +kernel
theorem f275_6 : mFetch 275 6 = some (.ifCond .ge 12, 3, 18, 0, 0, 0) := by decide +kernel
theorem f275_9 : mFetch 275 9 = some (.aload_n 0, 1, 0, 0, 0, 0) := by decide +kernel
theorem f275_10 : mFetch 275 10 = some (.iload_n 2, 1, 0, 0, 0, 0) := by decide +kernel
theorem f275_11 : mFetch 275 11 = some (.iload_n 3, 1, 0, 0, 0, 0) := by decide +kernel
theorem f275_12 : mFetch 275 12 = some (.invokevirtual 337, 3, 222, 0, 3, 12) := by decide +kernel
theorem f275_15 : mFetch 275 15 = some (.ifCond .lt 5, 3, 20, 0, 0, 0) := by decide +kernel
theorem f275_18 : mFetch 275 18 = some (.iconst 0, 1, 0, 0, 0, 0) := by decide +kernel
theorem f275_19 : mFetch 275 19 = some (.ireturn, 1, 0, 0, 0, 0) := by decide +kernel
theorem f275_20 : mFetch 275 20 = some (.iconst 0, 1, 0, 0, 0, 0) := by decide +kernel
theorem f275_21 : mFetch 275 21 = some (.istore 4, 2, 0, 0, 0, 0) := by decide +kernel
theorem f275_23 : mFetch 275 23 = some (.iload 4, 2, 0, 0, 0, 0) := by decide +kernel
theorem f275_25 : mFetch 275 25 = some (.aload_n 0, 1, 0, 0, 0, 0) := by decide +kernel
theorem f275_26 : mFetch 275 26 = some (.getfield 39, 3, 12, 20, 2, 1) := by decide +kernel
theorem f275_29 : mFetch 275 29 = some (.iconst 3, 1, 0, 0, 0, 0) := by decide +kernel
theorem f275_30 : mFetch 275 30 = some (.iaload, 1, 0, 0, 0, 0) := by decide +kernel
theorem f275_31 : mFetch 275 31 = some (.if_icmp .ge 53, 3, 84, 0, 0, 0) := by decide +kernel
theorem f275_34 : mFetch 275 34 = some (.aload_n 0, 1, 0, 0, 0, 0) := by decide +kernel
theorem f275_35 : mFetch 275 35 = some (.iload_n 1, 1, 0, 0, 0, 0) := by decide +kernel
theorem f275_36 : mFetch 275 36 = some (.iload 4, 2, 0, 0, 0, 0) := by decide +kernel
theorem f275_38 : mFetch 275 38 = some (.invokevirtual 321, 3, 217, 0, 3, 12) := by decide +kernel
theorem f275_41 : mFetch 275 41 = some (.ifCond .eq 37, 3, 78, 0, 0, 0) := by decide +kernel
theorem f275_44 : mFetch 275 44 = some (.aload_n 0, 1, 0, 0, 0, 0) := by decide +kernel
theorem f275_45 : mFetch 275 45 = some (.iload_n 2, 1, 0, 0, 0, 0) := by decide +kernel
theorem f275_46 : mFetch 275 46 = some (.iload 4, 2, 0, 0, 0, 0) := by decide +kernel
theorem f275_48 : mFetch 275 48 = some (.invokevirtual 321, 3, 217, 0, 3, 12) := by decide +kernel
theorem f275_51 : mFetch 275 51 = some (.ifCond .eq 27, 3, 78, 0, 0, 0) := by decide +kernel
theorem f275_54 : mFetch 275 54 = some (.aload_n 0, 1, 0, 0, 0, 0) := by decide +kernel
theorem f275_55 : mFetch 275 55 = some (.iload_n 1, 1, 0, 0, 0, 0) := by decide +kernel
theorem f275_56 : mFetch 275 56 = some (.iload 4, 2, 0, 0, 0, 0) := by decide +kernel
theorem f275_58 : mFetch 275 58 = some (.invokevirtual 331, 3, 218, 0, 3, 12) := by decide +kernel
theorem f275_61 : mFetch 275 61 = some (.iload_n 3, 1, 0, 0, 0, 0) := by decide +kernel
theorem f275_62 : mFetch 275 62 = some (.if_icmp .le 16, 3, 78, 0, 0, 0) := by decide +kernel
theorem f275_65 : mFetch 275 65 = some (.aload_n 0, 1, 0, 0, 0, 0) := by decide +kernel
theorem f275_66 : mFetch 275 66 = some (.iload_n 2, 1, 0, 0, 0, 0) := by decide +kernel
theorem f275_67 : mFetch 275 67 = some (.iload 4, 2, 0, 0, 0, 0) := by decide +kernel
theorem f275_69 : mFetch 275 69 = some (.invokevirtual 331, 3, 218, 0, 3, 12) := by decide +kernel
theorem f275_72 : mFetch 275 72 = some (.iload_n 3, 1, 0, 0, 0, 0) := by decide +kernel
theorem f275_73 : mFetch 275 73 = some (.if_icmp .gt 5, 3, 78, 0, 0, 0) := by decide +kernel
theorem f275_76 : mFetch 275 76 = some (.iconst 1, 1, 0, 0, 0, 0) := by decide +kernel
theorem f275_77 : mFetch 275 77 = some (.ireturn, 1, 0, 0, 0, 0) := by decide +kernel
theorem f275_78 : mFetch 275 78 = some (.iinc 4 1, 3, 0, 0, 0, 0) := by decide +kernel
theorem f275_81 : mFetch 275 81 = some (.goto (-58), 3, 23, 0, 0, 0) := by decide +kernel
theorem f275_84 : mFetch 275 84 = some (.iconst 0, 1, 0, 0, 0, 0) := by decide +kernel
theorem f275_85 : mFetch 275 85 = some (.ireturn, 1, 0, 0, 0, 0) := by decide +kernel
theorem b275_0 {X : (Nat → Int) × Nat} {d : Nat} {s : mSt} {Q : mQ} {x1 : Int} {x2 : Int} {x3 : Int} {l4 : Option mV} (h_1 : Sp X d 222 [mR 407, mI x1, mI x3] s (fun r s' => ∃ v : Int, r = some (mI v) ∧ Wp X (d + 1) 275 6 [some (mR 407), some (mI x1), some (mI x2), some (mI x3), l4] [mI v] s' Q)) : Wp X (d + 1) 275 0 [some (mR 407), some (mI x1), some (mI x2), some (mI x3), l4] [] s Q := Wp_step k275 f275_0 (Wp_step k275 f275_1 (Wp_step k275 f275_2 (Wp_step k275 f275_3 ⟨⟨kf_407, Nat.le_of_ble_eq_true rfl⟩, Nat.le_refl _, _, rfl, Sp_E h_1⟩)))
theorem b275_6 {X : (Nat → Int) × Nat} {d : Nat} {s : mSt} {Q : mQ} {x1 : Int} {x2 : Int} {x3 : Int} {l4 : Option mV} {xt0 : Int} (h_1 : 0 ≤ xt0 → Wp X d 275 18 [some (mR 407), some (mI x1), some (mI x2), some (mI x3), l4] [] s Q) (h_2 : ¬ 0 ≤ xt0 → Wp X d 275 9 [some (mR 407), some (mI x1), some (mI x2), some (mI x3), l4] [] s Q) : Wp X d 275 6 [some (mR 407), some (mI x1), some (mI x2), some (mI x3), l4] [mI xt0] s Q := Wp_step k275 f275_6 ⟨h_1, h_2⟩
theorem b275_9 {X : (Nat → Int) × Nat} {d : Nat} {s : mSt} {Q : mQ} {x1 : Int} {x2 : Int} {x3 : Int} {l4 : Option mV} (h_1 : Sp X d 222 [mR 407, mI x2, mI x3] s (fun r s' => ∃ v : Int, r = some (mI v) ∧ Wp X (d + 1) 275 15 [some (mR 407), some (mI x1), some (mI x2), some (mI x3), l4] [mI v] s' Q)) : Wp X (d + 1) 275 9 [some (mR 407), some (mI x1), some (mI x2), some (mI x3), l4] [] s Q := Wp_step k275 f275_9 (Wp_step k275 f275_10 (Wp_step k275 f275_11 (Wp_step k275 f275_12 ⟨⟨kf_407, Nat.le_of_ble_eq_true rfl⟩, Nat.le_refl _, _, rfl, Sp_E h_1⟩)))
theorem b275_15 {X : (Nat → Int) × Nat} {d : Nat} {s : mSt} {Q : mQ} {x1 : Int} {x2 : Int} {x3 : Int} {l4 : Option mV} {xt0 : Int} (h_1 : xt0 < 0 → Wp X d 275 20 [some (mR 407), some (mI x1), some (mI x2), some (mI x3), l4] [] s Q) (h_2 : ¬ xt0 < 0 → Wp X d 275 18 [some (mR 407), some (mI x1), some (mI x2), some (mI x3), l4] [] s Q) : Wp X d 275 15 [some (mR 407), some (mI x1), some (mI x2), some (mI x3), l4] [mI xt0] s Q := Wp_step k275 f275_15 ⟨h_1, h_2⟩
theorem b275_18 {X : (Nat → Int) × Nat} {d : Nat} {s : mSt} {Q : mQ} {x1 : Int} {x2 : Int} {x3 : Int} {l4 : Option mV} (h_1 : Q (some (mI 0)) s) : Wp X d 275 18 [some (mR 407), some (mI x1), some (mI x2), some (mI x3), l4] [] s Q := Wp_step k275 f275_18 (Wp_step k275 f275_19 ⟨⟨rfl, (Or.inl rfl)⟩, h_1⟩)
theorem b275_20 {X : (Nat → Int) × Nat} {d : Nat} {s : mSt} {Q : mQ} {x1 : Int} {x2 : Int} {x3 : Int} {l4 : Option mV} (h_1 : Wp X d 275 23 [some (mR 407), some (mI x1), some (mI x2), some (mI x3), some (mI 0)] [] s Q) : Wp X d 275 20 [some (mR 407), some (mI x1), some (mI x2), some (mI x3), l4] [] s Q := Wp_step k275 f275_20 (Wp_step k275 f275_21 (h_1))
theorem b275_23 {X : (Nat → Int) × Nat} {d : Nat} {s : mSt} {Q : mQ} {x1 : Int} {x2 : Int} {x3 : Int} {x4 : Int} (h_1 : (s 417 3) ≤ x4 → Wp X d 275 84 [some (mR 407), some (mI x1), some (mI x2), some (mI x3), some (mI x4)] [] s Q) (h_2 : ¬ (s 417 3) ≤ x4 → Wp X d 275 34 [some (mR 407), some (mI x1), some (mI x2), some (mI x3), some (mI x4)] [] s Q) : Wp X d 275 23 [some (mR 407), some (mI x1), some (mI x2), some (mI x3), some (mI x4)] [] s Q := Wp_step k275 f275_23 (Wp_step k275 f275_25 (Wp_step k275 f275_26 ⟨kf_407, 417, rf_407_20, Wp_step k275 f275_29 (Wp_step k275 f275_30 ⟨166, af_417, ⟨by decide, by decide⟩, Wp_step k275 f275_31 ⟨h_1, h_2⟩⟩)⟩))
theorem b275_34 {X : (Nat → Int) × Nat} {d : Nat} {s : mSt} {Q : mQ} {x1 : Int} {x2 : Int} {x3 : Int} {x4 : Int} (h_1 : Sp X d 217 [mR 407, mI x1, mI x4] s (fun r s' => ∃ v : Int, r = some (mI v) ∧ Wp X (d + 1) 275 41 [some (mR 407), some (mI x1), some (mI x2), some (mI x3), some (mI x4)] [mI v] s' Q)) : Wp X (d + 1) 275 34 [some (mR 407), some (mI x1), some (mI x2), some (mI x3), some (mI x4)] [] s Q := Wp_step k275 f275_34 (Wp_step k275 f275_35 (Wp_step k275 f275_36 (Wp_step k275 f275_38 ⟨⟨kf_407, Nat.le_of_ble_eq_true rfl⟩, Nat.le_refl _, _, rfl, Sp_E h_1⟩)))
theorem b275_41 {X : (Nat → Int) × Nat} {d : Nat} {s : mSt} {Q : mQ} {x1 : Int} {x2 : Int} {x3 : Int} {x4 : Int} {xt0 : Int} (h_1 : xt0 = 0 → Wp X d 275 78 [some (mR 407), some (mI x1), some (mI x2), some (mI x3), some (mI x4)] [] s Q) (h_2 : ¬ xt0 = 0 → Wp X d 275 44 [some (mR 407), some (mI x1), some (mI x2), some (mI x3), some (mI x4)] [] s Q) : Wp X d 275 41 [some (mR 407), some (mI x1), some (mI x2), some (mI x3), some (mI x4)] [mI xt0] s Q := Wp_step k275 f275_41 ⟨h_1, h_2⟩
theorem b275_44 {X : (Nat → Int) × Nat} {d : Nat} {s : mSt} {Q : mQ} {x1 : Int} {x2 : Int} {x3 : Int} {x4 : Int} (h_1 : Sp X d 217 [mR 407, mI x2, mI x4] s (fun r s' => ∃ v : Int, r = some (mI v) ∧ Wp X (d + 1) 275 51 [some (mR 407), some (mI x1), some (mI x2), some (mI x3), some (mI x4)] [mI v] s' Q)) : Wp X (d + 1) 275 44 [some (mR 407), some (mI x1), some (mI x2), some (mI x3), some (mI x4)] [] s Q := Wp_step k275 f275_44 (Wp_step k275 f275_45 (Wp_step k275 f275_46 (Wp_step k275 f275_48 ⟨⟨kf_407, Nat.le_of_ble_eq_true rfl⟩, Nat.le_refl _, _, rfl, Sp_E h_1⟩)))
theorem b275_51 {X : (Nat → Int) × Nat} {d : Nat} {s : mSt} {Q : mQ} {x1 : Int} {x2 : Int} {x3 : Int} {x4 : Int} {xt0 : Int} (h_1 : xt0 = 0 → Wp X d 275 78 [some (mR 407), some (mI x1), some (mI x2), some (mI x3), some (mI x4)] [] s Q) (h_2 : ¬ xt0 = 0 → Wp X d 275 54 [some (mR 407), some (mI x1), some (mI x2), some (mI x3), some (mI x4)] [] s Q) : Wp X d 275 51 [some (mR 407), some (mI x1), some (mI x2), some (mI x3), some (mI x4)] [mI xt0] s Q := Wp_step k275 f275_51 ⟨h_1, h_2⟩
theorem b275_54 {X : (Nat → Int) × Nat} {d : Nat} {s : mSt} {Q : mQ} {x1 : Int} {x2 : Int} {x3 : Int} {x4 : Int} (h_1 : Sp X d 218 [mR 407, mI x1, mI x4] s (fun r s' => ∃ v : Int, r = some (mI v) ∧ Wp X (d + 1) 275 61 [some (mR 407), some (mI x1), some (mI x2), some (mI x3), some (mI x4)] [mI v] s' Q)) : Wp X (d + 1) 275 54 [some (mR 407), some (mI x1), some (mI x2), some (mI x3), some (mI x4)] [] s Q := Wp_step k275 f275_54 (Wp_step k275 f275_55 (Wp_step k275 f275_56 (Wp_step k275 f275_58 ⟨⟨kf_407, Nat.le_of_ble_eq_true rfl⟩, Nat.le_refl _, _, rfl, Sp_E h_1⟩)))
theorem b275_61 {X : (Nat → Int) × Nat} {d : Nat} {s : mSt} {Q : mQ} {x1 : Int} {x2 : Int} {x3 : Int} {x4 : Int} {xt0 : Int} (h_1 : xt0 ≤ x3 → Wp X d 275 78 [some (mR 407), some (mI x1), some (mI x2), some (mI x3), some (mI x4)] [] s Q) (h_2 : ¬ xt0 ≤ x3 → Wp X d 275 65 [some (mR 407), some (mI x1), some (mI x2), some (mI x3), some (mI x4)] [] s Q) : Wp X d 275 61 [some (mR 407), some (mI x1), some (mI x2), some (mI x3), some (mI x4)] [mI xt0] s Q := Wp_step k275 f275_61 (Wp_step k275 f275_62 ⟨h_1, h_2⟩)
theorem b275_65 {X : (Nat → Int) × Nat} {d : Nat} {s : mSt} {Q : mQ} {x1 : Int} {x2 : Int} {x3 : Int} {x4 : Int} (h_1 : Sp X d 218 [mR 407, mI x2, mI x4] s (fun r s' => ∃ v : Int, r = some (mI v) ∧ Wp X (d + 1) 275 72 [some (mR 407), some (mI x1), some (mI x2), some (mI x3), some (mI x4)] [mI v] s' Q)) : Wp X (d + 1) 275 65 [some (mR 407), some (mI x1), some (mI x2), some (mI x3), some (mI x4)] [] s Q := Wp_step k275 f275_65 (Wp_step k275 f275_66 (Wp_step k275 f275_67 (Wp_step k275 f275_69 ⟨⟨kf_407, Nat.le_of_ble_eq_true rfl⟩, Nat.le_refl _, _, rfl, Sp_E h_1⟩)))
theorem b275_72 {X : (Nat → Int) × Nat} {d : Nat} {s : mSt} {Q : mQ} {x1 : Int} {x2 : Int} {x3 : Int} {x4 : Int} {xt0 : Int} (h_1 : x3 < xt0 → Wp X d 275 78 [some (mR 407), some (mI x1), some (mI x2), some (mI x3), some (mI x4)] [] s Q) (h_2 : ¬ x3 < xt0 → Wp X d 275 76 [some (mR 407), some (mI x1), some (mI x2), some (mI x3), some (mI x4)] [] s Q) : Wp X d 275 72 [some (mR 407), some (mI x1), some (mI x2), some (mI x3), some (mI x4)] [mI xt0] s Q := Wp_step k275 f275_72 (Wp_step k275 f275_73 ⟨h_1, h_2⟩)
theorem b275_76 {X : (Nat → Int) × Nat} {d : Nat} {s : mSt} {Q : mQ} {x1 : Int} {x2 : Int} {x3 : Int} {x4 : Int} (h_1 : Q (some (mI 1)) s) : Wp X d 275 76 [some (mR 407), some (mI x1), some (mI x2), some (mI x3), some (mI x4)] [] s Q := Wp_step k275 f275_76 (Wp_step k275 f275_77 ⟨⟨rfl, (Or.inr rfl)⟩, h_1⟩)
theorem b275_78 {X : (Nat → Int) × Nat} {d : Nat} {s : mSt} {Q : mQ} {x1 : Int} {x2 : Int} {x3 : Int} {x4 : Int} (h_1 : Wp X d 275 23 [some (mR 407), some (mI x1), some (mI x2), some (mI x3), some (mI (w32 (x4 + 1)))] [] s Q) : Wp X d 275 78 [some (mR 407), some (mI x1), some (mI x2), some (mI x3), some (mI x4)] [] s Q := Wp_step k275 f275_78 (Wp_step k275 f275_81 (h_1))
theorem b275_84 {X : (Nat → Int) × Nat} {d : Nat} {s : mSt} {Q : mQ} {x1 : Int} {x2 : Int} {x3 : Int} {x4 : Int} (h_1 : Q (some (mI 0)) s) : Wp X d 275 84 [some (mR 407), some (mI x1), some (mI x2), some (mI x3), some (mI x4)] [] s Q := Wp_step k275 f275_84 (Wp_step k275 f275_85 ⟨⟨rfl, (Or.inl rfl)⟩, h_1⟩)
theorem e275 {X : (Nat → Int) × Nat} {d : Nat} {s : mSt} {Q : mQ} {x1 : Int} {x2 : Int} {x3 : Int} (h : Wp X d 275 0 [some (mR 407), some (mI x1), some (mI x2), some (mI x3), none] [] s Q) : Sp X d 275 [mR 407, mI x1, mI x2, mI x3] s Q := Sp_of (show mCe 275 = 0 by decide +kernel) (by rw [show mML 275 = 5 by decide +kernel]; rfl) (Nat.le_trans (Nat.le_of_ble_eq_true (show Nat.ble (mArgs _).length 5 = true from rfl)) (show 5 ≤ mML 275 by decide +kernel)) h
-- 276 ClashDayModel.apart(II)I
theorem k276 : mRk 276 = 1 := by decide +kernel
theorem f276_0 : mFetch 276 0 = some (.aload_n 0, 1, 0, 0, 0, 0) := by decide +kernel
theorem f276_1 : mFetch 276 1 = some (.iload_n 1, 1, 0, 0, 0, 0) := by decide +kernel
theorem f276_2 : mFetch 276 2 = some (.invokevirtual 334, 3, 216, 0, 2, 12) := by decide +kernel
theorem f276_5 : mFetch 276 5 = some (.ifCond .eq 16, 3, 21, 0, 0, 0) := by decide +kernel
theorem f276_8 : mFetch 276 8 = some (.aload_n 0, 1, 0, 0, 0, 0) := by decide +kernel
theorem f276_9 : mFetch 276 9 = some (.iload_n 2, 1, 0, 0, 0, 0) := by decide +kernel
theorem f276_10 : mFetch 276 10 = some (.invokevirtual 334, 3, 216, 0, 2, 12) := by decide +kernel
theorem f276_13 : mFetch 276 13 = some (.ifCond .eq 8, 3, 21, 0, 0, 0) := by decide +kernel
theorem f276_16 : mFetch 276 16 = some (.iload_n 1, 1, 0, 0, 0, 0) := by decide +kernel
theorem f276_17 : mFetch 276 17 = some (.iload_n 2, 1, 0, 0, 0, 0) := by decide +kernel
theorem f276_18 : mFetch 276 18 = some (.if_icmp .ne 5, 3, 23, 0, 0, 0) := by decide +kernel
theorem f276_21 : mFetch 276 21 = some (.iconst (-1), 1, 0, 0, 0, 0) := by decide +kernel
theorem f276_22 : mFetch 276 22 = some (.ireturn, 1, 0, 0, 0, 0) := by decide +kernel
theorem f276_23 : mFetch 276 23 = some (.iconst 0, 1, 0, 0, 0, 0) := by decide +kernel
theorem f276_24 : mFetch 276 24 = some (.istore_n 3, 1, 0, 0, 0, 0) := by decide +kernel
theorem f276_25 : mFetch 276 25 = some (.iconst 0, 1, 0, 0, 0, 0) := by decide +kernel
theorem f276_26 : mFetch 276 26 = some (.istore 4, 2, 0, 0, 0, 0) := by decide +kernel
theorem f276_28 : mFetch 276 28 = some (.iload 4, 2, 0, 0, 0, 0) := by decide +kernel
theorem f276_30 : mFetch 276 30 = some (.bipush 30, 2, 0, 0, 0, 0) := by decide +kernel
theorem f276_32 : mFetch 276 32 = some (.if_icmp .ge 28, 3, 60, 0, 0, 0) := by decide +kernel
theorem f276_35 : mFetch 276 35 = some (.iload_n 3, 1, 0, 0, 0, 0) := by decide +kernel
theorem f276_36 : mFetch 276 36 = some (.aload_n 0, 1, 0, 0, 0, 0) := by decide +kernel
theorem f276_37 : mFetch 276 37 = some (.iload_n 1, 1, 0, 0, 0, 0) := by decide +kernel
theorem f276_38 : mFetch 276 38 = some (.iload_n 2, 1, 0, 0, 0, 0) := by decide +kernel
theorem f276_39 : mFetch 276 39 = some (.iload 4, 2, 0, 0, 0, 0) := by decide +kernel
theorem f276_41 : mFetch 276 41 = some (.invokevirtual 485, 3, 275, 0, 4, 12) := by decide +kernel
theorem f276_44 : mFetch 276 44 = some (.ifCond .eq 7, 3, 51, 0, 0, 0) := by decide +kernel
theorem f276_47 : mFetch 276 47 = some (.iconst 1, 1, 0, 0, 0, 0) := by decide +kernel
theorem f276_48 : mFetch 276 48 = some (.goto 4, 3, 52, 0, 0, 0) := by decide +kernel
theorem f276_51 : mFetch 276 51 = some (.iconst 0, 1, 0, 0, 0, 0) := by decide +kernel
theorem f276_52 : mFetch 276 52 = some (.iadd, 1, 0, 0, 0, 0) := by decide +kernel
theorem f276_53 : mFetch 276 53 = some (.istore_n 3, 1, 0, 0, 0, 0) := by decide +kernel
theorem f276_54 : mFetch 276 54 = some (.iinc 4 1, 3, 0, 0, 0, 0) := by decide +kernel
theorem f276_57 : mFetch 276 57 = some (.goto (-29), 3, 28, 0, 0, 0) := by decide +kernel
theorem f276_60 : mFetch 276 60 = some (.iload_n 3, 1, 0, 0, 0, 0) := by decide +kernel
theorem f276_61 : mFetch 276 61 = some (.ireturn, 1, 0, 0, 0, 0) := by decide +kernel
theorem b276_0 {X : (Nat → Int) × Nat} {d : Nat} {s : mSt} {Q : mQ} {x1 : Int} {x2 : Int} {l3 : Option mV} {l4 : Option mV} (h_1 : Sp X d 216 [mR 407, mI x1] s (fun r s' => ∃ v : Int, r = some (mI v) ∧ Wp X (d + 1) 276 5 [some (mR 407), some (mI x1), some (mI x2), l3, l4] [mI v] s' Q)) : Wp X (d + 1) 276 0 [some (mR 407), some (mI x1), some (mI x2), l3, l4] [] s Q := Wp_step k276 f276_0 (Wp_step k276 f276_1 (Wp_step k276 f276_2 ⟨⟨kf_407, Nat.le_of_ble_eq_true rfl⟩, Nat.le_refl _, _, rfl, Sp_E h_1⟩))
theorem b276_5 {X : (Nat → Int) × Nat} {d : Nat} {s : mSt} {Q : mQ} {x1 : Int} {x2 : Int} {l3 : Option mV} {l4 : Option mV} {xt0 : Int} (h_1 : xt0 = 0 → Wp X d 276 21 [some (mR 407), some (mI x1), some (mI x2), l3, l4] [] s Q) (h_2 : ¬ xt0 = 0 → Wp X d 276 8 [some (mR 407), some (mI x1), some (mI x2), l3, l4] [] s Q) : Wp X d 276 5 [some (mR 407), some (mI x1), some (mI x2), l3, l4] [mI xt0] s Q := Wp_step k276 f276_5 ⟨h_1, h_2⟩
theorem b276_8 {X : (Nat → Int) × Nat} {d : Nat} {s : mSt} {Q : mQ} {x1 : Int} {x2 : Int} {l3 : Option mV} {l4 : Option mV} (h_1 : Sp X d 216 [mR 407, mI x2] s (fun r s' => ∃ v : Int, r = some (mI v) ∧ Wp X (d + 1) 276 13 [some (mR 407), some (mI x1), some (mI x2), l3, l4] [mI v] s' Q)) : Wp X (d + 1) 276 8 [some (mR 407), some (mI x1), some (mI x2), l3, l4] [] s Q := Wp_step k276 f276_8 (Wp_step k276 f276_9 (Wp_step k276 f276_10 ⟨⟨kf_407, Nat.le_of_ble_eq_true rfl⟩, Nat.le_refl _, _, rfl, Sp_E h_1⟩))
theorem b276_13 {X : (Nat → Int) × Nat} {d : Nat} {s : mSt} {Q : mQ} {x1 : Int} {x2 : Int} {l3 : Option mV} {l4 : Option mV} {xt0 : Int} (h_1 : xt0 = 0 → Wp X d 276 21 [some (mR 407), some (mI x1), some (mI x2), l3, l4] [] s Q) (h_2 : ¬ xt0 = 0 → Wp X d 276 16 [some (mR 407), some (mI x1), some (mI x2), l3, l4] [] s Q) : Wp X d 276 13 [some (mR 407), some (mI x1), some (mI x2), l3, l4] [mI xt0] s Q := Wp_step k276 f276_13 ⟨h_1, h_2⟩
theorem b276_16 {X : (Nat → Int) × Nat} {d : Nat} {s : mSt} {Q : mQ} {x1 : Int} {x2 : Int} {l3 : Option mV} {l4 : Option mV} (h_1 : ¬ x1 = x2 → Wp X d 276 23 [some (mR 407), some (mI x1), some (mI x2), l3, l4] [] s Q) (h_2 : x1 = x2 → Wp X d 276 21 [some (mR 407), some (mI x1), some (mI x2), l3, l4] [] s Q) : Wp X d 276 16 [some (mR 407), some (mI x1), some (mI x2), l3, l4] [] s Q := Wp_step k276 f276_16 (Wp_step k276 f276_17 (Wp_step k276 f276_18 ⟨h_1, h_2⟩))
theorem b276_21 {X : (Nat → Int) × Nat} {d : Nat} {s : mSt} {Q : mQ} {x1 : Int} {x2 : Int} {l3 : Option mV} {l4 : Option mV} (h_1 : Q (some (mI (-1))) s) : Wp X d 276 21 [some (mR 407), some (mI x1), some (mI x2), l3, l4] [] s Q := Wp_step k276 f276_21 (Wp_step k276 f276_22 ⟨⟨rfl, trivial⟩, h_1⟩)
theorem b276_23 {X : (Nat → Int) × Nat} {d : Nat} {s : mSt} {Q : mQ} {x1 : Int} {x2 : Int} {l3 : Option mV} {l4 : Option mV} (h_1 : Wp X d 276 28 [some (mR 407), some (mI x1), some (mI x2), some (mI 0), some (mI 0)] [] s Q) : Wp X d 276 23 [some (mR 407), some (mI x1), some (mI x2), l3, l4] [] s Q := Wp_step k276 f276_23 (Wp_step k276 f276_24 (Wp_step k276 f276_25 (Wp_step k276 f276_26 (h_1))))
theorem b276_28 {X : (Nat → Int) × Nat} {d : Nat} {s : mSt} {Q : mQ} {x1 : Int} {x2 : Int} {x3 : Int} {x4 : Int} (h_1 : 30 ≤ x4 → Wp X d 276 60 [some (mR 407), some (mI x1), some (mI x2), some (mI x3), some (mI x4)] [] s Q) (h_2 : ¬ 30 ≤ x4 → Wp X d 276 35 [some (mR 407), some (mI x1), some (mI x2), some (mI x3), some (mI x4)] [] s Q) : Wp X d 276 28 [some (mR 407), some (mI x1), some (mI x2), some (mI x3), some (mI x4)] [] s Q := Wp_step k276 f276_28 (Wp_step k276 f276_30 (Wp_step k276 f276_32 ⟨h_1, h_2⟩))
theorem b276_35 {X : (Nat → Int) × Nat} {d : Nat} {s : mSt} {Q : mQ} {x1 : Int} {x2 : Int} {x3 : Int} {x4 : Int} (h_1 : Sp X d 275 [mR 407, mI x1, mI x2, mI x4] s (fun r s' => ∃ v : Int, r = some (mI v) ∧ Wp X (d + 1) 276 44 [some (mR 407), some (mI x1), some (mI x2), some (mI x3), some (mI x4)] [mI v, mI x3] s' Q)) : Wp X (d + 1) 276 35 [some (mR 407), some (mI x1), some (mI x2), some (mI x3), some (mI x4)] [] s Q := Wp_step k276 f276_35 (Wp_step k276 f276_36 (Wp_step k276 f276_37 (Wp_step k276 f276_38 (Wp_step k276 f276_39 (Wp_step k276 f276_41 ⟨⟨kf_407, Nat.le_of_ble_eq_true rfl⟩, Nat.le_refl _, _, rfl, Sp_E h_1⟩)))))
theorem b276_44 {X : (Nat → Int) × Nat} {d : Nat} {s : mSt} {Q : mQ} {x1 : Int} {x2 : Int} {x3 : Int} {x4 : Int} {xt0 : Int} {xt1 : Int} (h_1 : xt1 = 0 → Wp X d 276 51 [some (mR 407), some (mI x1), some (mI x2), some (mI x3), some (mI x4)] [mI xt0] s Q) (h_2 : ¬ xt1 = 0 → Wp X d 276 47 [some (mR 407), some (mI x1), some (mI x2), some (mI x3), some (mI x4)] [mI xt0] s Q) : Wp X d 276 44 [some (mR 407), some (mI x1), some (mI x2), some (mI x3), some (mI x4)] [mI xt1, mI xt0] s Q := Wp_step k276 f276_44 ⟨h_1, h_2⟩
theorem b276_47 {X : (Nat → Int) × Nat} {d : Nat} {s : mSt} {Q : mQ} {x1 : Int} {x2 : Int} {x3 : Int} {x4 : Int} {xt0 : Int} (h_1 : Wp X d 276 52 [some (mR 407), some (mI x1), some (mI x2), some (mI x3), some (mI x4)] [mI 1, mI xt0] s Q) : Wp X d 276 47 [some (mR 407), some (mI x1), some (mI x2), some (mI x3), some (mI x4)] [mI xt0] s Q := Wp_step k276 f276_47 (Wp_step k276 f276_48 (h_1))
theorem b276_51 {X : (Nat → Int) × Nat} {d : Nat} {s : mSt} {Q : mQ} {x1 : Int} {x2 : Int} {x3 : Int} {x4 : Int} {xt0 : Int} (h_1 : Wp X d 276 52 [some (mR 407), some (mI x1), some (mI x2), some (mI x3), some (mI x4)] [mI 0, mI xt0] s Q) : Wp X d 276 51 [some (mR 407), some (mI x1), some (mI x2), some (mI x3), some (mI x4)] [mI xt0] s Q := Wp_step k276 f276_51 (h_1)
theorem b276_52 {X : (Nat → Int) × Nat} {d : Nat} {s : mSt} {Q : mQ} {x1 : Int} {x2 : Int} {x3 : Int} {x4 : Int} {xt0 : Int} {xt1 : Int} (h_1 : Wp X d 276 28 [some (mR 407), some (mI x1), some (mI x2), some (mI (w32 (xt0 + xt1))), some (mI (w32 (x4 + 1)))] [] s Q) : Wp X d 276 52 [some (mR 407), some (mI x1), some (mI x2), some (mI x3), some (mI x4)] [mI xt1, mI xt0] s Q := Wp_step k276 f276_52 (Wp_step k276 f276_53 (Wp_step k276 f276_54 (Wp_step k276 f276_57 (h_1))))
theorem b276_60 {X : (Nat → Int) × Nat} {d : Nat} {s : mSt} {Q : mQ} {x1 : Int} {x2 : Int} {x3 : Int} {x4 : Int} (h_1 : Q (some (mI x3)) s) : Wp X d 276 60 [some (mR 407), some (mI x1), some (mI x2), some (mI x3), some (mI x4)] [] s Q := Wp_step k276 f276_60 (Wp_step k276 f276_61 ⟨⟨rfl, trivial⟩, h_1⟩)
theorem e276 {X : (Nat → Int) × Nat} {d : Nat} {s : mSt} {Q : mQ} {x1 : Int} {x2 : Int} (h : Wp X d 276 0 [some (mR 407), some (mI x1), some (mI x2), none, none] [] s Q) : Sp X d 276 [mR 407, mI x1, mI x2] s Q := Sp_of (show mCe 276 = 0 by decide +kernel) (by rw [show mML 276 = 5 by decide +kernel]; rfl) (Nat.le_trans (Nat.le_of_ble_eq_true (show Nat.ble (mArgs _).length 5 = true from rfl)) (show 5 ≤ mML 276 by decide +kernel)) h
-- 277 ClashDayModel.keeps()V
theorem k277 : mRk 277 = 0 := by decide +kernel
theorem f277_0 : mFetch 277 0 = some (.iconst 0, 1, 0, 0, 0, 0) := by decide +kernel
theorem f277_1 : mFetch 277 1 = some (.istore_n 1, 1, 0, 0, 0, 0) := by decide +kernel
theorem f277_2 : mFetch 277 2 = some (.iload_n 1, 1, 0, 0, 0, 0) := by decide +kernel
theorem f277_3 : mFetch 277 3 = some (.bipush 72, 2, 0, 0, 0, 0) := by decide +kernel
theorem f277_5 : mFetch 277 5 = some (.if_icmp .ge 23, 3, 28, 0, 0, 0) := by decide +kernel
theorem f277_8 : mFetch 277 8 = some (.aload_n 0, 1, 0, 0, 0, 0) := by decide +kernel
theorem f277_9 : mFetch 277 9 = some (.getfield 79, 3, 12, 43, 2, 1) := by decide +kernel
theorem f277_12 : mFetch 277 12 = some (.iload_n 1, 1, 0, 0, 0, 0) := by decide +kernel
theorem f277_13 : mFetch 277 13 = some (.aload_n 0, 1, 0, 0, 0, 0) := by decide +kernel
theorem f277_14 : mFetch 277 14 = some (.getfield 39, 3, 12, 20, 2, 1) := by decide +kernel
theorem f277_17 : mFetch 277 17 = some (.iconst 5, 1, 0, 0, 0, 0) := by decide +kernel
theorem f277_18 : mFetch 277 18 = some (.iload_n 1, 1, 0, 0, 0, 0) := by decide +kernel
theorem f277_19 : mFetch 277 19 = some (.iadd, 1, 0, 0, 0, 0) := by decide +kernel
theorem f277_20 : mFetch 277 20 = some (.iaload, 1, 0, 0, 0, 0) := by decide +kernel
theorem f277_21 : mFetch 277 21 = some (.iastore, 1, 0, 0, 0, 0) := by decide +kernel
theorem f277_22 : mFetch 277 22 = some (.iinc 1 1, 3, 0, 0, 0, 0) := by decide +kernel
theorem f277_25 : mFetch 277 25 = some (.goto (-23), 3, 2, 0, 0, 0) := by decide +kernel
theorem f277_28 : mFetch 277 28 = some (.return_, 1, 0, 0, 0, 0) := by decide +kernel
theorem b277_0 {X : (Nat → Int) × Nat} {d : Nat} {s : mSt} {Q : mQ} {l1 : Option mV} (h_1 : Wp X d 277 2 [some (mR 407), some (mI 0)] [] s Q) : Wp X d 277 0 [some (mR 407), l1] [] s Q := Wp_step k277 f277_0 (Wp_step k277 f277_1 (h_1))
theorem b277_2 {X : (Nat → Int) × Nat} {d : Nat} {s : mSt} {Q : mQ} {x1 : Int} (h_1 : 72 ≤ x1 → Wp X d 277 28 [some (mR 407), some (mI x1)] [] s Q) (h_2 : ¬ 72 ≤ x1 → Wp X d 277 8 [some (mR 407), some (mI x1)] [] s Q) : Wp X d 277 2 [some (mR 407), some (mI x1)] [] s Q := Wp_step k277 f277_2 (Wp_step k277 f277_3 (Wp_step k277 f277_5 ⟨h_1, h_2⟩))
theorem b277_8 {X : (Nat → Int) × Nat} {d : Nat} {s : mSt} {Q : mQ} {x1 : Int} (h_1 : 0 ≤ (w32 (5 + x1)) ∧ (w32 (5 + x1)) < 166) (h_2 : 0 ≤ x1 ∧ x1 < 72) (h_3 : Wp X d 277 2 [some (mR 407), some (mI (w32 (x1 + 1)))] [] (uS s 429 x1.toNat (s 417 (w32 (5 + x1)).toNat)) Q) : Wp X d 277 8 [some (mR 407), some (mI x1)] [] s Q := Wp_step k277 f277_8 (Wp_step k277 f277_9 ⟨kf_407, 429, rf_407_43, Wp_step k277 f277_12 (Wp_step k277 f277_13 (Wp_step k277 f277_14 ⟨kf_407, 417, rf_407_20, Wp_step k277 f277_17 (Wp_step k277 f277_18 (Wp_step k277 f277_19 (Wp_step k277 f277_20 ⟨166, af_417, h_1, Wp_step k277 f277_21 ⟨72, af_429, h_2, Wp_step k277 f277_22 (Wp_step k277 f277_25 (h_3))⟩⟩)))⟩))⟩)
theorem b277_28 {X : (Nat → Int) × Nat} {d : Nat} {s : mSt} {Q : mQ} {x1 : Int} (h_1 : Q none s) : Wp X d 277 28 [some (mR 407), some (mI x1)] [] s Q := Wp_step k277 f277_28 ⟨⟨rfl, Or.inl rfl⟩, h_1⟩
theorem e277 {X : (Nat → Int) × Nat} {d : Nat} {s : mSt} {Q : mQ} (h : Wp X d 277 0 [some (mR 407), none] [] s Q) : Sp X d 277 [mR 407] s Q := Sp_of (show mCe 277 = 0 by decide +kernel) (by rw [show mML 277 = 2 by decide +kernel]; rfl) (Nat.le_trans (Nat.le_of_ble_eq_true (show Nat.ble (mArgs _).length 2 = true from rfl)) (show 2 ≤ mML 277 by decide +kernel)) h
-- 278 ClashDayModel.laysBack()V
theorem k278 : mRk 278 = 0 := by decide +kernel
theorem f278_0 : mFetch 278 0 = some (.iconst 0, 1, 0, 0, 0, 0) := by decide +kernel
theorem f278_1 : mFetch 278 1 = some (.istore_n 1, 1, 0, 0, 0, 0) := by decide +kernel
theorem f278_2 : mFetch 278 2 = some (.iload_n 1, 1, 0, 0, 0, 0) := by decide +kernel
theorem f278_3 : mFetch 278 3 = some (.bipush 72, 2, 0, 0, 0, 0) := by decide +kernel
theorem f278_5 : mFetch 278 5 = some (.if_icmp .ge 23, 3, 28, 0, 0, 0) := by decide +kernel
theorem f278_8 : mFetch 278 8 = some (.aload_n 0, 1, 0, 0, 0, 0) := by decide +kernel
theorem f278_9 : mFetch 278 9 = some (.getfield 39, 3, 12, 20, 2, 1) := by decide +kernel
theorem f278_12 : mFetch 278 12 = some (.iconst 5, 1, 0, 0, 0, 0) := by decide +kernel
theorem f278_13 : mFetch 278 13 = some (.iload_n 1, 1, 0, 0, 0, 0) := by decide +kernel
theorem f278_14 : mFetch 278 14 = some (.iadd, 1, 0, 0, 0, 0) := by decide +kernel
theorem f278_15 : mFetch 278 15 = some (.aload_n 0, 1, 0, 0, 0, 0) := by decide +kernel
theorem f278_16 : mFetch 278 16 = some (.getfield 79, 3, 12, 43, 2, 1) := by decide +kernel
theorem f278_19 : mFetch 278 19 = some (.iload_n 1, 1, 0, 0, 0, 0) := by decide +kernel
theorem f278_20 : mFetch 278 20 = some (.iaload, 1, 0, 0, 0, 0) := by decide +kernel
theorem f278_21 : mFetch 278 21 = some (.iastore, 1, 0, 0, 0, 0) := by decide +kernel
theorem f278_22 : mFetch 278 22 = some (.iinc 1 1, 3, 0, 0, 0, 0) := by decide +kernel
theorem f278_25 : mFetch 278 25 = some (.goto (-23), 3, 2, 0, 0, 0) := by decide +kernel
theorem f278_28 : mFetch 278 28 = some (.return_, 1, 0, 0, 0, 0) := by decide +kernel
theorem b278_0 {X : (Nat → Int) × Nat} {d : Nat} {s : mSt} {Q : mQ} {l1 : Option mV} (h_1 : Wp X d 278 2 [some (mR 407), some (mI 0)] [] s Q) : Wp X d 278 0 [some (mR 407), l1] [] s Q := Wp_step k278 f278_0 (Wp_step k278 f278_1 (h_1))
theorem b278_2 {X : (Nat → Int) × Nat} {d : Nat} {s : mSt} {Q : mQ} {x1 : Int} (h_1 : 72 ≤ x1 → Wp X d 278 28 [some (mR 407), some (mI x1)] [] s Q) (h_2 : ¬ 72 ≤ x1 → Wp X d 278 8 [some (mR 407), some (mI x1)] [] s Q) : Wp X d 278 2 [some (mR 407), some (mI x1)] [] s Q := Wp_step k278 f278_2 (Wp_step k278 f278_3 (Wp_step k278 f278_5 ⟨h_1, h_2⟩))
theorem b278_8 {X : (Nat → Int) × Nat} {d : Nat} {s : mSt} {Q : mQ} {x1 : Int} (h_1 : 0 ≤ x1 ∧ x1 < 72) (h_2 : 0 ≤ (w32 (5 + x1)) ∧ (w32 (5 + x1)) < 166) (h_3 : Wp X d 278 2 [some (mR 407), some (mI (w32 (x1 + 1)))] [] (uS s 417 ((w32 (5 + x1)).toNat) (s 429 x1.toNat)) Q) : Wp X d 278 8 [some (mR 407), some (mI x1)] [] s Q := Wp_step k278 f278_8 (Wp_step k278 f278_9 ⟨kf_407, 417, rf_407_20, Wp_step k278 f278_12 (Wp_step k278 f278_13 (Wp_step k278 f278_14 (Wp_step k278 f278_15 (Wp_step k278 f278_16 ⟨kf_407, 429, rf_407_43, Wp_step k278 f278_19 (Wp_step k278 f278_20 ⟨72, af_429, h_1, Wp_step k278 f278_21 ⟨166, af_417, h_2, Wp_step k278 f278_22 (Wp_step k278 f278_25 (h_3))⟩⟩)⟩))))⟩)
theorem b278_28 {X : (Nat → Int) × Nat} {d : Nat} {s : mSt} {Q : mQ} {x1 : Int} (h_1 : Q none s) : Wp X d 278 28 [some (mR 407), some (mI x1)] [] s Q := Wp_step k278 f278_28 ⟨⟨rfl, Or.inl rfl⟩, h_1⟩
theorem e278 {X : (Nat → Int) × Nat} {d : Nat} {s : mSt} {Q : mQ} (h : Wp X d 278 0 [some (mR 407), none] [] s Q) : Sp X d 278 [mR 407] s Q := Sp_of (show mCe 278 = 0 by decide +kernel) (by rw [show mML 278 = 2 by decide +kernel]; rfl) (Nat.le_trans (Nat.le_of_ble_eq_true (show Nat.ble (mArgs _).length 2 = true from rfl)) (show 2 ≤ mML 278 by decide +kernel)) h
-- 279 ClashDayModel.rowOf(I)V
theorem k279 : mRk 279 = 0 := by decide +kernel
theorem f279_0 : mFetch 279 0 = some (.iload_n 1, 1, 0, 0, 0, 0) := by decide +kernel
theorem f279_1 : mFetch 279 1 = some (.istore_n 2, 1, 0, 0, 0, 0) := by decide +kernel
theorem f279_2 : mFetch 279 2 = some (.iconst 0, 1, 0, 0, 0, 0) := by decide +kernel
theorem f279_3 : mFetch 279 3 = some (.istore_n 3, 1, 0, 0, 0, 0) := by decide +kernel
theorem f279_4 : mFetch 279 4 = some (.iconst 0, 1, 0, 0, 0, 0) := by decide +kernel
theorem f279_5 : mFetch 279 5 = some (.istore 4, 2, 0, 0, 0, 0) := by decide +kernel
theorem f279_7 : mFetch 279 7 = some (.iload 4, 2, 0, 0, 0, 0) := by decide +kernel
theorem f279_9 : mFetch 279 9 = some (.aload_n 0, 1, 0, 0, 0, 0) := by decide +kernel
theorem f279_10 : mFetch 279 10 = some (.getfield 488, 3, 12, 47, 0, 1) := by decide +kernel
theorem f279_13 : mFetch 279 13 = some (.if_icmp .ge 97, 3, 110, 0, 0, 0) := by decide +kernel
theorem f279_16 : mFetch 279 16 = some (.aload_n 0, 1, 0, 0, 0, 0) := by decide +kernel
theorem f279_17 : mFetch 279 17 = some (.getfield 488, 3, 12, 47, 0, 1) := by decide +kernel
theorem f279_20 : mFetch 279 20 = some (.iconst 1, 1, 0, 0, 0, 0) := by decide +kernel
theorem f279_21 : mFetch 279 21 = some (.isub, 1, 0, 0, 0, 0) := by decide +kernel
theorem f279_22 : mFetch 279 22 = some (.iload 4, 2, 0, 0, 0, 0) := by decide +kernel
theorem f279_24 : mFetch 279 24 = some (.isub, 1, 0, 0, 0, 0) := by decide +kernel
theorem f279_25 : mFetch 279 25 = some (.invokestatic 365, 3, 233, 0, 1, 99) := by decide +kernel
theorem f279_28 : mFetch 279 28 = some (.istore 5, 2, 0, 0, 0, 0) := by decide +kernel
theorem f279_30 : mFetch 279 30 = some (.iload_n 2, 1, 0, 0, 0, 0) := by decide +kernel
theorem f279_31 : mFetch 279 31 = some (.iload 5, 2, 0, 0, 0, 0) := by decide +kernel
theorem f279_33 : mFetch 279 33 = some (.idiv, 1, 0, 0, 0, 0) := by decide +kernel
theorem f279_34 : mFetch 279 34 = some (.istore 6, 2, 0, 0, 0, 0) := by decide +kernel
theorem f279_36 : mFetch 279 36 = some (.iconst 0, 1, 0, 0, 0, 0) := by decide +kernel
theorem f279_37 : mFetch 279 37 = some (.istore 7, 2, 0, 0, 0, 0) := by decide +kernel
theorem f279_39 : mFetch 279 39 = some (.iload_n 3, 1, 0, 0, 0, 0) := by decide +kernel
theorem f279_40 : mFetch 279 40 = some (.iload 7, 2, 0, 0, 0, 0) := by decide +kernel
theorem f279_42 : mFetch 279 42 = some (.invokestatic 318, 3, 168, 0, 2, 99) := by decide +kernel
theorem f279_45 : mFetch 279 45 = some (.ifCond .ne 8, 3, 53, 0, 0, 0) := by decide +kernel
theorem f279_48 : mFetch 279 48 = some (.iload 6, 2, 0, 0, 0, 0) := by decide +kernel
theorem f279_50 : mFetch 279 50 = some (.ifCond .le 28, 3, 78, 0, 0, 0) := by decide +kernel
theorem f279_53 : mFetch 279 53 = some (.iload 6, 2, 0, 0, 0, 0) := by decide +kernel
theorem f279_55 : mFetch 279 55 = some (.iload_n 3, 1, 0, 0, 0, 0) := by decide +kernel
theorem f279_56 : mFetch 279 56 = some (.iload 7, 2, 0, 0, 0, 0) := by decide +kernel
theorem f279_58 : mFetch 279 58 = some (.invokestatic 318, 3, 168, 0, 2, 99) := by decide +kernel
theorem f279_61 : mFetch 279 61 = some (.ifCond .eq 7, 3, 68, 0, 0, 0) := by decide +kernel
theorem f279_64 : mFetch 279 64 = some (.iconst 0, 1, 0, 0, 0, 0) := by decide +kernel
theorem f279_65 : mFetch 279 65 = some (.goto 4, 3, 69, 0, 0, 0) := by decide +kernel
theorem f279_68 : mFetch 279 68 = some (.iconst 1, 1, 0, 0, 0, 0) := by decide +kernel
theorem f279_69 : mFetch 279 69 = some (.isub, 1, 0, 0, 0, 0) := by decide +kernel
theorem f279_70 : mFetch 279 70 = some (.istore 6, 2, 0, 0, 0, 0) := by decide +kernel
theorem f279_72 : mFetch 279 72 = some (.iinc 7 1, 3, 0, 0, 0, 0) := by decide +kernel
theorem f279_75 : mFetch 279 75 = some (.goto (-36), 3, 39, 0, 0, 0) := by decide +kernel
theorem f279_78 : mFetch 279 78 = some (.aload_n 0, 1, 0, 0, 0, 0) := by decide +kernel
theorem f279_79 : mFetch 279 79 = some (.getfield 85, 3, 12, 45, 2, 1) := by decide +kernel
theorem f279_82 : mFetch 279 82 = some (.iload 4, 2, 0, 0, 0, 0) := by decide +kernel
theorem f279_84 : mFetch 279 84 = some (.aload_n 0, 1, 0, 0, 0, 0) := by decide +kernel
theorem f279_85 : mFetch 279 85 = some (.getfield 82, 3, 12, 44, 2, 1) := by decide +kernel
theorem f279_88 : mFetch 279 88 = some (.iload 7, 2, 0, 0, 0, 0) := by decide +kernel
theorem f279_90 : mFetch 279 90 = some (.iaload, 1, 0, 0, 0, 0) := by decide +kernel
theorem f279_91 : mFetch 279 91 = some (.iastore, 1, 0, 0, 0, 0) := by decide +kernel
theorem f279_92 : mFetch 279 92 = some (.iload_n 3, 1, 0, 0, 0, 0) := by decide +kernel
theorem f279_93 : mFetch 279 93 = some (.iconst 1, 1, 0, 0, 0, 0) := by decide +kernel
theorem f279_94 : mFetch 279 94 = some (.iload 7, 2, 0, 0, 0, 0) := by decide +kernel
theorem f279_96 : mFetch 279 96 = some (.ishl, 1, 0, 0, 0, 0) := by decide +kernel
theorem f279_97 : mFetch 279 97 = some (.ior, 1, 0, 0, 0, 0) := by decide +kernel
theorem f279_98 : mFetch 279 98 = some (.istore_n 3, 1, 0, 0, 0, 0) := by decide +kernel
theorem f279_99 : mFetch 279 99 = some (.iload_n 2, 1, 0, 0, 0, 0) := by decide +kernel
theorem f279_100 : mFetch 279 100 = some (.iload 5, 2, 0, 0, 0, 0) := by decide +kernel
theorem f279_102 : mFetch 279 102 = some (.irem, 1, 0, 0, 0, 0) := by decide +kernel
theorem f279_103 : mFetch 279 103 = some (.istore_n 2, 1, 0, 0, 0, 0) := by decide +kernel
theorem f279_104 : mFetch 279 104 = some (.iinc 4 1, 3, 0, 0, 0, 0) := by decide +kernel
theorem f279_107 : mFetch 279 107 = some (.goto (-100), 3, 7, 0, 0, 0) := by decide +kernel
theorem f279_110 : mFetch 279 110 = some (.return_, 1, 0, 0, 0, 0) := by decide +kernel
theorem b279_0 {X : (Nat → Int) × Nat} {d : Nat} {s : mSt} {Q : mQ} {x1 : Int} {l2 : Option mV} {l3 : Option mV} {l4 : Option mV} {l5 : Option mV} {l6 : Option mV} {l7 : Option mV} (h_1 : Wp X d 279 7 [some (mR 407), some (mI x1), some (mI x1), some (mI 0), some (mI 0), l5, l6, l7] [] s Q) : Wp X d 279 0 [some (mR 407), some (mI x1), l2, l3, l4, l5, l6, l7] [] s Q := Wp_step k279 f279_0 (Wp_step k279 f279_1 (Wp_step k279 f279_2 (Wp_step k279 f279_3 (Wp_step k279 f279_4 (Wp_step k279 f279_5 (h_1))))))
theorem b279_7 {X : (Nat → Int) × Nat} {d : Nat} {s : mSt} {Q : mQ} {x1 : Int} {x2 : Int} {x3 : Int} {x4 : Int} {l5 : Option mV} {l6 : Option mV} {l7 : Option mV} (h_1 : (s 407 47) ≤ x4 → Wp X d 279 110 [some (mR 407), some (mI x1), some (mI x2), some (mI x3), some (mI x4), l5, l6, l7] [] s Q) (h_2 : ¬ (s 407 47) ≤ x4 → Wp X d 279 16 [some (mR 407), some (mI x1), some (mI x2), some (mI x3), some (mI x4), l5, l6, l7] [] s Q) : Wp X d 279 7 [some (mR 407), some (mI x1), some (mI x2), some (mI x3), some (mI x4), l5, l6, l7] [] s Q := Wp_step k279 f279_7 (Wp_step k279 f279_9 (Wp_step k279 f279_10 ⟨kf_407, Wp_step k279 f279_13 ⟨h_1, h_2⟩⟩))
theorem b279_16 {X : (Nat → Int) × Nat} {d : Nat} {s : mSt} {Q : mQ} {x1 : Int} {x2 : Int} {x3 : Int} {x4 : Int} {l5 : Option mV} {l6 : Option mV} {l7 : Option mV} (h_1 : Sp X d 233 [mI (w32 ((w32 ((s 407 47) - 1)) - x4))] s (fun r s' => ∃ v : Int, r = some (mI v) ∧ Wp X (d + 1) 279 28 [some (mR 407), some (mI x1), some (mI x2), some (mI x3), some (mI x4), l5, l6, l7] [mI v] s' Q)) : Wp X (d + 1) 279 16 [some (mR 407), some (mI x1), some (mI x2), some (mI x3), some (mI x4), l5, l6, l7] [] s Q := Wp_step k279 f279_16 (Wp_step k279 f279_17 ⟨kf_407, Wp_step k279 f279_20 (Wp_step k279 f279_21 (Wp_step k279 f279_22 (Wp_step k279 f279_24 (Wp_step k279 f279_25 ⟨⟨Nat.le_of_ble_eq_true rfl, Nat.le_refl _⟩, _, rfl, Sp_E h_1⟩))))⟩)
theorem b279_28 {X : (Nat → Int) × Nat} {d : Nat} {s : mSt} {Q : mQ} {x1 : Int} {x2 : Int} {x3 : Int} {x4 : Int} {l5 : Option mV} {l6 : Option mV} {l7 : Option mV} {xt0 : Int} (h_1 : xt0 ≠ 0) (h_2 : Wp X d 279 39 [some (mR 407), some (mI x1), some (mI x2), some (mI x3), some (mI x4), some (mI xt0), some (mI (w32 (Int.tdiv x2 xt0))), some (mI 0)] [] s Q) : Wp X d 279 28 [some (mR 407), some (mI x1), some (mI x2), some (mI x3), some (mI x4), l5, l6, l7] [mI xt0] s Q := Wp_step k279 f279_28 (Wp_step k279 f279_30 (Wp_step k279 f279_31 (Wp_step k279 f279_33 ⟨h_1, Wp_step k279 f279_34 (Wp_step k279 f279_36 (Wp_step k279 f279_37 (h_2)))⟩)))
theorem b279_39 {X : (Nat → Int) × Nat} {d : Nat} {s : mSt} {Q : mQ} {x1 : Int} {x2 : Int} {x3 : Int} {x4 : Int} {x5 : Int} {x6 : Int} {x7 : Int} (h_1 : Sp X d 168 [mI x3, mI x7] s (fun r s' => ∃ v : Int, r = some (mI v) ∧ Wp X (d + 1) 279 45 [some (mR 407), some (mI x1), some (mI x2), some (mI x3), some (mI x4), some (mI x5), some (mI x6), some (mI x7)] [mI v] s' Q)) : Wp X (d + 1) 279 39 [some (mR 407), some (mI x1), some (mI x2), some (mI x3), some (mI x4), some (mI x5), some (mI x6), some (mI x7)] [] s Q := Wp_step k279 f279_39 (Wp_step k279 f279_40 (Wp_step k279 f279_42 ⟨⟨Nat.le_of_ble_eq_true rfl, Nat.le_refl _⟩, _, rfl, Sp_E h_1⟩))
theorem b279_45 {X : (Nat → Int) × Nat} {d : Nat} {s : mSt} {Q : mQ} {x1 : Int} {x2 : Int} {x3 : Int} {x4 : Int} {x5 : Int} {x6 : Int} {x7 : Int} {xt0 : Int} (h_1 : ¬ xt0 = 0 → Wp X d 279 53 [some (mR 407), some (mI x1), some (mI x2), some (mI x3), some (mI x4), some (mI x5), some (mI x6), some (mI x7)] [] s Q) (h_2 : xt0 = 0 → Wp X d 279 48 [some (mR 407), some (mI x1), some (mI x2), some (mI x3), some (mI x4), some (mI x5), some (mI x6), some (mI x7)] [] s Q) : Wp X d 279 45 [some (mR 407), some (mI x1), some (mI x2), some (mI x3), some (mI x4), some (mI x5), some (mI x6), some (mI x7)] [mI xt0] s Q := Wp_step k279 f279_45 ⟨h_1, h_2⟩
theorem b279_48 {X : (Nat → Int) × Nat} {d : Nat} {s : mSt} {Q : mQ} {x1 : Int} {x2 : Int} {x3 : Int} {x4 : Int} {x5 : Int} {x6 : Int} {x7 : Int} (h_1 : x6 ≤ 0 → Wp X d 279 78 [some (mR 407), some (mI x1), some (mI x2), some (mI x3), some (mI x4), some (mI x5), some (mI x6), some (mI x7)] [] s Q) (h_2 : ¬ x6 ≤ 0 → Wp X d 279 53 [some (mR 407), some (mI x1), some (mI x2), some (mI x3), some (mI x4), some (mI x5), some (mI x6), some (mI x7)] [] s Q) : Wp X d 279 48 [some (mR 407), some (mI x1), some (mI x2), some (mI x3), some (mI x4), some (mI x5), some (mI x6), some (mI x7)] [] s Q := Wp_step k279 f279_48 (Wp_step k279 f279_50 ⟨h_1, h_2⟩)
theorem b279_53 {X : (Nat → Int) × Nat} {d : Nat} {s : mSt} {Q : mQ} {x1 : Int} {x2 : Int} {x3 : Int} {x4 : Int} {x5 : Int} {x6 : Int} {x7 : Int} (h_1 : Sp X d 168 [mI x3, mI x7] s (fun r s' => ∃ v : Int, r = some (mI v) ∧ Wp X (d + 1) 279 61 [some (mR 407), some (mI x1), some (mI x2), some (mI x3), some (mI x4), some (mI x5), some (mI x6), some (mI x7)] [mI v, mI x6] s' Q)) : Wp X (d + 1) 279 53 [some (mR 407), some (mI x1), some (mI x2), some (mI x3), some (mI x4), some (mI x5), some (mI x6), some (mI x7)] [] s Q := Wp_step k279 f279_53 (Wp_step k279 f279_55 (Wp_step k279 f279_56 (Wp_step k279 f279_58 ⟨⟨Nat.le_of_ble_eq_true rfl, Nat.le_refl _⟩, _, rfl, Sp_E h_1⟩)))
theorem b279_61 {X : (Nat → Int) × Nat} {d : Nat} {s : mSt} {Q : mQ} {x1 : Int} {x2 : Int} {x3 : Int} {x4 : Int} {x5 : Int} {x6 : Int} {x7 : Int} {xt0 : Int} {xt1 : Int} (h_1 : xt1 = 0 → Wp X d 279 68 [some (mR 407), some (mI x1), some (mI x2), some (mI x3), some (mI x4), some (mI x5), some (mI x6), some (mI x7)] [mI xt0] s Q) (h_2 : ¬ xt1 = 0 → Wp X d 279 64 [some (mR 407), some (mI x1), some (mI x2), some (mI x3), some (mI x4), some (mI x5), some (mI x6), some (mI x7)] [mI xt0] s Q) : Wp X d 279 61 [some (mR 407), some (mI x1), some (mI x2), some (mI x3), some (mI x4), some (mI x5), some (mI x6), some (mI x7)] [mI xt1, mI xt0] s Q := Wp_step k279 f279_61 ⟨h_1, h_2⟩
theorem b279_64 {X : (Nat → Int) × Nat} {d : Nat} {s : mSt} {Q : mQ} {x1 : Int} {x2 : Int} {x3 : Int} {x4 : Int} {x5 : Int} {x6 : Int} {x7 : Int} {xt0 : Int} (h_1 : Wp X d 279 69 [some (mR 407), some (mI x1), some (mI x2), some (mI x3), some (mI x4), some (mI x5), some (mI x6), some (mI x7)] [mI 0, mI xt0] s Q) : Wp X d 279 64 [some (mR 407), some (mI x1), some (mI x2), some (mI x3), some (mI x4), some (mI x5), some (mI x6), some (mI x7)] [mI xt0] s Q := Wp_step k279 f279_64 (Wp_step k279 f279_65 (h_1))
theorem b279_68 {X : (Nat → Int) × Nat} {d : Nat} {s : mSt} {Q : mQ} {x1 : Int} {x2 : Int} {x3 : Int} {x4 : Int} {x5 : Int} {x6 : Int} {x7 : Int} {xt0 : Int} (h_1 : Wp X d 279 69 [some (mR 407), some (mI x1), some (mI x2), some (mI x3), some (mI x4), some (mI x5), some (mI x6), some (mI x7)] [mI 1, mI xt0] s Q) : Wp X d 279 68 [some (mR 407), some (mI x1), some (mI x2), some (mI x3), some (mI x4), some (mI x5), some (mI x6), some (mI x7)] [mI xt0] s Q := Wp_step k279 f279_68 (h_1)
theorem b279_69 {X : (Nat → Int) × Nat} {d : Nat} {s : mSt} {Q : mQ} {x1 : Int} {x2 : Int} {x3 : Int} {x4 : Int} {x5 : Int} {x6 : Int} {x7 : Int} {xt0 : Int} {xt1 : Int} (h_1 : Wp X d 279 39 [some (mR 407), some (mI x1), some (mI x2), some (mI x3), some (mI x4), some (mI x5), some (mI (w32 (xt0 - xt1))), some (mI (w32 (x7 + 1)))] [] s Q) : Wp X d 279 69 [some (mR 407), some (mI x1), some (mI x2), some (mI x3), some (mI x4), some (mI x5), some (mI x6), some (mI x7)] [mI xt1, mI xt0] s Q := Wp_step k279 f279_69 (Wp_step k279 f279_70 (Wp_step k279 f279_72 (Wp_step k279 f279_75 (h_1))))
theorem b279_78 {X : (Nat → Int) × Nat} {d : Nat} {s : mSt} {Q : mQ} {x1 : Int} {x2 : Int} {x3 : Int} {x4 : Int} {x5 : Int} {x6 : Int} {x7 : Int} (h_1 : 0 ≤ x7 ∧ x7 < 4) (h_2 : 0 ≤ x4 ∧ x4 < 4) (h_3 : x5 ≠ 0) (h_4 : Wp X d 279 7 [some (mR 407), some (mI x1), some (mI (Int.tmod x2 x5)), some (mI (iOr x3 (iShl 1 x7))), some (mI (w32 (x4 + 1))), some (mI x5), some (mI x6), some (mI x7)] [] (uS s 431 x4.toNat (s 430 x7.toNat)) Q) : Wp X d 279 78 [some (mR 407), some (mI x1), some (mI x2), some (mI x3), some (mI x4), some (mI x5), some (mI x6), some (mI x7)] [] s Q := Wp_step k279 f279_78 (Wp_step k279 f279_79 ⟨kf_407, 431, rf_407_45, Wp_step k279 f279_82 (Wp_step k279 f279_84 (Wp_step k279 f279_85 ⟨kf_407, 430, rf_407_44, Wp_step k279 f279_88 (Wp_step k279 f279_90 ⟨4, af_430, h_1, Wp_step k279 f279_91 ⟨4, af_431, h_2, Wp_step k279 f279_92 (Wp_step k279 f279_93 (Wp_step k279 f279_94 (Wp_step k279 f279_96 (Wp_step k279 f279_97 (Wp_step k279 f279_98 (Wp_step k279 f279_99 (Wp_step k279 f279_100 (Wp_step k279 f279_102 ⟨h_3, Wp_step k279 f279_103 (Wp_step k279 f279_104 (Wp_step k279 f279_107 (h_4)))⟩))))))))⟩⟩)⟩))⟩)
theorem b279_110 {X : (Nat → Int) × Nat} {d : Nat} {s : mSt} {Q : mQ} {x1 : Int} {x2 : Int} {x3 : Int} {x4 : Int} {l5 : Option mV} {l6 : Option mV} {l7 : Option mV} (h_1 : Q none s) : Wp X d 279 110 [some (mR 407), some (mI x1), some (mI x2), some (mI x3), some (mI x4), l5, l6, l7] [] s Q := Wp_step k279 f279_110 ⟨⟨rfl, Or.inl rfl⟩, h_1⟩
theorem e279 {X : (Nat → Int) × Nat} {d : Nat} {s : mSt} {Q : mQ} {x1 : Int} (h : Wp X d 279 0 [some (mR 407), some (mI x1), none, none, none, none, none, none] [] s Q) : Sp X d 279 [mR 407, mI x1] s Q := Sp_of (show mCe 279 = 0 by decide +kernel) (by rw [show mML 279 = 8 by decide +kernel]; rfl) (Nat.le_trans (Nat.le_of_ble_eq_true (show Nat.ble (mArgs _).length 8 = true from rfl)) (show 8 ≤ mML 279 by decide +kernel)) h
-- 280 ClashDayModel.triesRow()V
theorem k280 : mRk 280 = 0 := by decide +kernel
theorem f280_0 : mFetch 280 0 = some (.iconst 0, 1, 0, 0, 0, 0) := by decide +kernel
theorem f280_1 : mFetch 280 1 = some (.istore_n 1, 1, 0, 0, 0, 0) := by decide +kernel
theorem f280_2 : mFetch 280 2 = some (.iconst 0, 1, 0, 0, 0, 0) := by decide +kernel
theorem f280_3 : mFetch 280 3 = some (.istore_n 2, 1, 0, 0, 0, 0) := by decide +kernel
theorem f280_4 : mFetch 280 4 = some (.iconst 0, 1, 0, 0, 0, 0) := by decide +kernel
theorem f280_5 : mFetch 280 5 = some (.istore_n 3, 1, 0, 0, 0, 0) := by decide +kernel
theorem f280_6 : mFetch 280 6 = some (.iload_n 3, 1, 0, 0, 0, 0) := by decide +kernel
theorem f280_7 : mFetch 280 7 = some (.aload_n 0, 1, 0, 0, 0, 0) := by decide +kernel
theorem f280_8 : mFetch 280 8 = some (.getfield 488, 3, 12, 47, 0, 1) := by decide +kernel
theorem f280_11 : mFetch 280 11 = some (.if_icmp .ge 35, 3, 46, 0, 0, 0) := by decide +kernel
theorem f280_14 : mFetch 280 14 = some (.aload_n 0, 1, 0, 0, 0, 0) := by decide +kernel
theorem f280_15 : mFetch 280 15 = some (.aload_n 0, 1, 0, 0, 0, 0) := by decide +kernel
theorem f280_16 : mFetch 280 16 = some (.getfield 85, 3, 12, 45, 2, 1) := by decide +kernel
theorem f280_19 : mFetch 280 19 = some (.iload_n 3, 1, 0, 0, 0, 0) := by decide +kernel
theorem f280_20 : mFetch 280 20 = some (.iaload, 1, 0, 0, 0, 0) := by decide +kernel
theorem f280_21 : mFetch 280 21 = some (.invokevirtual 449, 3, 245, 0, 2, 12) := by decide +kernel
theorem f280_24 : mFetch 280 24 = some (.ifCond .ne 6, 3, 30, 0, 0, 0) := by decide +kernel
theorem f280_27 : mFetch 280 27 = some (.goto 13, 3, 40, 0, 0, 0) := by decide +kernel
theorem f280_30 : mFetch 280 30 = some (.iinc 1 1, 3, 0, 0, 0, 0) := by decide +kernel
theorem f280_33 : mFetch 280 33 = some (.iload_n 2, 1, 0, 0, 0, 0) := by decide +kernel
theorem f280_34 : mFetch 280 34 = some (.aload_n 0, 1, 0, 0, 0, 0) := by decide +kernel
theorem f280_35 : mFetch 280 35 = some (.getfield 399, 3, 12, 30, 0, 1) := by decide +kernel
theorem f280_38 : mFetch 280 38 = some (.iadd, 1, 0, 0, 0, 0) := by decide +kernel
theorem f280_39 : mFetch 280 39 = some (.istore_n 2, 1, 0, 0, 0, 0) := by decide +kernel
theorem f280_40 : mFetch 280 40 = some (.iinc 3 1, 3, 0, 0, 0, 0) := by decide +kernel
theorem f280_43 : mFetch 280 43 = some (.goto (-37), 3, 6, 0, 0, 0) := by decide +kernel
theorem f280_46 : mFetch 280 46 = some (.aload_n 0, 1, 0, 0, 0, 0) := by decide +kernel
theorem f280_47 : mFetch 280 47 = some (.invokevirtual 491, 3, 278, 0, 1, 12) := by decide +kernel
theorem f280_50 : mFetch 280 50 = some (.iload_n 1, 1, 0, 0, 0, 0) := by decide +kernel
theorem f280_51 : mFetch 280 51 = some (.aload_n 0, 1, 0, 0, 0, 0) := by decide +kernel
theorem f280_52 : mFetch 280 52 = some (.getfield 494, 3, 12, 48, 0, 1) := by decide +kernel
theorem f280_55 : mFetch 280 55 = some (.if_icmp .lt 19, 3, 74, 0, 0, 0) := by decide +kernel
theorem f280_58 : mFetch 280 58 = some (.iload_n 1, 1, 0, 0, 0, 0) := by decide +kernel
theorem f280_59 : mFetch 280 59 = some (.aload_n 0, 1, 0, 0, 0, 0) := by decide +kernel
theorem f280_60 : mFetch 280 60 = some (.getfield 494, 3, 12, 48, 0, 1) := by decide +kernel
theorem f280_63 : mFetch 280 63 = some (.if_icmp .ne 12, 3, 75, 0, 0, 0) := by decide +kernel
theorem f280_66 : mFetch 280 66 = some (.iload_n 2, 1, 0, 0, 0, 0) := by decide +kernel
theorem f280_67 : mFetch 280 67 = some (.aload_n 0, 1, 0, 0, 0, 0) := by decide +kernel
theorem f280_68 : mFetch 280 68 = some (.getfield 497, 3, 12, 49, 0, 1) := by decide +kernel
theorem f280_71 : mFetch 280 71 = some (.if_icmp .lt 4, 3, 75, 0, 0, 0) := by decide +kernel
theorem f280_74 : mFetch 280 74 = some (.return_, 1, 0, 0, 0, 0) := by decide +kernel
theorem f280_75 : mFetch 280 75 = some (.aload_n 0, 1, 0, 0, 0, 0) := by decide +kernel
theorem f280_76 : mFetch 280 76 = some (.iload_n 1, 1, 0, 0, 0, 0) := by decide +kernel
theorem f280_77 : mFetch 280 77 = some (.putfield 494, 3, 12, 48, 0, 1) := by decide +kernel
theorem f280_80 : mFetch 280 80 = some (.aload_n 0, 1, 0, 0, 0, 0) := by decide +kernel
theorem f280_81 : mFetch 280 81 = some (.iload_n 2, 1, 0, 0, 0, 0) := by decide +kernel
theorem f280_82 : mFetch 280 82 = some (.putfield 497, 3, 12, 49, 0, 1) := by decide +kernel
theorem f280_85 : mFetch 280 85 = some (.iconst 0, 1, 0, 0, 0, 0) := by decide +kernel
theorem f280_86 : mFetch 280 86 = some (.istore_n 3, 1, 0, 0, 0, 0) := by decide +kernel
theorem f280_87 : mFetch 280 87 = some (.iload_n 3, 1, 0, 0, 0, 0) := by decide +kernel
theorem f280_88 : mFetch 280 88 = some (.aload_n 0, 1, 0, 0, 0, 0) := by decide +kernel
theorem f280_89 : mFetch 280 89 = some (.getfield 488, 3, 12, 47, 0, 1) := by decide +kernel
theorem f280_92 : mFetch 280 92 = some (.if_icmp .ge 21, 3, 113, 0, 0, 0) := by decide +kernel
theorem f280_95 : mFetch 280 95 = some (.aload_n 0, 1, 0, 0, 0, 0) := by decide +kernel
theorem f280_96 : mFetch 280 96 = some (.getfield 88, 3, 12, 46, 2, 1) := by decide +kernel
theorem f280_99 : mFetch 280 99 = some (.iload_n 3, 1, 0, 0, 0, 0) := by decide +kernel
theorem f280_100 : mFetch 280 100 = some (.aload_n 0, 1, 0, 0, 0, 0) := by decide +kernel
theorem f280_101 : mFetch 280 101 = some (.getfield 85, 3, 12, 45, 2, 1) := by decide +kernel
theorem f280_104 : mFetch 280 104 = some (.iload_n 3, 1, 0, 0, 0, 0) := by decide +kernel
theorem f280_105 : mFetch 280 105 = some (.iaload, 1, 0, 0, 0, 0) := by decide +kernel
theorem f280_106 : mFetch 280 106 = some (.iastore, 1, 0, 0, 0, 0) := by decide +kernel
theorem f280_107 : mFetch 280 107 = some (.iinc 3 1, 3, 0, 0, 0, 0) := by decide +kernel
theorem f280_110 : mFetch 280 110 = some (.goto (-23), 3, 87, 0, 0, 0) := by decide +kernel
theorem f280_113 : mFetch 280 113 = some (.return_, 1, 0, 0, 0, 0) := by decide +kernel
theorem b280_0 {X : (Nat → Int) × Nat} {d : Nat} {s : mSt} {Q : mQ} {l1 : Option mV} {l2 : Option mV} {l3 : Option mV} (h_1 : Wp X d 280 6 [some (mR 407), some (mI 0), some (mI 0), some (mI 0)] [] s Q) : Wp X d 280 0 [some (mR 407), l1, l2, l3] [] s Q := Wp_step k280 f280_0 (Wp_step k280 f280_1 (Wp_step k280 f280_2 (Wp_step k280 f280_3 (Wp_step k280 f280_4 (Wp_step k280 f280_5 (h_1))))))
theorem b280_6 {X : (Nat → Int) × Nat} {d : Nat} {s : mSt} {Q : mQ} {x1 : Int} {x2 : Int} {x3 : Int} (h_1 : (s 407 47) ≤ x3 → Wp X d 280 46 [some (mR 407), some (mI x1), some (mI x2), some (mI x3)] [] s Q) (h_2 : ¬ (s 407 47) ≤ x3 → Wp X d 280 14 [some (mR 407), some (mI x1), some (mI x2), some (mI x3)] [] s Q) : Wp X d 280 6 [some (mR 407), some (mI x1), some (mI x2), some (mI x3)] [] s Q := Wp_step k280 f280_6 (Wp_step k280 f280_7 (Wp_step k280 f280_8 ⟨kf_407, Wp_step k280 f280_11 ⟨h_1, h_2⟩⟩))
theorem b280_14 {X : (Nat → Int) × Nat} {d : Nat} {s : mSt} {Q : mQ} {x1 : Int} {x2 : Int} {x3 : Int} (h_1 : 0 ≤ x3 ∧ x3 < 4) (h_2 : Sp X d 245 [mR 407, mI (s 431 x3.toNat)] s (fun r s' => ∃ v : Int, r = some (mI v) ∧ Wp X (d + 1) 280 24 [some (mR 407), some (mI x1), some (mI x2), some (mI x3)] [mI v] s' Q)) : Wp X (d + 1) 280 14 [some (mR 407), some (mI x1), some (mI x2), some (mI x3)] [] s Q := Wp_step k280 f280_14 (Wp_step k280 f280_15 (Wp_step k280 f280_16 ⟨kf_407, 431, rf_407_45, Wp_step k280 f280_19 (Wp_step k280 f280_20 ⟨4, af_431, h_1, Wp_step k280 f280_21 ⟨⟨kf_407, Nat.le_of_ble_eq_true rfl⟩, Nat.le_refl _, _, rfl, Sp_E h_2⟩⟩)⟩))
theorem b280_24 {X : (Nat → Int) × Nat} {d : Nat} {s : mSt} {Q : mQ} {x1 : Int} {x2 : Int} {x3 : Int} {xt0 : Int} (h_1 : ¬ xt0 = 0 → Wp X d 280 30 [some (mR 407), some (mI x1), some (mI x2), some (mI x3)] [] s Q) (h_2 : xt0 = 0 → Wp X d 280 27 [some (mR 407), some (mI x1), some (mI x2), some (mI x3)] [] s Q) : Wp X d 280 24 [some (mR 407), some (mI x1), some (mI x2), some (mI x3)] [mI xt0] s Q := Wp_step k280 f280_24 ⟨h_1, h_2⟩
theorem b280_27 {X : (Nat → Int) × Nat} {d : Nat} {s : mSt} {Q : mQ} {x1 : Int} {x2 : Int} {x3 : Int} (h_1 : Wp X d 280 40 [some (mR 407), some (mI x1), some (mI x2), some (mI x3)] [] s Q) : Wp X d 280 27 [some (mR 407), some (mI x1), some (mI x2), some (mI x3)] [] s Q := Wp_step k280 f280_27 (h_1)
theorem b280_30 {X : (Nat → Int) × Nat} {d : Nat} {s : mSt} {Q : mQ} {x1 : Int} {x2 : Int} {x3 : Int} (h_1 : Wp X d 280 40 [some (mR 407), some (mI (w32 (x1 + 1))), some (mI (w32 (x2 + (s 407 30)))), some (mI x3)] [] s Q) : Wp X d 280 30 [some (mR 407), some (mI x1), some (mI x2), some (mI x3)] [] s Q := Wp_step k280 f280_30 (Wp_step k280 f280_33 (Wp_step k280 f280_34 (Wp_step k280 f280_35 ⟨kf_407, Wp_step k280 f280_38 (Wp_step k280 f280_39 (h_1))⟩)))
theorem b280_40 {X : (Nat → Int) × Nat} {d : Nat} {s : mSt} {Q : mQ} {x1 : Int} {x2 : Int} {x3 : Int} (h_1 : Wp X d 280 6 [some (mR 407), some (mI x1), some (mI x2), some (mI (w32 (x3 + 1)))] [] s Q) : Wp X d 280 40 [some (mR 407), some (mI x1), some (mI x2), some (mI x3)] [] s Q := Wp_step k280 f280_40 (Wp_step k280 f280_43 (h_1))
theorem b280_46 {X : (Nat → Int) × Nat} {d : Nat} {s : mSt} {Q : mQ} {x1 : Int} {x2 : Int} {x3 : Int} (h_1 : Sp X d 278 [mR 407] s (fun r s' => r = none ∧ Wp X (d + 1) 280 50 [some (mR 407), some (mI x1), some (mI x2), some (mI x3)] [] s' Q)) : Wp X (d + 1) 280 46 [some (mR 407), some (mI x1), some (mI x2), some (mI x3)] [] s Q := Wp_step k280 f280_46 (Wp_step k280 f280_47 ⟨⟨kf_407, Nat.le_of_ble_eq_true rfl⟩, Nat.le_refl _, _, rfl, Sp_V h_1⟩)
theorem b280_50 {X : (Nat → Int) × Nat} {d : Nat} {s : mSt} {Q : mQ} {x1 : Int} {x2 : Int} {x3 : Int} (h_1 : x1 < (s 407 48) → Wp X d 280 74 [some (mR 407), some (mI x1), some (mI x2), some (mI x3)] [] s Q) (h_2 : ¬ x1 < (s 407 48) → Wp X d 280 58 [some (mR 407), some (mI x1), some (mI x2), some (mI x3)] [] s Q) : Wp X d 280 50 [some (mR 407), some (mI x1), some (mI x2), some (mI x3)] [] s Q := Wp_step k280 f280_50 (Wp_step k280 f280_51 (Wp_step k280 f280_52 ⟨kf_407, Wp_step k280 f280_55 ⟨h_1, h_2⟩⟩))
theorem b280_58 {X : (Nat → Int) × Nat} {d : Nat} {s : mSt} {Q : mQ} {x1 : Int} {x2 : Int} {x3 : Int} (h_1 : ¬ x1 = (s 407 48) → Wp X d 280 75 [some (mR 407), some (mI x1), some (mI x2), some (mI x3)] [] s Q) (h_2 : x1 = (s 407 48) → Wp X d 280 66 [some (mR 407), some (mI x1), some (mI x2), some (mI x3)] [] s Q) : Wp X d 280 58 [some (mR 407), some (mI x1), some (mI x2), some (mI x3)] [] s Q := Wp_step k280 f280_58 (Wp_step k280 f280_59 (Wp_step k280 f280_60 ⟨kf_407, Wp_step k280 f280_63 ⟨h_1, h_2⟩⟩))
theorem b280_66 {X : (Nat → Int) × Nat} {d : Nat} {s : mSt} {Q : mQ} {x1 : Int} {x2 : Int} {x3 : Int} (h_1 : x2 < (s 407 49) → Wp X d 280 75 [some (mR 407), some (mI x1), some (mI x2), some (mI x3)] [] s Q) (h_2 : ¬ x2 < (s 407 49) → Wp X d 280 74 [some (mR 407), some (mI x1), some (mI x2), some (mI x3)] [] s Q) : Wp X d 280 66 [some (mR 407), some (mI x1), some (mI x2), some (mI x3)] [] s Q := Wp_step k280 f280_66 (Wp_step k280 f280_67 (Wp_step k280 f280_68 ⟨kf_407, Wp_step k280 f280_71 ⟨h_1, h_2⟩⟩))
theorem b280_74 {X : (Nat → Int) × Nat} {d : Nat} {s : mSt} {Q : mQ} {x1 : Int} {x2 : Int} {x3 : Int} (h_1 : Q none s) : Wp X d 280 74 [some (mR 407), some (mI x1), some (mI x2), some (mI x3)] [] s Q := Wp_step k280 f280_74 ⟨⟨rfl, Or.inl rfl⟩, h_1⟩
theorem b280_75 {X : (Nat → Int) × Nat} {d : Nat} {s : mSt} {Q : mQ} {x1 : Int} {x2 : Int} {x3 : Int} (h_1 : Wp X d 280 87 [some (mR 407), some (mI x1), some (mI x2), some (mI 0)] [] (uS (uS s 407 48 x1) 407 49 x2) Q) : Wp X d 280 75 [some (mR 407), some (mI x1), some (mI x2), some (mI x3)] [] s Q := Wp_step k280 f280_75 (Wp_step k280 f280_76 (Wp_step k280 f280_77 ⟨kf_407, Wp_step k280 f280_80 (Wp_step k280 f280_81 (Wp_step k280 f280_82 ⟨kf_407, Wp_step k280 f280_85 (Wp_step k280 f280_86 (h_1))⟩))⟩))
theorem b280_87 {X : (Nat → Int) × Nat} {d : Nat} {s : mSt} {Q : mQ} {x1 : Int} {x2 : Int} {x3 : Int} (h_1 : (s 407 47) ≤ x3 → Wp X d 280 113 [some (mR 407), some (mI x1), some (mI x2), some (mI x3)] [] s Q) (h_2 : ¬ (s 407 47) ≤ x3 → Wp X d 280 95 [some (mR 407), some (mI x1), some (mI x2), some (mI x3)] [] s Q) : Wp X d 280 87 [some (mR 407), some (mI x1), some (mI x2), some (mI x3)] [] s Q := Wp_step k280 f280_87 (Wp_step k280 f280_88 (Wp_step k280 f280_89 ⟨kf_407, Wp_step k280 f280_92 ⟨h_1, h_2⟩⟩))
theorem b280_95 {X : (Nat → Int) × Nat} {d : Nat} {s : mSt} {Q : mQ} {x1 : Int} {x2 : Int} {x3 : Int} (h_1 : 0 ≤ x3 ∧ x3 < 4) (h_2 : 0 ≤ x3 ∧ x3 < 4) (h_3 : Wp X d 280 87 [some (mR 407), some (mI x1), some (mI x2), some (mI (w32 (x3 + 1)))] [] (uS s 432 x3.toNat (s 431 x3.toNat)) Q) : Wp X d 280 95 [some (mR 407), some (mI x1), some (mI x2), some (mI x3)] [] s Q := Wp_step k280 f280_95 (Wp_step k280 f280_96 ⟨kf_407, 432, rf_407_46, Wp_step k280 f280_99 (Wp_step k280 f280_100 (Wp_step k280 f280_101 ⟨kf_407, 431, rf_407_45, Wp_step k280 f280_104 (Wp_step k280 f280_105 ⟨4, af_431, h_1, Wp_step k280 f280_106 ⟨4, af_432, h_2, Wp_step k280 f280_107 (Wp_step k280 f280_110 (h_3))⟩⟩)⟩))⟩)
theorem b280_113 {X : (Nat → Int) × Nat} {d : Nat} {s : mSt} {Q : mQ} {x1 : Int} {x2 : Int} {x3 : Int} (h_1 : Q none s) : Wp X d 280 113 [some (mR 407), some (mI x1), some (mI x2), some (mI x3)] [] s Q := Wp_step k280 f280_113 ⟨⟨rfl, Or.inl rfl⟩, h_1⟩
theorem e280 {X : (Nat → Int) × Nat} {d : Nat} {s : mSt} {Q : mQ} (h : Wp X d 280 0 [some (mR 407), none, none, none] [] s Q) : Sp X d 280 [mR 407] s Q := Sp_of (show mCe 280 = 0 by decide +kernel) (by rw [show mML 280 = 4 by decide +kernel]; rfl) (Nat.le_trans (Nat.le_of_ble_eq_true (show Nat.ble (mArgs _).length 4 = true from rfl)) (show 4 ≤ mML 280 by decide +kernel)) h
