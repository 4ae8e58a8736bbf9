-- 258 ClashDayModel.delays(II)V
theorem k258 : mRk 258 = 0 := by decide +kernel
theorem f258_0 : mFetch 258 0 = some (.aload_n 0, 1, 0, 0, 0, 0) := by decide +kernel
theorem f258_1 : mFetch 258 1 = some (.getfield 39, 3, 12, 20, 2, 1) := by decide +kernel
theorem f258_4 : mFetch 258 4 = some (.bipush 6, 2, 0, 0, 0, 0) := by decide +kernel
theorem f258_6 : mFetch 258 6 = some (.iload_n 1, 1, 0, 0, 0, 0) := by decide +kernel
theorem f258_7 : mFetch 258 7 = some (.iadd, 1, 0, 0, 0, 0) := by decide +kernel
theorem f258_8 : mFetch 258 8 = some (.aload_n 0, 1, 0, 0, 0, 0) := by decide +kernel
theorem f258_9 : mFetch 258 9 = some (.getfield 39, 3, 12, 20, 2, 1) := by decide +kernel
theorem f258_12 : mFetch 258 12 = some (.bipush 6, 2, 0, 0, 0, 0) := by decide +kernel
theorem f258_14 : mFetch 258 14 = some (.iload_n 1, 1, 0, 0, 0, 0) := by decide +kernel
theorem f258_15 : mFetch 258 15 = some (.iadd, 1, 0, 0, 0, 0) := by decide +kernel
theorem f258_16 : mFetch 258 16 = some (.iaload, 1, 0, 0, 0, 0) := by decide +kernel
theorem f258_17 : mFetch 258 17 = some (.iload_n 2, 1, 0, 0, 0, 0) := by decide +kernel
theorem f258_18 : mFetch 258 18 = some (.iadd, 1, 0, 0, 0, 0) := by decide +kernel
theorem f258_19 : mFetch 258 19 = some (.bipush 15, 2, 0, 0, 0, 0) := by decide +kernel
theorem f258_21 : mFetch 258 21 = some (.if_icmp .ge 17, 3, 38, 0, 0, 0) := by decide +kernel
theorem f258_24 : mFetch 258 24 = some (.aload_n 0, 1, 0, 0, 0, 0) := by decide +kernel
theorem f258_25 : mFetch 258 25 = some (.getfield 39, 3, 12, 20, 2, 1) := by decide +kernel
theorem f258_28 : mFetch 258 28 = some (.bipush 6, 2, 0, 0, 0, 0) := by decide +kernel
theorem f258_30 : mFetch 258 30 = some (.iload_n 1, 1, 0, 0, 0, 0) := by decide +kernel
theorem f258_31 : mFetch 258 31 = some (.iadd, 1, 0, 0, 0, 0) := by decide +kernel
theorem f258_32 : mFetch 258 32 = some (.iaload, 1, 0, 0, 0, 0) := by decide +kernel
theorem f258_33 : mFetch 258 33 = some (.iload_n 2, 1, 0, 0, 0, 0) := by decide +kernel
theorem f258_34 : mFetch 258 34 = some (.iadd, 1, 0, 0, 0, 0) := by decide +kernel
theorem f258_35 : mFetch 258 35 = some (.goto 5, 3, 40, 0, 0, 0) := by decide +kernel
theorem f258_38 : mFetch 258 38 = some (.bipush 15, 2, 0, 0, 0, 0) := by decide +kernel
theorem f258_40 : mFetch 258 40 = some (.iastore, 1, 0, 0, 0, 0) := by decide +kernel
theorem f258_41 : mFetch 258 41 = some (.iconst 0, 1, 0, 0, 0, 0) := by decide +kernel
theorem f258_42 : mFetch 258 42 = some (.istore_n 3, 1, 0, 0, 0, 0) := by decide +kernel
theorem f258_43 : mFetch 258 43 = some (.iload_n 3, 1, 0, 0, 0, 0) := by decide +kernel
theorem f258_44 : mFetch 258 44 = some (.aload_n 0, 1, 0, 0, 0, 0) := by decide +kernel
theorem f258_45 : mFetch 258 45 = some (.getfield 39, 3, 12, 20, 2, 1) := by decide +kernel
theorem f258_48 : mFetch 258 48 = some (.iconst 4, 1, 0, 0, 0, 0) := by decide +kernel
theorem f258_49 : mFetch 258 49 = some (.iaload, 1, 0, 0, 0, 0) := by decide +kernel
theorem f258_50 : mFetch 258 50 = some (.if_icmp .ge 23, 3, 73, 0, 0, 0) := by decide +kernel
theorem f258_53 : mFetch 258 53 = some (.aload_n 0, 1, 0, 0, 0, 0) := by decide +kernel
theorem f258_54 : mFetch 258 54 = some (.iload_n 3, 1, 0, 0, 0, 0) := by decide +kernel
theorem f258_55 : mFetch 258 55 = some (.iload_n 1, 1, 0, 0, 0, 0) := by decide +kernel
theorem f258_56 : mFetch 258 56 = some (.invokevirtual 321, 3, 217, 0, 3, 12) := by decide +kernel
theorem f258_59 : mFetch 258 59 = some (.ifCond .eq 8, 3, 67, 0, 0, 0) := by decide +kernel
theorem f258_62 : mFetch 258 62 = some (.aload_n 0, 1, 0, 0, 0, 0) := by decide +kernel
theorem f258_63 : mFetch 258 63 = some (.iload_n 3, 1, 0, 0, 0, 0) := by decide +kernel
theorem f258_64 : mFetch 258 64 = some (.invokevirtual 458, 3, 246, 0, 2, 12) := by decide +kernel
theorem f258_67 : mFetch 258 67 = some (.iinc 3 1, 3, 0, 0, 0, 0) := by decide +kernel
theorem f258_70 : mFetch 258 70 = some (.goto (-27), 3, 43, 0, 0, 0) := by decide +kernel
theorem f258_73 : mFetch 258 73 = some (.return_, 1, 0, 0, 0, 0) := by decide +kernel
theorem b258_0 {X : (Nat → Int) × Nat} {d : Nat} {s : mSt} {Q : mQ} {x1 : Int} {x2 : Int} {l3 : Option mV} (h_1 : 0 ≤ (w32 (6 + x1)) ∧ (w32 (6 + x1)) < 166) (h_2 : 15 ≤ (w32 ((s 417 (w32 (6 + x1)).toNat) + x2)) → Wp X d 258 38 [some (mR 407), some (mI x1), some (mI x2), l3] [mI (w32 (6 + x1)), mR 417] s Q) (h_3 : ¬ 15 ≤ (w32 ((s 417 (w32 (6 + x1)).toNat) + x2)) → Wp X d 258 24 [some (mR 407), some (mI x1), some (mI x2), l3] [mI (w32 (6 + x1)), mR 417] s Q) : Wp X d 258 0 [some (mR 407), some (mI x1), some (mI x2), l3] [] s Q := Wp_step k258 f258_0 (Wp_step k258 f258_1 ⟨kf_407, 417, rf_407_20, Wp_step k258 f258_4 (Wp_step k258 f258_6 (Wp_step k258 f258_7 (Wp_step k258 f258_8 (Wp_step k258 f258_9 ⟨kf_407, 417, rf_407_20, Wp_step k258 f258_12 (Wp_step k258 f258_14 (Wp_step k258 f258_15 (Wp_step k258 f258_16 ⟨166, af_417, h_1, Wp_step k258 f258_17 (Wp_step k258 f258_18 (Wp_step k258 f258_19 (Wp_step k258 f258_21 ⟨h_2, h_3⟩)))⟩)))⟩))))⟩)
theorem b258_24 {X : (Nat → Int) × Nat} {d : Nat} {s : mSt} {Q : mQ} {x1 : Int} {x2 : Int} {l3 : Option mV} {xt1 : Int} (h_1 : 0 ≤ (w32 (6 + x1)) ∧ (w32 (6 + x1)) < 166) (h_2 : Wp X d 258 40 [some (mR 407), some (mI x1), some (mI x2), l3] [mI (w32 ((s 417 (w32 (6 + x1)).toNat) + x2)), mI xt1, mR 417] s Q) : Wp X d 258 24 [some (mR 407), some (mI x1), some (mI x2), l3] [mI xt1, mR 417] s Q := Wp_step k258 f258_24 (Wp_step k258 f258_25 ⟨kf_407, 417, rf_407_20, Wp_step k258 f258_28 (Wp_step k258 f258_30 (Wp_step k258 f258_31 (Wp_step k258 f258_32 ⟨166, af_417, h_1, Wp_step k258 f258_33 (Wp_step k258 f258_34 (Wp_step k258 f258_35 (h_2)))⟩)))⟩)
theorem b258_38 {X : (Nat → Int) × Nat} {d : Nat} {s : mSt} {Q : mQ} {x1 : Int} {x2 : Int} {l3 : Option mV} {xt1 : Int} (h_1 : Wp X d 258 40 [some (mR 407), some (mI x1), some (mI x2), l3] [mI 15, mI xt1, mR 417] s Q) : Wp X d 258 38 [some (mR 407), some (mI x1), some (mI x2), l3] [mI xt1, mR 417] s Q := Wp_step k258 f258_38 (h_1)
theorem b258_40 {X : (Nat → Int) × Nat} {d : Nat} {s : mSt} {Q : mQ} {x1 : Int} {x2 : Int} {l3 : Option mV} {xt1 : Int} {xt2 : Int} (h_1 : 0 ≤ xt1 ∧ xt1 < 166) (h_2 : Wp X d 258 43 [some (mR 407), some (mI x1), some (mI x2), some (mI 0)] [] (uS s 417 xt1.toNat xt2) Q) : Wp X d 258 40 [some (mR 407), some (mI x1), some (mI x2), l3] [mI xt2, mI xt1, mR 417] s Q := Wp_step k258 f258_40 ⟨166, af_417, h_1, Wp_step k258 f258_41 (Wp_step k258 f258_42 (h_2))⟩
theorem b258_43 {X : (Nat → Int) × Nat} {d : Nat} {s : mSt} {Q : mQ} {x1 : Int} {x2 : Int} {x3 : Int} (h_1 : (s 417 4) ≤ x3 → Wp X d 258 73 [some (mR 407), some (mI x1), some (mI x2), some (mI x3)] [] s Q) (h_2 : ¬ (s 417 4) ≤ x3 → Wp X d 258 53 [some (mR 407), some (mI x1), some (mI x2), some (mI x3)] [] s Q) : Wp X d 258 43 [some (mR 407), some (mI x1), some (mI x2), some (mI x3)] [] s Q := Wp_step k258 f258_43 (Wp_step k258 f258_44 (Wp_step k258 f258_45 ⟨kf_407, 417, rf_407_20, Wp_step k258 f258_48 (Wp_step k258 f258_49 ⟨166, af_417, ⟨by decide, by decide⟩, Wp_step k258 f258_50 ⟨h_1, h_2⟩⟩)⟩))
theorem b258_53 {X : (Nat → Int) × Nat} {d : Nat} {s : mSt} {Q : mQ} {x1 : Int} {x2 : Int} {x3 : Int} (h_1 : Sp X d 217 [mR 407, mI x3, mI x1] s (fun r s' => ∃ v : Int, r = some (mI v) ∧ Wp X (d + 1) 258 59 [some (mR 407), some (mI x1), some (mI x2), some (mI x3)] [mI v] s' Q)) : Wp X (d + 1) 258 53 [some (mR 407), some (mI x1), some (mI x2), some (mI x3)] [] s Q := Wp_step k258 f258_53 (Wp_step k258 f258_54 (Wp_step k258 f258_55 (Wp_step k258 f258_56 ⟨⟨kf_407, Nat.le_of_ble_eq_true rfl⟩, Nat.le_refl _, _, rfl, Sp_E h_1⟩)))
theorem b258_59 {X : (Nat → Int) × Nat} {d : Nat} {s : mSt} {Q : mQ} {x1 : Int} {x2 : Int} {x3 : Int} {xt0 : Int} (h_1 : xt0 = 0 → Wp X d 258 67 [some (mR 407), some (mI x1), some (mI x2), some (mI x3)] [] s Q) (h_2 : ¬ xt0 = 0 → Wp X d 258 62 [some (mR 407), some (mI x1), some (mI x2), some (mI x3)] [] s Q) : Wp X d 258 59 [some (mR 407), some (mI x1), some (mI x2), some (mI x3)] [mI xt0] s Q := Wp_step k258 f258_59 ⟨h_1, h_2⟩
theorem b258_62 {X : (Nat → Int) × Nat} {d : Nat} {s : mSt} {Q : mQ} {x1 : Int} {x2 : Int} {x3 : Int} (h_1 : Sp X d 246 [mR 407, mI x3] s (fun r s' => r = none ∧ Wp X (d + 1) 258 67 [some (mR 407), some (mI x1), some (mI x2), some (mI x3)] [] s' Q)) : Wp X (d + 1) 258 62 [some (mR 407), some (mI x1), some (mI x2), some (mI x3)] [] s Q := Wp_step k258 f258_62 (Wp_step k258 f258_63 (Wp_step k258 f258_64 ⟨⟨kf_407, Nat.le_of_ble_eq_true rfl⟩, Nat.le_refl _, _, rfl, Sp_V h_1⟩))
theorem b258_67 {X : (Nat → Int) × Nat} {d : Nat} {s : mSt} {Q : mQ} {x1 : Int} {x2 : Int} {x3 : Int} (h_1 : Wp X d 258 43 [some (mR 407), some (mI x1), some (mI x2), some (mI (w32 (x3 + 1)))] [] s Q) : Wp X d 258 67 [some (mR 407), some (mI x1), some (mI x2), some (mI x3)] [] s Q := Wp_step k258 f258_67 (Wp_step k258 f258_70 (h_1))
theorem b258_73 {X : (Nat → Int) × Nat} {d : Nat} {s : mSt} {Q : mQ} {x1 : Int} {x2 : Int} {x3 : Int} (h_1 : Q none s) : Wp X d 258 73 [some (mR 407), some (mI x1), some (mI x2), some (mI x3)] [] s Q := Wp_step k258 f258_73 ⟨⟨rfl, Or.inl rfl⟩, h_1⟩
theorem e258 {X : (Nat → Int) × Nat} {d : Nat} {s : mSt} {Q : mQ} {x1 : Int} {x2 : Int} (h : Wp X d 258 0 [some (mR 407), some (mI x1), some (mI x2), none] [] s Q) : Sp X d 258 [mR 407, mI x1, mI x2] s Q := Sp_of (show mCe 258 = 0 by decide +kernel) (by rw [show mML 258 = 4 by decide +kernel]; rfl) (Nat.le_trans (Nat.le_of_ble_eq_true (show Nat.ble (mArgs _).length 4 = true from rfl)) (show 4 ≤ mML 258 by decide +kernel)) h
-- 259 ClashDayModel.delay(II)I
theorem k259 : mRk 259 = 1 := by decide +kernel
theorem f259_0 : mFetch 259 0 = some (.aload_n 0, 1, 0, 0, 0, 0) := by decide +kernel
theorem f259_1 : mFetch 259 1 = some (.iload_n 1, 1, 0, 0, 0, 0) := by decide +kernel
theorem f259_2 : mFetch 259 2 = some (.invokevirtual 349, 3, 213, 0, 2, 12) := by decide +kernel
theorem f259_5 : mFetch 259 5 = some (.ifCond .eq 29, 3, 34, 0, 0, 0) := by decide +kernel
theorem f259_8 : mFetch 259 8 = some (.iload_n 2, 1, 0, 0, 0, 0) := by decide +kernel
theorem f259_9 : mFetch 259 9 = some (.i2l, 1, 0, 0, 0, 0) := by decide +kernel
theorem f259_10 : mFetch 259 10 = some (.lconst 1, 1, 0, 0, 0, 0) := by decide +kernel
theorem f259_11 : mFetch 259 11 = some (.ldc2_w 461, 3, 9, 0, 0, 0) := by decide +kernel
theorem f259_14 : mFetch 259 14 = some (.invokestatic 151, 3, 167, 0, 3, 99) := by decide +kernel
theorem f259_17 : mFetch 259 17 = some (.ifCond .eq 17, 3, 34, 0, 0, 0) := by decide +kernel
theorem f259_20 : mFetch 259 20 = some (.aload_n 0, 1, 0, 0, 0, 0) := by decide +kernel
theorem f259_21 : mFetch 259 21 = some (.getfield 39, 3, 12, 20, 2, 1) := by decide +kernel
theorem f259_24 : mFetch 259 24 = some (.bipush 6, 2, 0, 0, 0, 0) := by decide +kernel
theorem f259_26 : mFetch 259 26 = some (.iload_n 1, 1, 0, 0, 0, 0) := by decide +kernel
theorem f259_27 : mFetch 259 27 = some (.iadd, 1, 0, 0, 0, 0) := by decide +kernel
theorem f259_28 : mFetch 259 28 = some (.iaload, 1, 0, 0, 0, 0) := by decide +kernel
theorem f259_29 : mFetch 259 29 = some (.bipush 15, 2, 0, 0, 0, 0) := by decide +kernel
theorem f259_31 : mFetch 259 31 = some (.if_icmp .ne 5, 3, 36, 0, 0, 0) := by decide +kernel
theorem f259_34 : mFetch 259 34 = some (.iconst (-1), 1, 0, 0, 0, 0) := by decide +kernel
theorem f259_35 : mFetch 259 35 = some (.ireturn, 1, 0, 0, 0, 0) := by decide +kernel
theorem f259_36 : mFetch 259 36 = some (.aload_n 0, 1, 0, 0, 0, 0) := by decide +kernel
theorem f259_37 : mFetch 259 37 = some (.invokevirtual 455, 3, 253, 0, 1, 12) := by decide +kernel
theorem f259_40 : mFetch 259 40 = some (.aload_n 0, 1, 0, 0, 0, 0) := by decide +kernel
theorem f259_41 : mFetch 259 41 = some (.iload_n 1, 1, 0, 0, 0, 0) := by decide +kernel
theorem f259_42 : mFetch 259 42 = some (.iload_n 2, 1, 0, 0, 0, 0) := by decide +kernel
theorem f259_43 : mFetch 259 43 = some (.invokevirtual 463, 3, 258, 0, 3, 12) := by decide +kernel
theorem f259_46 : mFetch 259 46 = some (.aload_n 0, 1, 0, 0, 0, 0) := by decide +kernel
theorem f259_47 : mFetch 259 47 = some (.getfield 39, 3, 12, 20, 2, 1) := by decide +kernel
theorem f259_50 : mFetch 259 50 = some (.bipush 6, 2, 0, 0, 0, 0) := by decide +kernel
theorem f259_52 : mFetch 259 52 = some (.iload_n 1, 1, 0, 0, 0, 0) := by decide +kernel
theorem f259_53 : mFetch 259 53 = some (.iadd, 1, 0, 0, 0, 0) := by decide +kernel
theorem f259_54 : mFetch 259 54 = some (.iaload, 1, 0, 0, 0, 0) := by decide +kernel
theorem f259_55 : mFetch 259 55 = some (.ireturn, 1, 0, 0, 0, 0) := by decide +kernel
theorem b259_0 {X : (Nat → Int) × Nat} {d : Nat} {s : mSt} {Q : mQ} {x1 : Int} {x2 : Int} (h_1 : Sp X d 213 [mR 407, mI x1] s (fun r s' => ∃ v : Int, r = some (mI v) ∧ Wp X (d + 1) 259 5 [some (mR 407), some (mI x1), some (mI x2)] [mI v] s' Q)) : Wp X (d + 1) 259 0 [some (mR 407), some (mI x1), some (mI x2)] [] s Q := Wp_step k259 f259_0 (Wp_step k259 f259_1 (Wp_step k259 f259_2 ⟨⟨kf_407, Nat.le_of_ble_eq_true rfl⟩, Nat.le_refl _, _, rfl, Sp_E h_1⟩))
theorem b259_5 {X : (Nat → Int) × Nat} {d : Nat} {s : mSt} {Q : mQ} {x1 : Int} {x2 : Int} {xt0 : Int} (h_1 : xt0 = 0 → Wp X d 259 34 [some (mR 407), some (mI x1), some (mI x2)] [] s Q) (h_2 : ¬ xt0 = 0 → Wp X d 259 8 [some (mR 407), some (mI x1), some (mI x2)] [] s Q) : Wp X d 259 5 [some (mR 407), some (mI x1), some (mI x2)] [mI xt0] s Q := Wp_step k259 f259_5 ⟨h_1, h_2⟩
theorem b259_8 {X : (Nat → Int) × Nat} {d : Nat} {s : mSt} {Q : mQ} {x1 : Int} {x2 : Int} (h_1 : Sp X d 167 [mJ x2, mJ 1, mJ 9] s (fun r s' => ∃ v : Int, r = some (mI v) ∧ Wp X (d + 1) 259 17 [some (mR 407), some (mI x1), some (mI x2)] [mI v] s' Q)) : Wp X (d + 1) 259 8 [some (mR 407), some (mI x1), some (mI x2)] [] s Q := Wp_step k259 f259_8 (Wp_step k259 f259_9 (Wp_step k259 f259_10 (Wp_step k259 f259_11 (Wp_step k259 f259_14 ⟨⟨Nat.le_of_ble_eq_true rfl, Nat.le_refl _⟩, _, rfl, Sp_E h_1⟩))))
theorem b259_17 {X : (Nat → Int) × Nat} {d : Nat} {s : mSt} {Q : mQ} {x1 : Int} {x2 : Int} {xt0 : Int} (h_1 : xt0 = 0 → Wp X d 259 34 [some (mR 407), some (mI x1), some (mI x2)] [] s Q) (h_2 : ¬ xt0 = 0 → Wp X d 259 20 [some (mR 407), some (mI x1), some (mI x2)] [] s Q) : Wp X d 259 17 [some (mR 407), some (mI x1), some (mI x2)] [mI xt0] s Q := Wp_step k259 f259_17 ⟨h_1, h_2⟩
theorem b259_20 {X : (Nat → Int) × Nat} {d : Nat} {s : mSt} {Q : mQ} {x1 : Int} {x2 : Int} (h_1 : 0 ≤ (w32 (6 + x1)) ∧ (w32 (6 + x1)) < 166) (h_2 : ¬ (s 417 (w32 (6 + x1)).toNat) = 15 → Wp X d 259 36 [some (mR 407), some (mI x1), some (mI x2)] [] s Q) (h_3 : (s 417 (w32 (6 + x1)).toNat) = 15 → Wp X d 259 34 [some (mR 407), some (mI x1), some (mI x2)] [] s Q) : Wp X d 259 20 [some (mR 407), some (mI x1), some (mI x2)] [] s Q := Wp_step k259 f259_20 (Wp_step k259 f259_21 ⟨kf_407, 417, rf_407_20, Wp_step k259 f259_24 (Wp_step k259 f259_26 (Wp_step k259 f259_27 (Wp_step k259 f259_28 ⟨166, af_417, h_1, Wp_step k259 f259_29 (Wp_step k259 f259_31 ⟨h_2, h_3⟩)⟩)))⟩)
theorem b259_34 {X : (Nat → Int) × Nat} {d : Nat} {s : mSt} {Q : mQ} {x1 : Int} {x2 : Int} (h_1 : Q (some (mI (-1))) s) : Wp X d 259 34 [some (mR 407), some (mI x1), some (mI x2)] [] s Q := Wp_step k259 f259_34 (Wp_step k259 f259_35 ⟨⟨rfl, trivial⟩, h_1⟩)
theorem b259_36 {X : (Nat → Int) × Nat} {d : Nat} {s : mSt} {Q : mQ} {x1 : Int} {x2 : Int} (h_1 : Sp X d 253 [mR 407] s (fun r s' => r = none ∧ Wp X (d + 1) 259 40 [some (mR 407), some (mI x1), some (mI x2)] [] s' Q)) : Wp X (d + 1) 259 36 [some (mR 407), some (mI x1), some (mI x2)] [] s Q := Wp_step k259 f259_36 (Wp_step k259 f259_37 ⟨⟨kf_407, Nat.le_of_ble_eq_true rfl⟩, Nat.le_refl _, _, rfl, Sp_V h_1⟩)
theorem b259_40 {X : (Nat → Int) × Nat} {d : Nat} {s : mSt} {Q : mQ} {x1 : Int} {x2 : Int} (h_1 : Sp X d 258 [mR 407, mI x1, mI x2] s (fun r s' => r = none ∧ Wp X (d + 1) 259 46 [some (mR 407), some (mI x1), some (mI x2)] [] s' Q)) : Wp X (d + 1) 259 40 [some (mR 407), some (mI x1), some (mI x2)] [] s Q := Wp_step k259 f259_40 (Wp_step k259 f259_41 (Wp_step k259 f259_42 (Wp_step k259 f259_43 ⟨⟨kf_407, Nat.le_of_ble_eq_true rfl⟩, Nat.le_refl _, _, rfl, Sp_V h_1⟩)))
theorem b259_46 {X : (Nat → Int) × Nat} {d : Nat} {s : mSt} {Q : mQ} {x1 : Int} {x2 : Int} (h_1 : 0 ≤ (w32 (6 + x1)) ∧ (w32 (6 + x1)) < 166) (h_2 : Q (some (mI (s 417 (w32 (6 + x1)).toNat))) s) : Wp X d 259 46 [some (mR 407), some (mI x1), some (mI x2)] [] s Q := Wp_step k259 f259_46 (Wp_step k259 f259_47 ⟨kf_407, 417, rf_407_20, Wp_step k259 f259_50 (Wp_step k259 f259_52 (Wp_step k259 f259_53 (Wp_step k259 f259_54 ⟨166, af_417, h_1, Wp_step k259 f259_55 ⟨⟨rfl, trivial⟩, h_2⟩⟩)))⟩)
theorem e259 {X : (Nat → Int) × Nat} {d : Nat} {s : mSt} {Q : mQ} {x1 : Int} {x2 : Int} (h : Wp X d 259 0 [some (mR 407), some (mI x1), some (mI x2)] [] s Q) : Sp X d 259 [mR 407, mI x1, mI x2] s Q := Sp_of (show mCe 259 = 0 by decide +kernel) (by rw [show mML 259 = 3 by decide +kernel]; rfl) (Nat.le_trans (Nat.le_of_ble_eq_true (show Nat.ble (mArgs _).length 3 = true from rfl)) (show 3 ≤ mML 259 by decide +kernel)) h
-- 260 ClashDayModel.take(II)I
theorem k260 : mRk 260 = 1 := by decide +kernel
theorem f260_0 : mFetch 260 0 = some (.aload_n 0, 1, 0, 0, 0, 0) := by decide +kernel
theorem f260_1 : mFetch 260 1 = some (.invokevirtual 354, 3, 212, 0, 1, 12) := by decide +kernel
theorem f260_4 : mFetch 260 4 = some (.ifCond .eq 40, 3, 44, 0, 0, 0) := by decide +kernel
theorem f260_7 : mFetch 260 7 = some (.iload_n 1, 1, 0, 0, 0, 0) := by decide +kernel
theorem f260_8 : mFetch 260 8 = some (.i2l, 1, 0, 0, 0, 0) := by decide +kernel
theorem f260_9 : mFetch 260 9 = some (.lconst 0, 1, 0, 0, 0, 0) := by decide +kernel
theorem f260_10 : mFetch 260 10 = some (.ldc2_w 357, 3, 29, 0, 0, 0) := by decide +kernel
theorem f260_13 : mFetch 260 13 = some (.invokestatic 151, 3, 167, 0, 3, 99) := by decide +kernel
theorem f260_16 : mFetch 260 16 = some (.ifCond .eq 28, 3, 44, 0, 0, 0) := by decide +kernel
theorem f260_19 : mFetch 260 19 = some (.iload_n 2, 1, 0, 0, 0, 0) := by decide +kernel
theorem f260_20 : mFetch 260 20 = some (.i2l, 1, 0, 0, 0, 0) := by decide +kernel
theorem f260_21 : mFetch 260 21 = some (.lconst 0, 1, 0, 0, 0, 0) := by decide +kernel
theorem f260_22 : mFetch 260 22 = some (.ldc2_w 461, 3, 9, 0, 0, 0) := by decide +kernel
theorem f260_25 : mFetch 260 25 = some (.invokestatic 151, 3, 167, 0, 3, 99) := by decide +kernel
theorem f260_28 : mFetch 260 28 = some (.ifCond .eq 16, 3, 44, 0, 0, 0) := by decide +kernel
theorem f260_31 : mFetch 260 31 = some (.aload_n 0, 1, 0, 0, 0, 0) := by decide +kernel
theorem f260_32 : mFetch 260 32 = some (.getfield 39, 3, 12, 20, 2, 1) := by decide +kernel
theorem f260_35 : mFetch 260 35 = some (.bipush 11, 2, 0, 0, 0, 0) := by decide +kernel
theorem f260_37 : mFetch 260 37 = some (.iload_n 1, 1, 0, 0, 0, 0) := by decide +kernel
theorem f260_38 : mFetch 260 38 = some (.iadd, 1, 0, 0, 0, 0) := by decide +kernel
theorem f260_39 : mFetch 260 39 = some (.iaload, 1, 0, 0, 0, 0) := by decide +kernel
theorem f260_40 : mFetch 260 40 = some (.iload_n 2, 1, 0, 0, 0, 0) := by decide +kernel
theorem f260_41 : mFetch 260 41 = some (.if_icmp .ne 5, 3, 46, 0, 0, 0) := by decide +kernel
theorem f260_44 : mFetch 260 44 = some (.iconst (-1), 1, 0, 0, 0, 0) := by decide +kernel
theorem f260_45 : mFetch 260 45 = some (.ireturn, 1, 0, 0, 0, 0) := by decide +kernel
theorem f260_46 : mFetch 260 46 = some (.aload_n 0, 1, 0, 0, 0, 0) := by decide +kernel
theorem f260_47 : mFetch 260 47 = some (.invokevirtual 455, 3, 253, 0, 1, 12) := by decide +kernel
theorem f260_50 : mFetch 260 50 = some (.aload_n 0, 1, 0, 0, 0, 0) := by decide +kernel
theorem f260_51 : mFetch 260 51 = some (.getfield 39, 3, 12, 20, 2, 1) := by decide +kernel
theorem f260_54 : mFetch 260 54 = some (.bipush 11, 2, 0, 0, 0, 0) := by decide +kernel
theorem f260_56 : mFetch 260 56 = some (.iload_n 1, 1, 0, 0, 0, 0) := by decide +kernel
theorem f260_57 : mFetch 260 57 = some (.iadd, 1, 0, 0, 0, 0) := by decide +kernel
theorem f260_58 : mFetch 260 58 = some (.iaload, 1, 0, 0, 0, 0) := by decide +kernel
theorem f260_59 : mFetch 260 59 = some (.istore_n 3, 1, 0, 0, 0, 0) := by decide +kernel
theorem f260_60 : mFetch 260 60 = some (.aload_n 0, 1, 0, 0, 0, 0) := by decide +kernel
theorem f260_61 : mFetch 260 61 = some (.getfield 39, 3, 12, 20, 2, 1) := by decide +kernel
theorem f260_64 : mFetch 260 64 = some (.bipush 11, 2, 0, 0, 0, 0) := by decide +kernel
theorem f260_66 : mFetch 260 66 = some (.iload_n 1, 1, 0, 0, 0, 0) := by decide +kernel
theorem f260_67 : mFetch 260 67 = some (.iadd, 1, 0, 0, 0, 0) := by decide +kernel
theorem f260_68 : mFetch 260 68 = some (.iload_n 2, 1, 0, 0, 0, 0) := by decide +kernel
theorem f260_69 : mFetch 260 69 = some (.iastore, 1, 0, 0, 0, 0) := by decide +kernel
theorem f260_70 : mFetch 260 70 = some (.iload_n 3, 1, 0, 0, 0, 0) := by decide +kernel
theorem f260_71 : mFetch 260 71 = some (.ireturn, 1, 0, 0, 0, 0) := by decide +kernel
theorem b260_0 {X : (Nat → Int) × Nat} {d : Nat} {s : mSt} {Q : mQ} {x1 : Int} {x2 : Int} {l3 : Option mV} (h_1 : Sp X d 212 [mR 407] s (fun r s' => ∃ v : Int, r = some (mI v) ∧ Wp X (d + 1) 260 4 [some (mR 407), some (mI x1), some (mI x2), l3] [mI v] s' Q)) : Wp X (d + 1) 260 0 [some (mR 407), some (mI x1), some (mI x2), l3] [] s Q := Wp_step k260 f260_0 (Wp_step k260 f260_1 ⟨⟨kf_407, Nat.le_of_ble_eq_true rfl⟩, Nat.le_refl _, _, rfl, Sp_E h_1⟩)
theorem b260_4 {X : (Nat → Int) × Nat} {d : Nat} {s : mSt} {Q : mQ} {x1 : Int} {x2 : Int} {l3 : Option mV} {xt0 : Int} (h_1 : xt0 = 0 → Wp X d 260 44 [some (mR 407), some (mI x1), some (mI x2), l3] [] s Q) (h_2 : ¬ xt0 = 0 → Wp X d 260 7 [some (mR 407), some (mI x1), some (mI x2), l3] [] s Q) : Wp X d 260 4 [some (mR 407), some (mI x1), some (mI x2), l3] [mI xt0] s Q := Wp_step k260 f260_4 ⟨h_1, h_2⟩
theorem b260_7 {X : (Nat → Int) × Nat} {d : Nat} {s : mSt} {Q : mQ} {x1 : Int} {x2 : Int} {l3 : Option mV} (h_1 : Sp X d 167 [mJ x1, mJ 0, mJ 29] s (fun r s' => ∃ v : Int, r = some (mI v) ∧ Wp X (d + 1) 260 16 [some (mR 407), some (mI x1), some (mI x2), l3] [mI v] s' Q)) : Wp X (d + 1) 260 7 [some (mR 407), some (mI x1), some (mI x2), l3] [] s Q := Wp_step k260 f260_7 (Wp_step k260 f260_8 (Wp_step k260 f260_9 (Wp_step k260 f260_10 (Wp_step k260 f260_13 ⟨⟨Nat.le_of_ble_eq_true rfl, Nat.le_refl _⟩, _, rfl, Sp_E h_1⟩))))
theorem b260_16 {X : (Nat → Int) × Nat} {d : Nat} {s : mSt} {Q : mQ} {x1 : Int} {x2 : Int} {l3 : Option mV} {xt0 : Int} (h_1 : xt0 = 0 → Wp X d 260 44 [some (mR 407), some (mI x1), some (mI x2), l3] [] s Q) (h_2 : ¬ xt0 = 0 → Wp X d 260 19 [some (mR 407), some (mI x1), some (mI x2), l3] [] s Q) : Wp X d 260 16 [some (mR 407), some (mI x1), some (mI x2), l3] [mI xt0] s Q := Wp_step k260 f260_16 ⟨h_1, h_2⟩
theorem b260_19 {X : (Nat → Int) × Nat} {d : Nat} {s : mSt} {Q : mQ} {x1 : Int} {x2 : Int} {l3 : Option mV} (h_1 : Sp X d 167 [mJ x2, mJ 0, mJ 9] s (fun r s' => ∃ v : Int, r = some (mI v) ∧ Wp X (d + 1) 260 28 [some (mR 407), some (mI x1), some (mI x2), l3] [mI v] s' Q)) : Wp X (d + 1) 260 19 [some (mR 407), some (mI x1), some (mI x2), l3] [] s Q := Wp_step k260 f260_19 (Wp_step k260 f260_20 (Wp_step k260 f260_21 (Wp_step k260 f260_22 (Wp_step k260 f260_25 ⟨⟨Nat.le_of_ble_eq_true rfl, Nat.le_refl _⟩, _, rfl, Sp_E h_1⟩))))
theorem b260_28 {X : (Nat → Int) × Nat} {d : Nat} {s : mSt} {Q : mQ} {x1 : Int} {x2 : Int} {l3 : Option mV} {xt0 : Int} (h_1 : xt0 = 0 → Wp X d 260 44 [some (mR 407), some (mI x1), some (mI x2), l3] [] s Q) (h_2 : ¬ xt0 = 0 → Wp X d 260 31 [some (mR 407), some (mI x1), some (mI x2), l3] [] s Q) : Wp X d 260 28 [some (mR 407), some (mI x1), some (mI x2), l3] [mI xt0] s Q := Wp_step k260 f260_28 ⟨h_1, h_2⟩
theorem b260_31 {X : (Nat → Int) × Nat} {d : Nat} {s : mSt} {Q : mQ} {x1 : Int} {x2 : Int} {l3 : Option mV} (h_1 : 0 ≤ (w32 (11 + x1)) ∧ (w32 (11 + x1)) < 166) (h_2 : ¬ (s 417 (w32 (11 + x1)).toNat) = x2 → Wp X d 260 46 [some (mR 407), some (mI x1), some (mI x2), l3] [] s Q) (h_3 : (s 417 (w32 (11 + x1)).toNat) = x2 → Wp X d 260 44 [some (mR 407), some (mI x1), some (mI x2), l3] [] s Q) : Wp X d 260 31 [some (mR 407), some (mI x1), some (mI x2), l3] [] s Q := Wp_step k260 f260_31 (Wp_step k260 f260_32 ⟨kf_407, 417, rf_407_20, Wp_step k260 f260_35 (Wp_step k260 f260_37 (Wp_step k260 f260_38 (Wp_step k260 f260_39 ⟨166, af_417, h_1, Wp_step k260 f260_40 (Wp_step k260 f260_41 ⟨h_2, h_3⟩)⟩)))⟩)
theorem b260_44 {X : (Nat → Int) × Nat} {d : Nat} {s : mSt} {Q : mQ} {x1 : Int} {x2 : Int} {l3 : Option mV} (h_1 : Q (some (mI (-1))) s) : Wp X d 260 44 [some (mR 407), some (mI x1), some (mI x2), l3] [] s Q := Wp_step k260 f260_44 (Wp_step k260 f260_45 ⟨⟨rfl, trivial⟩, h_1⟩)
theorem b260_46 {X : (Nat → Int) × Nat} {d : Nat} {s : mSt} {Q : mQ} {x1 : Int} {x2 : Int} {l3 : Option mV} (h_1 : Sp X d 253 [mR 407] s (fun r s' => r = none ∧ Wp X (d + 1) 260 50 [some (mR 407), some (mI x1), some (mI x2), l3] [] s' Q)) : Wp X (d + 1) 260 46 [some (mR 407), some (mI x1), some (mI x2), l3] [] s Q := Wp_step k260 f260_46 (Wp_step k260 f260_47 ⟨⟨kf_407, Nat.le_of_ble_eq_true rfl⟩, Nat.le_refl _, _, rfl, Sp_V h_1⟩)
theorem b260_50 {X : (Nat → Int) × Nat} {d : Nat} {s : mSt} {Q : mQ} {x1 : Int} {x2 : Int} {l3 : Option mV} (h_1 : 0 ≤ (w32 (11 + x1)) ∧ (w32 (11 + x1)) < 166) (h_2 : 0 ≤ (w32 (11 + x1)) ∧ (w32 (11 + x1)) < 166) (h_3 : Q (some (mI (s 417 (w32 (11 + x1)).toNat))) (uS s 417 ((w32 (11 + x1)).toNat) x2)) : Wp X d 260 50 [some (mR 407), some (mI x1), some (mI x2), l3] [] s Q := Wp_step k260 f260_50 (Wp_step k260 f260_51 ⟨kf_407, 417, rf_407_20, Wp_step k260 f260_54 (Wp_step k260 f260_56 (Wp_step k260 f260_57 (Wp_step k260 f260_58 ⟨166, af_417, h_1, Wp_step k260 f260_59 (Wp_step k260 f260_60 (Wp_step k260 f260_61 ⟨kf_407, 417, rf_407_20, Wp_step k260 f260_64 (Wp_step k260 f260_66 (Wp_step k260 f260_67 (Wp_step k260 f260_68 (Wp_step k260 f260_69 ⟨166, af_417, h_2, Wp_step k260 f260_70 (Wp_step k260 f260_71 ⟨⟨rfl, trivial⟩, h_3⟩)⟩))))⟩))⟩)))⟩)
theorem e260 {X : (Nat → Int) × Nat} {d : Nat} {s : mSt} {Q : mQ} {x1 : Int} {x2 : Int} (h : Wp X d 260 0 [some (mR 407), some (mI x1), some (mI x2), none] [] s Q) : Sp X d 260 [mR 407, mI x1, mI x2] s Q := Sp_of (show mCe 260 = 0 by decide +kernel) (by rw [show mML 260 = 4 by decide +kernel]; rfl) (Nat.le_trans (Nat.le_of_ble_eq_true (show Nat.ble (mArgs _).length 4 = true from rfl)) (show 4 ≤ mML 260 by decide +kernel)) h
-- 261 ClashDayModel.begins(II)I
theorem k261 : mRk 261 = 1 := by decide +kernel
theorem f261_0 : mFetch 261 0 = some (.aload_n 0, 1, 0, 0, 0, 0) := by decide +kernel
theorem f261_1 : mFetch 261 1 = some (.iload_n 1, 1, 0, 0, 0, 0) := by decide +kernel
theorem f261_2 : mFetch 261 2 = some (.invokevirtual 334, 3, 216, 0, 2, 12) := by decide +kernel
theorem f261_5 : mFetch 261 5 = some (.ifCond .eq 11, 3, 16, 0, 0, 0) := by decide +kernel
theorem f261_8 : mFetch 261 8 = some (.aload_n 0, 1, 0, 0, 0, 0) := by decide +kernel
theorem f261_9 : mFetch 261 9 = some (.iload_n 2, 1, 0, 0, 0, 0) := by decide +kernel
theorem f261_10 : mFetch 261 10 = some (.invokevirtual 349, 3, 213, 0, 2, 12) := by decide +kernel
theorem f261_13 : mFetch 261 13 = some (.ifCond .ne 5, 3, 18, 0, 0, 0) := by decide +kernel
theorem f261_16 : mFetch 261 16 = some (.iconst (-1), 1, 0, 0, 0, 0) := by decide +kernel
theorem f261_17 : mFetch 261 17 = some (.ireturn, 1, 0, 0, 0, 0) := by decide +kernel
theorem f261_18 : mFetch 261 18 = some (.aload_n 0, 1, 0, 0, 0, 0) := by decide +kernel
theorem f261_19 : mFetch 261 19 = some (.iload_n 1, 1, 0, 0, 0, 0) := by decide +kernel
theorem f261_20 : mFetch 261 20 = some (.iload_n 2, 1, 0, 0, 0, 0) := by decide +kernel
theorem f261_21 : mFetch 261 21 = some (.invokevirtual 321, 3, 217, 0, 3, 12) := by decide +kernel
theorem f261_24 : mFetch 261 24 = some (.ifCond .eq 12, 3, 36, 0, 0, 0) := by decide +kernel
theorem f261_27 : mFetch 261 27 = some (.aload_n 0, 1, 0, 0, 0, 0) := by decide +kernel
theorem f261_28 : mFetch 261 28 = some (.iload_n 1, 1, 0, 0, 0, 0) := by decide +kernel
theorem f261_29 : mFetch 261 29 = some (.iload_n 2, 1, 0, 0, 0, 0) := by decide +kernel
theorem f261_30 : mFetch 261 30 = some (.invokevirtual 331, 3, 218, 0, 3, 12) := by decide +kernel
theorem f261_33 : mFetch 261 33 = some (.goto 5, 3, 38, 0, 0, 0) := by decide +kernel
theorem f261_36 : mFetch 261 36 = some (.bipush (-2), 2, 0, 0, 0, 0) := by decide +kernel
theorem f261_38 : mFetch 261 38 = some (.ireturn, 1, 0, 0, 0, 0) := by decide +kernel
theorem b261_0 {X : (Nat → Int) × Nat} {d : Nat} {s : mSt} {Q : mQ} {x1 : Int} {x2 : Int} (h_1 : Sp X d 216 [mR 407, mI x1] s (fun r s' => ∃ v : Int, r = some (mI v) ∧ Wp X (d + 1) 261 5 [some (mR 407), some (mI x1), some (mI x2)] [mI v] s' Q)) : Wp X (d + 1) 261 0 [some (mR 407), some (mI x1), some (mI x2)] [] s Q := Wp_step k261 f261_0 (Wp_step k261 f261_1 (Wp_step k261 f261_2 ⟨⟨kf_407, Nat.le_of_ble_eq_true rfl⟩, Nat.le_refl _, _, rfl, Sp_E h_1⟩))
theorem b261_5 {X : (Nat → Int) × Nat} {d : Nat} {s : mSt} {Q : mQ} {x1 : Int} {x2 : Int} {xt0 : Int} (h_1 : xt0 = 0 → Wp X d 261 16 [some (mR 407), some (mI x1), some (mI x2)] [] s Q) (h_2 : ¬ xt0 = 0 → Wp X d 261 8 [some (mR 407), some (mI x1), some (mI x2)] [] s Q) : Wp X d 261 5 [some (mR 407), some (mI x1), some (mI x2)] [mI xt0] s Q := Wp_step k261 f261_5 ⟨h_1, h_2⟩
theorem b261_8 {X : (Nat → Int) × Nat} {d : Nat} {s : mSt} {Q : mQ} {x1 : Int} {x2 : Int} (h_1 : Sp X d 213 [mR 407, mI x2] s (fun r s' => ∃ v : Int, r = some (mI v) ∧ Wp X (d + 1) 261 13 [some (mR 407), some (mI x1), some (mI x2)] [mI v] s' Q)) : Wp X (d + 1) 261 8 [some (mR 407), some (mI x1), some (mI x2)] [] s Q := Wp_step k261 f261_8 (Wp_step k261 f261_9 (Wp_step k261 f261_10 ⟨⟨kf_407, Nat.le_of_ble_eq_true rfl⟩, Nat.le_refl _, _, rfl, Sp_E h_1⟩))
theorem b261_13 {X : (Nat → Int) × Nat} {d : Nat} {s : mSt} {Q : mQ} {x1 : Int} {x2 : Int} {xt0 : Int} (h_1 : ¬ xt0 = 0 → Wp X d 261 18 [some (mR 407), some (mI x1), some (mI x2)] [] s Q) (h_2 : xt0 = 0 → Wp X d 261 16 [some (mR 407), some (mI x1), some (mI x2)] [] s Q) : Wp X d 261 13 [some (mR 407), some (mI x1), some (mI x2)] [mI xt0] s Q := Wp_step k261 f261_13 ⟨h_1, h_2⟩
theorem b261_16 {X : (Nat → Int) × Nat} {d : Nat} {s : mSt} {Q : mQ} {x1 : Int} {x2 : Int} (h_1 : Q (some (mI (-1))) s) : Wp X d 261 16 [some (mR 407), some (mI x1), some (mI x2)] [] s Q := Wp_step k261 f261_16 (Wp_step k261 f261_17 ⟨⟨rfl, trivial⟩, h_1⟩)
theorem b261_18 {X : (Nat → Int) × Nat} {d : Nat} {s : mSt} {Q : mQ} {x1 : Int} {x2 : Int} (h_1 : Sp X d 217 [mR 407, mI x1, mI x2] s (fun r s' => ∃ v : Int, r = some (mI v) ∧ Wp X (d + 1) 261 24 [some (mR 407), some (mI x1), some (mI x2)] [mI v] s' Q)) : Wp X (d + 1) 261 18 [some (mR 407), some (mI x1), some (mI x2)] [] s Q := Wp_step k261 f261_18 (Wp_step k261 f261_19 (Wp_step k261 f261_20 (Wp_step k261 f261_21 ⟨⟨kf_407, Nat.le_of_ble_eq_true rfl⟩, Nat.le_refl _, _, rfl, Sp_E h_1⟩)))
theorem b261_24 {X : (Nat → Int) × Nat} {d : Nat} {s : mSt} {Q : mQ} {x1 : Int} {x2 : Int} {xt0 : Int} (h_1 : xt0 = 0 → Wp X d 261 36 [some (mR 407), some (mI x1), some (mI x2)] [] s Q) (h_2 : ¬ xt0 = 0 → Wp X d 261 27 [some (mR 407), some (mI x1), some (mI x2)] [] s Q) : Wp X d 261 24 [some (mR 407), some (mI x1), some (mI x2)] [mI xt0] s Q := Wp_step k261 f261_24 ⟨h_1, h_2⟩
theorem b261_27 {X : (Nat → Int) × Nat} {d : Nat} {s : mSt} {Q : mQ} {x1 : Int} {x2 : Int} (h_1 : Sp X d 218 [mR 407, mI x1, mI x2] s (fun r s' => ∃ v : Int, r = some (mI v) ∧ Wp X (d + 1) 261 33 [some (mR 407), some (mI x1), some (mI x2)] [mI v] s' Q)) : Wp X (d + 1) 261 27 [some (mR 407), some (mI x1), some (mI x2)] [] s Q := Wp_step k261 f261_27 (Wp_step k261 f261_28 (Wp_step k261 f261_29 (Wp_step k261 f261_30 ⟨⟨kf_407, Nat.le_of_ble_eq_true rfl⟩, Nat.le_refl _, _, rfl, Sp_E h_1⟩)))
theorem b261_33 {X : (Nat → Int) × Nat} {d : Nat} {s : mSt} {Q : mQ} {x1 : Int} {x2 : Int} {xt0 : Int} (h_1 : Wp X d 261 38 [some (mR 407), some (mI x1), some (mI x2)] [mI xt0] s Q) : Wp X d 261 33 [some (mR 407), some (mI x1), some (mI x2)] [mI xt0] s Q := Wp_step k261 f261_33 (h_1)
theorem b261_36 {X : (Nat → Int) × Nat} {d : Nat} {s : mSt} {Q : mQ} {x1 : Int} {x2 : Int} (h_1 : Wp X d 261 38 [some (mR 407), some (mI x1), some (mI x2)] [mI (-2)] s Q) : Wp X d 261 36 [some (mR 407), some (mI x1), some (mI x2)] [] s Q := Wp_step k261 f261_36 (h_1)
theorem b261_38 {X : (Nat → Int) × Nat} {d : Nat} {s : mSt} {Q : mQ} {x1 : Int} {x2 : Int} {xt0 : Int} (h_1 : Q (some (mI xt0)) s) : Wp X d 261 38 [some (mR 407), some (mI x1), some (mI x2)] [mI xt0] s Q := Wp_step k261 f261_38 ⟨⟨rfl, trivial⟩, h_1⟩
theorem e261 {X : (Nat → Int) × Nat} {d : Nat} {s : mSt} {Q : mQ} {x1 : Int} {x2 : Int} (h : Wp X d 261 0 [some (mR 407), some (mI x1), some (mI x2)] [] s Q) : Sp X d 261 [mR 407, mI x1, mI x2] s Q := Sp_of (show mCe 261 = 0 by decide +kernel) (by rw [show mML 261 = 3 by decide +kernel]; rfl) (Nat.le_trans (Nat.le_of_ble_eq_true (show Nat.ble (mArgs _).length 3 = true from rfl)) (show 3 ≤ mML 261 by decide +kernel)) h
-- 262 ClashDayModel.could(II)I
theorem k262 : mRk 262 = 1 := by decide +kernel
theorem f262_0 : mFetch 262 0 = some (.aload_n 0, 1, 0, 0, 0, 0) := by decide +kernel
theorem f262_1 : mFetch 262 1 = some (.iload_n 1, 1, 0, 0, 0, 0) := by decide +kernel
theorem f262_2 : mFetch 262 2 = some (.invokevirtual 328, 3, 215, 0, 2, 12) := by decide +kernel
theorem f262_5 : mFetch 262 5 = some (.ifCond .eq 15, 3, 20, 0, 0, 0) := by decide +kernel
theorem f262_8 : mFetch 262 8 = some (.iload_n 2, 1, 0, 0, 0, 0) := by decide +kernel
theorem f262_9 : mFetch 262 9 = some (.i2l, 1, 0, 0, 0, 0) := by decide +kernel
theorem f262_10 : mFetch 262 10 = some (.lconst 0, 1, 0, 0, 0, 0) := by decide +kernel
theorem f262_11 : mFetch 262 11 = some (.ldc2_w 466, 3, 7, 0, 0, 0) := by decide +kernel
theorem f262_14 : mFetch 262 14 = some (.invokestatic 151, 3, 167, 0, 3, 99) := by decide +kernel
theorem f262_17 : mFetch 262 17 = some (.ifCond .ne 6, 3, 23, 0, 0, 0) := by decide +kernel
theorem f262_20 : mFetch 262 20 = some (.bipush (-3), 2, 0, 0, 0, 0) := by decide +kernel
theorem f262_22 : mFetch 262 22 = some (.ireturn, 1, 0, 0, 0, 0) := by decide +kernel
theorem f262_23 : mFetch 262 23 = some (.aload_n 0, 1, 0, 0, 0, 0) := by decide +kernel
theorem f262_24 : mFetch 262 24 = some (.iload_n 1, 1, 0, 0, 0, 0) := by decide +kernel
theorem f262_25 : mFetch 262 25 = some (.invokevirtual 420, 3, 244, 0, 2, 12) := by decide +kernel
theorem f262_28 : mFetch 262 28 = some (.ifCond .ne 6, 3, 34, 0, 0, 0) := by decide +kernel
theorem f262_31 : mFetch 262 31 = some (.bipush (-2), 2, 0, 0, 0, 0) := by decide +kernel
theorem f262_33 : mFetch 262 33 = some (.ireturn, 1, 0, 0, 0, 0) := by decide +kernel
theorem f262_34 : mFetch 262 34 = some (.iload_n 2, 1, 0, 0, 0, 0) := by decide +kernel
theorem f262_35 : mFetch 262 35 = some (.iconst 2, 1, 0, 0, 0, 0) := by decide +kernel
theorem f262_36 : mFetch 262 36 = some (.if_icmp .le 15, 3, 51, 0, 0, 0) := by decide +kernel
theorem f262_39 : mFetch 262 39 = some (.aload_n 0, 1, 0, 0, 0, 0) := by decide +kernel
theorem f262_40 : mFetch 262 40 = some (.iload_n 2, 1, 0, 0, 0, 0) := by decide +kernel
theorem f262_41 : mFetch 262 41 = some (.iconst 3, 1, 0, 0, 0, 0) := by decide +kernel
theorem f262_42 : mFetch 262 42 = some (.isub, 1, 0, 0, 0, 0) := by decide +kernel
theorem f262_43 : mFetch 262 43 = some (.invokevirtual 349, 3, 213, 0, 2, 12) := by decide +kernel
theorem f262_46 : mFetch 262 46 = some (.ifCond .ne 5, 3, 51, 0, 0, 0) := by decide +kernel
theorem f262_49 : mFetch 262 49 = some (.iconst (-1), 1, 0, 0, 0, 0) := by decide +kernel
theorem f262_50 : mFetch 262 50 = some (.ireturn, 1, 0, 0, 0, 0) := by decide +kernel
theorem f262_51 : mFetch 262 51 = some (.iload_n 2, 1, 0, 0, 0, 0) := by decide +kernel
theorem f262_52 : mFetch 262 52 = some (.ifCond .ne 10, 3, 62, 0, 0, 0) := by decide +kernel
theorem f262_55 : mFetch 262 55 = some (.aload_n 0, 1, 0, 0, 0, 0) := by decide +kernel
theorem f262_56 : mFetch 262 56 = some (.getfield 396, 3, 12, 29, 0, 1) := by decide +kernel
theorem f262_59 : mFetch 262 59 = some (.goto 35, 3, 94, 0, 0, 0) := by decide +kernel
theorem f262_62 : mFetch 262 62 = some (.iload_n 2, 1, 0, 0, 0, 0) := by decide +kernel
theorem f262_63 : mFetch 262 63 = some (.iconst 1, 1, 0, 0, 0, 0) := by decide +kernel
theorem f262_64 : mFetch 262 64 = some (.if_icmp .ne 10, 3, 74, 0, 0, 0) := by decide +kernel
theorem f262_67 : mFetch 262 67 = some (.aload_n 0, 1, 0, 0, 0, 0) := by decide +kernel
theorem f262_68 : mFetch 262 68 = some (.getfield 399, 3, 12, 30, 0, 1) := by decide +kernel
theorem f262_71 : mFetch 262 71 = some (.goto 23, 3, 94, 0, 0, 0) := by decide +kernel
theorem f262_74 : mFetch 262 74 = some (.iload_n 2, 1, 0, 0, 0, 0) := by decide +kernel
theorem f262_75 : mFetch 262 75 = some (.iconst 2, 1, 0, 0, 0, 0) := by decide +kernel
theorem f262_76 : mFetch 262 76 = some (.if_icmp .ne 10, 3, 86, 0, 0, 0) := by decide +kernel
theorem f262_79 : mFetch 262 79 = some (.aload_n 0, 1, 0, 0, 0, 0) := by decide +kernel
theorem f262_80 : mFetch 262 80 = some (.getfield 402, 3, 12, 31, 0, 1) := by decide +kernel
theorem f262_83 : mFetch 262 83 = some (.goto 11, 3, 94, 0, 0, 0) := by decide +kernel
theorem f262_86 : mFetch 262 86 = some (.aload_n 0, 1, 0, 0, 0, 0) := by decide +kernel
theorem f262_87 : mFetch 262 87 = some (.getfield 58, 3, 12, 27, 2, 1) := by decide +kernel
theorem f262_90 : mFetch 262 90 = some (.iload_n 2, 1, 0, 0, 0, 0) := by decide +kernel
theorem f262_91 : mFetch 262 91 = some (.iconst 3, 1, 0, 0, 0, 0) := by decide +kernel
theorem f262_92 : mFetch 262 92 = some (.isub, 1, 0, 0, 0, 0) := by decide +kernel
theorem f262_93 : mFetch 262 93 = some (.iaload, 1, 0, 0, 0, 0) := by decide +kernel
theorem f262_94 : mFetch 262 94 = some (.ireturn, 1, 0, 0, 0, 0) := by decide +kernel
theorem b262_0 {X : (Nat → Int) × Nat} {d : Nat} {s : mSt} {Q : mQ} {x1 : Int} {x2 : Int} (h_1 : Sp X d 215 [mR 407, mI x1] s (fun r s' => ∃ v : Int, r = some (mI v) ∧ Wp X (d + 1) 262 5 [some (mR 407), some (mI x1), some (mI x2)] [mI v] s' Q)) : Wp X (d + 1) 262 0 [some (mR 407), some (mI x1), some (mI x2)] [] s Q := Wp_step k262 f262_0 (Wp_step k262 f262_1 (Wp_step k262 f262_2 ⟨⟨kf_407, Nat.le_of_ble_eq_true rfl⟩, Nat.le_refl _, _, rfl, Sp_E h_1⟩))
theorem b262_5 {X : (Nat → Int) × Nat} {d : Nat} {s : mSt} {Q : mQ} {x1 : Int} {x2 : Int} {xt0 : Int} (h_1 : xt0 = 0 → Wp X d 262 20 [some (mR 407), some (mI x1), some (mI x2)] [] s Q) (h_2 : ¬ xt0 = 0 → Wp X d 262 8 [some (mR 407), some (mI x1), some (mI x2)] [] s Q) : Wp X d 262 5 [some (mR 407), some (mI x1), some (mI x2)] [mI xt0] s Q := Wp_step k262 f262_5 ⟨h_1, h_2⟩
theorem b262_8 {X : (Nat → Int) × Nat} {d : Nat} {s : mSt} {Q : mQ} {x1 : Int} {x2 : Int} (h_1 : Sp X d 167 [mJ x2, mJ 0, mJ 7] s (fun r s' => ∃ v : Int, r = some (mI v) ∧ Wp X (d + 1) 262 17 [some (mR 407), some (mI x1), some (mI x2)] [mI v] s' Q)) : Wp X (d + 1) 262 8 [some (mR 407), some (mI x1), some (mI x2)] [] s Q := Wp_step k262 f262_8 (Wp_step k262 f262_9 (Wp_step k262 f262_10 (Wp_step k262 f262_11 (Wp_step k262 f262_14 ⟨⟨Nat.le_of_ble_eq_true rfl, Nat.le_refl _⟩, _, rfl, Sp_E h_1⟩))))
theorem b262_17 {X : (Nat → Int) × Nat} {d : Nat} {s : mSt} {Q : mQ} {x1 : Int} {x2 : Int} {xt0 : Int} (h_1 : ¬ xt0 = 0 → Wp X d 262 23 [some (mR 407), some (mI x1), some (mI x2)] [] s Q) (h_2 : xt0 = 0 → Wp X d 262 20 [some (mR 407), some (mI x1), some (mI x2)] [] s Q) : Wp X d 262 17 [some (mR 407), some (mI x1), some (mI x2)] [mI xt0] s Q := Wp_step k262 f262_17 ⟨h_1, h_2⟩
theorem b262_20 {X : (Nat → Int) × Nat} {d : Nat} {s : mSt} {Q : mQ} {x1 : Int} {x2 : Int} (h_1 : Q (some (mI (-3))) s) : Wp X d 262 20 [some (mR 407), some (mI x1), some (mI x2)] [] s Q := Wp_step k262 f262_20 (Wp_step k262 f262_22 ⟨⟨rfl, trivial⟩, h_1⟩)
theorem b262_23 {X : (Nat → Int) × Nat} {d : Nat} {s : mSt} {Q : mQ} {x1 : Int} {x2 : Int} (h_1 : Sp X d 244 [mR 407, mI x1] s (fun r s' => ∃ v : Int, r = some (mI v) ∧ Wp X (d + 1) 262 28 [some (mR 407), some (mI x1), some (mI x2)] [mI v] s' Q)) : Wp X (d + 1) 262 23 [some (mR 407), some (mI x1), some (mI x2)] [] s Q := Wp_step k262 f262_23 (Wp_step k262 f262_24 (Wp_step k262 f262_25 ⟨⟨kf_407, Nat.le_of_ble_eq_true rfl⟩, Nat.le_refl _, _, rfl, Sp_E h_1⟩))
theorem b262_28 {X : (Nat → Int) × Nat} {d : Nat} {s : mSt} {Q : mQ} {x1 : Int} {x2 : Int} {xt0 : Int} (h_1 : ¬ xt0 = 0 → Wp X d 262 34 [some (mR 407), some (mI x1), some (mI x2)] [] s Q) (h_2 : xt0 = 0 → Wp X d 262 31 [some (mR 407), some (mI x1), some (mI x2)] [] s Q) : Wp X d 262 28 [some (mR 407), some (mI x1), some (mI x2)] [mI xt0] s Q := Wp_step k262 f262_28 ⟨h_1, h_2⟩
theorem b262_31 {X : (Nat → Int) × Nat} {d : Nat} {s : mSt} {Q : mQ} {x1 : Int} {x2 : Int} (h_1 : Q (some (mI (-2))) s) : Wp X d 262 31 [some (mR 407), some (mI x1), some (mI x2)] [] s Q := Wp_step k262 f262_31 (Wp_step k262 f262_33 ⟨⟨rfl, trivial⟩, h_1⟩)
theorem b262_34 {X : (Nat → Int) × Nat} {d : Nat} {s : mSt} {Q : mQ} {x1 : Int} {x2 : Int} (h_1 : x2 ≤ 2 → Wp X d 262 51 [some (mR 407), some (mI x1), some (mI x2)] [] s Q) (h_2 : ¬ x2 ≤ 2 → Wp X d 262 39 [some (mR 407), some (mI x1), some (mI x2)] [] s Q) : Wp X d 262 34 [some (mR 407), some (mI x1), some (mI x2)] [] s Q := Wp_step k262 f262_34 (Wp_step k262 f262_35 (Wp_step k262 f262_36 ⟨h_1, h_2⟩))
theorem b262_39 {X : (Nat → Int) × Nat} {d : Nat} {s : mSt} {Q : mQ} {x1 : Int} {x2 : Int} (h_1 : Sp X d 213 [mR 407, mI (w32 (x2 - 3))] s (fun r s' => ∃ v : Int, r = some (mI v) ∧ Wp X (d + 1) 262 46 [some (mR 407), some (mI x1), some (mI x2)] [mI v] s' Q)) : Wp X (d + 1) 262 39 [some (mR 407), some (mI x1), some (mI x2)] [] s Q := Wp_step k262 f262_39 (Wp_step k262 f262_40 (Wp_step k262 f262_41 (Wp_step k262 f262_42 (Wp_step k262 f262_43 ⟨⟨kf_407, Nat.le_of_ble_eq_true rfl⟩, Nat.le_refl _, _, rfl, Sp_E h_1⟩))))
theorem b262_46 {X : (Nat → Int) × Nat} {d : Nat} {s : mSt} {Q : mQ} {x1 : Int} {x2 : Int} {xt0 : Int} (h_1 : ¬ xt0 = 0 → Wp X d 262 51 [some (mR 407), some (mI x1), some (mI x2)] [] s Q) (h_2 : xt0 = 0 → Wp X d 262 49 [some (mR 407), some (mI x1), some (mI x2)] [] s Q) : Wp X d 262 46 [some (mR 407), some (mI x1), some (mI x2)] [mI xt0] s Q := Wp_step k262 f262_46 ⟨h_1, h_2⟩
theorem b262_49 {X : (Nat → Int) × Nat} {d : Nat} {s : mSt} {Q : mQ} {x1 : Int} {x2 : Int} (h_1 : Q (some (mI (-1))) s) : Wp X d 262 49 [some (mR 407), some (mI x1), some (mI x2)] [] s Q := Wp_step k262 f262_49 (Wp_step k262 f262_50 ⟨⟨rfl, trivial⟩, h_1⟩)
theorem b262_51 {X : (Nat → Int) × Nat} {d : Nat} {s : mSt} {Q : mQ} {x1 : Int} {x2 : Int} (h_1 : ¬ x2 = 0 → Wp X d 262 62 [some (mR 407), some (mI x1), some (mI x2)] [] s Q) (h_2 : x2 = 0 → Wp X d 262 55 [some (mR 407), some (mI x1), some (mI x2)] [] s Q) : Wp X d 262 51 [some (mR 407), some (mI x1), some (mI x2)] [] s Q := Wp_step k262 f262_51 (Wp_step k262 f262_52 ⟨h_1, h_2⟩)
theorem b262_55 {X : (Nat → Int) × Nat} {d : Nat} {s : mSt} {Q : mQ} {x1 : Int} {x2 : Int} (h_1 : Wp X d 262 94 [some (mR 407), some (mI x1), some (mI x2)] [mI (s 407 29)] s Q) : Wp X d 262 55 [some (mR 407), some (mI x1), some (mI x2)] [] s Q := Wp_step k262 f262_55 (Wp_step k262 f262_56 ⟨kf_407, Wp_step k262 f262_59 (h_1)⟩)
theorem b262_62 {X : (Nat → Int) × Nat} {d : Nat} {s : mSt} {Q : mQ} {x1 : Int} {x2 : Int} (h_1 : ¬ x2 = 1 → Wp X d 262 74 [some (mR 407), some (mI x1), some (mI x2)] [] s Q) (h_2 : x2 = 1 → Wp X d 262 67 [some (mR 407), some (mI x1), some (mI x2)] [] s Q) : Wp X d 262 62 [some (mR 407), some (mI x1), some (mI x2)] [] s Q := Wp_step k262 f262_62 (Wp_step k262 f262_63 (Wp_step k262 f262_64 ⟨h_1, h_2⟩))
theorem b262_67 {X : (Nat → Int) × Nat} {d : Nat} {s : mSt} {Q : mQ} {x1 : Int} {x2 : Int} (h_1 : Wp X d 262 94 [some (mR 407), some (mI x1), some (mI x2)] [mI (s 407 30)] s Q) : Wp X d 262 67 [some (mR 407), some (mI x1), some (mI x2)] [] s Q := Wp_step k262 f262_67 (Wp_step k262 f262_68 ⟨kf_407, Wp_step k262 f262_71 (h_1)⟩)
theorem b262_74 {X : (Nat → Int) × Nat} {d : Nat} {s : mSt} {Q : mQ} {x1 : Int} {x2 : Int} (h_1 : ¬ x2 = 2 → Wp X d 262 86 [some (mR 407), some (mI x1), some (mI x2)] [] s Q) (h_2 : x2 = 2 → Wp X d 262 79 [some (mR 407), some (mI x1), some (mI x2)] [] s Q) : Wp X d 262 74 [some (mR 407), some (mI x1), some (mI x2)] [] s Q := Wp_step k262 f262_74 (Wp_step k262 f262_75 (Wp_step k262 f262_76 ⟨h_1, h_2⟩))
theorem b262_79 {X : (Nat → Int) × Nat} {d : Nat} {s : mSt} {Q : mQ} {x1 : Int} {x2 : Int} (h_1 : Wp X d 262 94 [some (mR 407), some (mI x1), some (mI x2)] [mI (s 407 31)] s Q) : Wp X d 262 79 [some (mR 407), some (mI x1), some (mI x2)] [] s Q := Wp_step k262 f262_79 (Wp_step k262 f262_80 ⟨kf_407, Wp_step k262 f262_83 (h_1)⟩)
theorem b262_86 {X : (Nat → Int) × Nat} {d : Nat} {s : mSt} {Q : mQ} {x1 : Int} {x2 : Int} (h_1 : 0 ≤ (w32 (x2 - 3)) ∧ (w32 (x2 - 3)) < 5) (h_2 : Wp X d 262 94 [some (mR 407), some (mI x1), some (mI x2)] [mI (s 422 (w32 (x2 - 3)).toNat)] s Q) : Wp X d 262 86 [some (mR 407), some (mI x1), some (mI x2)] [] s Q := Wp_step k262 f262_86 (Wp_step k262 f262_87 ⟨kf_407, 422, rf_407_27, Wp_step k262 f262_90 (Wp_step k262 f262_91 (Wp_step k262 f262_92 (Wp_step k262 f262_93 ⟨5, af_422, h_1, h_2⟩)))⟩)
theorem b262_94 {X : (Nat → Int) × Nat} {d : Nat} {s : mSt} {Q : mQ} {x1 : Int} {x2 : Int} {xt0 : Int} (h_1 : Q (some (mI xt0)) s) : Wp X d 262 94 [some (mR 407), some (mI x1), some (mI x2)] [mI xt0] s Q := Wp_step k262 f262_94 ⟨⟨rfl, trivial⟩, h_1⟩
theorem e262 {X : (Nat → Int) × Nat} {d : Nat} {s : mSt} {Q : mQ} {x1 : Int} {x2 : Int} (h : Wp X d 262 0 [some (mR 407), some (mI x1), some (mI x2)] [] s Q) : Sp X d 262 [mR 407, mI x1, mI x2] s Q := Sp_of (show mCe 262 = 0 by decide +kernel) (by rw [show mML 262 = 3 by decide +kernel]; rfl) (Nat.le_trans (Nat.le_of_ble_eq_true (show Nat.ble (mArgs _).length 3 = true from rfl)) (show 3 ≤ mML 262 by decide +kernel)) h
-- 263 ClashDayModel.orders(I)I
theorem k263 : mRk 263 = 1 := by decide +kernel
theorem f263_0 : mFetch 263 0 = some (.aload_n 0, 1, 0, 0, 0, 0) := by decide +kernel
theorem f263_1 : mFetch 263 1 = some (.iload_n 1, 1, 0, 0, 0, 0) := by decide +kernel
theorem f263_2 : mFetch 263 2 = some (.invokevirtual 328, 3, 215, 0, 2, 12) := by decide +kernel
theorem f263_5 : mFetch 263 5 = some (.ifCond .ne 5, 3, 10, 0, 0, 0) := by decide +kernel
theorem f263_8 : mFetch 263 8 = some (.iconst (-1), 1, 0, 0, 0, 0) := by decide +kernel
theorem f263_9 : mFetch 263 9 = some (.ireturn, 1, 0, 0, 0, 0) := by decide +kernel
theorem f263_10 : mFetch 263 10 = some (.aload_n 0, 1, 0, 0, 0, 0) := by decide +kernel
theorem f263_11 : mFetch 263 11 = some (.iload_n 1, 1, 0, 0, 0, 0) := by decide +kernel
theorem f263_12 : mFetch 263 12 = some (.invokevirtual 420, 3, 244, 0, 2, 12) := by decide +kernel
theorem f263_15 : mFetch 263 15 = some (.pop, 1, 0, 0, 0, 0) := by decide +kernel
theorem f263_16 : mFetch 263 16 = some (.aload_n 0, 1, 0, 0, 0, 0) := by decide +kernel
theorem f263_17 : mFetch 263 17 = some (.getfield 393, 3, 12, 32, 0, 1) := by decide +kernel
theorem f263_20 : mFetch 263 20 = some (.ireturn, 1, 0, 0, 0, 0) := by decide +kernel
theorem b263_0 {X : (Nat → Int) × Nat} {d : Nat} {s : mSt} {Q : mQ} {x1 : Int} (h_1 : Sp X d 215 [mR 407, mI x1] s (fun r s' => ∃ v : Int, r = some (mI v) ∧ Wp X (d + 1) 263 5 [some (mR 407), some (mI x1)] [mI v] s' Q)) : Wp X (d + 1) 263 0 [some (mR 407), some (mI x1)] [] s Q := Wp_step k263 f263_0 (Wp_step k263 f263_1 (Wp_step k263 f263_2 ⟨⟨kf_407, Nat.le_of_ble_eq_true rfl⟩, Nat.le_refl _, _, rfl, Sp_E h_1⟩))
theorem b263_5 {X : (Nat → Int) × Nat} {d : Nat} {s : mSt} {Q : mQ} {x1 : Int} {xt0 : Int} (h_1 : ¬ xt0 = 0 → Wp X d 263 10 [some (mR 407), some (mI x1)] [] s Q) (h_2 : xt0 = 0 → Wp X d 263 8 [some (mR 407), some (mI x1)] [] s Q) : Wp X d 263 5 [some (mR 407), some (mI x1)] [mI xt0] s Q := Wp_step k263 f263_5 ⟨h_1, h_2⟩
theorem b263_8 {X : (Nat → Int) × Nat} {d : Nat} {s : mSt} {Q : mQ} {x1 : Int} (h_1 : Q (some (mI (-1))) s) : Wp X d 263 8 [some (mR 407), some (mI x1)] [] s Q := Wp_step k263 f263_8 (Wp_step k263 f263_9 ⟨⟨rfl, trivial⟩, h_1⟩)
theorem b263_10 {X : (Nat → Int) × Nat} {d : Nat} {s : mSt} {Q : mQ} {x1 : Int} (h_1 : Sp X d 244 [mR 407, mI x1] s (fun r s' => ∃ v : Int, r = some (mI v) ∧ Wp X (d + 1) 263 15 [some (mR 407), some (mI x1)] [mI v] s' Q)) : Wp X (d + 1) 263 10 [some (mR 407), some (mI x1)] [] s Q := Wp_step k263 f263_10 (Wp_step k263 f263_11 (Wp_step k263 f263_12 ⟨⟨kf_407, Nat.le_of_ble_eq_true rfl⟩, Nat.le_refl _, _, rfl, Sp_E h_1⟩))
theorem b263_15 {X : (Nat → Int) × Nat} {d : Nat} {s : mSt} {Q : mQ} {x1 : Int} {xt0 : Int} (h_1 : Q (some (mI (s 407 32))) s) : Wp X d 263 15 [some (mR 407), some (mI x1)] [mI xt0] s Q := Wp_step k263 f263_15 (Wp_step k263 f263_16 (Wp_step k263 f263_17 ⟨kf_407, Wp_step k263 f263_20 ⟨⟨rfl, trivial⟩, h_1⟩⟩))
theorem e263 {X : (Nat → Int) × Nat} {d : Nat} {s : mSt} {Q : mQ} {x1 : Int} (h : Wp X d 263 0 [some (mR 407), some (mI x1)] [] s Q) : Sp X d 263 [mR 407, mI x1] s Q := Sp_of (show mCe 263 = 0 by decide +kernel) (by rw [show mML 263 = 2 by decide +kernel]; rfl) (Nat.le_trans (Nat.le_of_ble_eq_true (show Nat.ble (mArgs _).length 2 = true from rfl)) (show 2 ≤ mML 263 by decide +kernel)) h
-- 264 ClashDayModel.clash(II)I
theorem k264 : mRk 264 = 1 := by decide +kernel
theorem f264_0 : mFetch 264 0 = some (.aload_n 0, 1, 0, 0, 0, 0) := by decide +kernel
theorem f264_1 : mFetch 264 1 = some (.iload_n 1, 1, 0, 0, 0, 0) := by decide +kernel
theorem f264_2 : mFetch 264 2 = some (.invokevirtual 328, 3, 215, 0, 2, 12) := by decide +kernel
theorem f264_5 : mFetch 264 5 = some (.ifCond .eq 13, 3, 18, 0, 0, 0) := by decide +kernel
theorem f264_8 : mFetch 264 8 = some (.iload_n 2, 1, 0, 0, 0, 0) := by decide +kernel
theorem f264_9 : mFetch 264 9 = some (.i2l, 1, 0, 0, 0, 0) := by decide +kernel
theorem f264_10 : mFetch 264 10 = some (.lconst 0, 1, 0, 0, 0, 0) := by decide +kernel
theorem f264_11 : mFetch 264 11 = some (.lconst 1, 1, 0, 0, 0, 0) := by decide +kernel
theorem f264_12 : mFetch 264 12 = some (.invokestatic 151, 3, 167, 0, 3, 99) := by decide +kernel
theorem f264_15 : mFetch 264 15 = some (.ifCond .ne 5, 3, 20, 0, 0, 0) := by decide +kernel
theorem f264_18 : mFetch 264 18 = some (.iconst (-1), 1, 0, 0, 0, 0) := by decide +kernel
theorem f264_19 : mFetch 264 19 = some (.ireturn, 1, 0, 0, 0, 0) := by decide +kernel
theorem f264_20 : mFetch 264 20 = some (.aload_n 0, 1, 0, 0, 0, 0) := by decide +kernel
theorem f264_21 : mFetch 264 21 = some (.iload_n 1, 1, 0, 0, 0, 0) := by decide +kernel
theorem f264_22 : mFetch 264 22 = some (.invokevirtual 420, 3, 244, 0, 2, 12) := by decide +kernel
theorem f264_25 : mFetch 264 25 = some (.ifCond .eq 6, 3, 31, 0, 0, 0) := by decide +kernel
theorem f264_28 : mFetch 264 28 = some (.bipush (-2), 2, 0, 0, 0, 0) := by decide +kernel
theorem f264_30 : mFetch 264 30 = some (.ireturn, 1, 0, 0, 0, 0) := by decide +kernel
theorem f264_31 : mFetch 264 31 = some (.aload_n 0, 1, 0, 0, 0, 0) := by decide +kernel
theorem f264_32 : mFetch 264 32 = some (.getfield 39, 3, 12, 20, 2, 1) := by decide +kernel
theorem f264_35 : mFetch 264 35 = some (.bipush 117, 2, 0, 0, 0, 0) := by decide +kernel
theorem f264_37 : mFetch 264 37 = some (.iload_n 1, 1, 0, 0, 0, 0) := by decide +kernel
theorem f264_38 : mFetch 264 38 = some (.iadd, 1, 0, 0, 0, 0) := by decide +kernel
theorem f264_39 : mFetch 264 39 = some (.iaload, 1, 0, 0, 0, 0) := by decide +kernel
theorem f264_40 : mFetch 264 40 = some (.istore_n 3, 1, 0, 0, 0, 0) := by decide +kernel
theorem f264_41 : mFetch 264 41 = some (.iload_n 3, 1, 0, 0, 0, 0) := by decide +kernel
theorem f264_42 : mFetch 264 42 = some (.istore 4, 2, 0, 0, 0, 0) := by decide +kernel
theorem f264_44 : mFetch 264 44 = some (.iconst 1, 1, 0, 0, 0, 0) := by decide +kernel
theorem f264_45 : mFetch 264 45 = some (.istore 5, 2, 0, 0, 0, 0) := by decide +kernel
theorem f264_47 : mFetch 264 47 = some (.iload 5, 2, 0, 0, 0, 0) := by decide +kernel
theorem f264_49 : mFetch 264 49 = some (.iload_n 3, 1, 0, 0, 0, 0) := by decide +kernel
theorem f264_50 : mFetch 264 50 = some (.if_icmp .ge 48, 3, 98, 0, 0, 0) := by decide +kernel
theorem f264_53 : mFetch 264 53 = some (.iload 5, 2, 0, 0, 0, 0) := by decide +kernel
theorem f264_55 : mFetch 264 55 = some (.iload_n 3, 1, 0, 0, 0, 0) := by decide +kernel
theorem f264_56 : mFetch 264 56 = some (.iconst (-1), 1, 0, 0, 0, 0) := by decide +kernel
theorem f264_57 : mFetch 264 57 = some (.ixor, 1, 0, 0, 0, 0) := by decide +kernel
theorem f264_58 : mFetch 264 58 = some (.iand, 1, 0, 0, 0, 0) := by decide +kernel
theorem f264_59 : mFetch 264 59 = some (.ifCond .ne 33, 3, 92, 0, 0, 0) := by decide +kernel
theorem f264_62 : mFetch 264 62 = some (.iload 5, 2, 0, 0, 0, 0) := by decide +kernel
theorem f264_64 : mFetch 264 64 = some (.invokestatic 427, 3, 169, 0, 1, 99) := by decide +kernel
theorem f264_67 : mFetch 264 67 = some (.iload 4, 2, 0, 0, 0, 0) := by decide +kernel
theorem f264_69 : mFetch 264 69 = some (.invokestatic 427, 3, 169, 0, 1, 99) := by decide +kernel
theorem f264_72 : mFetch 264 72 = some (.if_icmp .ge 20, 3, 92, 0, 0, 0) := by decide +kernel
theorem f264_75 : mFetch 264 75 = some (.aload_n 0, 1, 0, 0, 0, 0) := by decide +kernel
theorem f264_76 : mFetch 264 76 = some (.iload_n 1, 1, 0, 0, 0, 0) := by decide +kernel
theorem f264_77 : mFetch 264 77 = some (.iload 5, 2, 0, 0, 0, 0) := by decide +kernel
theorem f264_79 : mFetch 264 79 = some (.invokevirtual 417, 3, 243, 0, 3, 12) := by decide +kernel
theorem f264_82 : mFetch 264 82 = some (.ifCond .eq 6, 3, 88, 0, 0, 0) := by decide +kernel
theorem f264_85 : mFetch 264 85 = some (.goto 7, 3, 92, 0, 0, 0) := by decide +kernel
theorem f264_88 : mFetch 264 88 = some (.iload 5, 2, 0, 0, 0, 0) := by decide +kernel
theorem f264_90 : mFetch 264 90 = some (.istore 4, 2, 0, 0, 0, 0) := by decide +kernel
theorem f264_92 : mFetch 264 92 = some (.iinc 5 1, 3, 0, 0, 0, 0) := by decide +kernel
theorem f264_95 : mFetch 264 95 = some (.goto (-48), 3, 47, 0, 0, 0) := by decide +kernel
theorem f264_98 : mFetch 264 98 = some (.iload_n 2, 1, 0, 0, 0, 0) := by decide +kernel
theorem f264_99 : mFetch 264 99 = some (.ifCond .ne 11, 3, 110, 0, 0, 0) := by decide +kernel
theorem f264_102 : mFetch 264 102 = some (.iload 4, 2, 0, 0, 0, 0) := by decide +kernel
theorem f264_104 : mFetch 264 104 = some (.invokestatic 427, 3, 169, 0, 1, 99) := by decide +kernel
theorem f264_107 : mFetch 264 107 = some (.goto 5, 3, 112, 0, 0, 0) := by decide +kernel
theorem f264_110 : mFetch 264 110 = some (.iload 4, 2, 0, 0, 0, 0) := by decide +kernel
theorem f264_112 : mFetch 264 112 = some (.ireturn, 1, 0, 0, 0, 0) := by decide +kernel
theorem b264_0 {X : (Nat → Int) × Nat} {d : Nat} {s : mSt} {Q : mQ} {x1 : Int} {x2 : Int} {l3 : Option mV} {l4 : Option mV} {l5 : Option mV} (h_1 : Sp X d 215 [mR 407, mI x1] s (fun r s' => ∃ v : Int, r = some (mI v) ∧ Wp X (d + 1) 264 5 [some (mR 407), some (mI x1), some (mI x2), l3, l4, l5] [mI v] s' Q)) : Wp X (d + 1) 264 0 [some (mR 407), some (mI x1), some (mI x2), l3, l4, l5] [] s Q := Wp_step k264 f264_0 (Wp_step k264 f264_1 (Wp_step k264 f264_2 ⟨⟨kf_407, Nat.le_of_ble_eq_true rfl⟩, Nat.le_refl _, _, rfl, Sp_E h_1⟩))
theorem b264_5 {X : (Nat → Int) × Nat} {d : Nat} {s : mSt} {Q : mQ} {x1 : Int} {x2 : Int} {l3 : Option mV} {l4 : Option mV} {l5 : Option mV} {xt0 : Int} (h_1 : xt0 = 0 → Wp X d 264 18 [some (mR 407), some (mI x1), some (mI x2), l3, l4, l5] [] s Q) (h_2 : ¬ xt0 = 0 → Wp X d 264 8 [some (mR 407), some (mI x1), some (mI x2), l3, l4, l5] [] s Q) : Wp X d 264 5 [some (mR 407), some (mI x1), some (mI x2), l3, l4, l5] [mI xt0] s Q := Wp_step k264 f264_5 ⟨h_1, h_2⟩
theorem b264_8 {X : (Nat → Int) × Nat} {d : Nat} {s : mSt} {Q : mQ} {x1 : Int} {x2 : Int} {l3 : Option mV} {l4 : Option mV} {l5 : Option mV} (h_1 : Sp X d 167 [mJ x2, mJ 0, mJ 1] s (fun r s' => ∃ v : Int, r = some (mI v) ∧ Wp X (d + 1) 264 15 [some (mR 407), some (mI x1), some (mI x2), l3, l4, l5] [mI v] s' Q)) : Wp X (d + 1) 264 8 [some (mR 407), some (mI x1), some (mI x2), l3, l4, l5] [] s Q := Wp_step k264 f264_8 (Wp_step k264 f264_9 (Wp_step k264 f264_10 (Wp_step k264 f264_11 (Wp_step k264 f264_12 ⟨⟨Nat.le_of_ble_eq_true rfl, Nat.le_refl _⟩, _, rfl, Sp_E h_1⟩))))
theorem b264_15 {X : (Nat → Int) × Nat} {d : Nat} {s : mSt} {Q : mQ} {x1 : Int} {x2 : Int} {l3 : Option mV} {l4 : Option mV} {l5 : Option mV} {xt0 : Int} (h_1 : ¬ xt0 = 0 → Wp X d 264 20 [some (mR 407), some (mI x1), some (mI x2), l3, l4, l5] [] s Q) (h_2 : xt0 = 0 → Wp X d 264 18 [some (mR 407), some (mI x1), some (mI x2), l3, l4, l5] [] s Q) : Wp X d 264 15 [some (mR 407), some (mI x1), some (mI x2), l3, l4, l5] [mI xt0] s Q := Wp_step k264 f264_15 ⟨h_1, h_2⟩
theorem b264_18 {X : (Nat → Int) × Nat} {d : Nat} {s : mSt} {Q : mQ} {x1 : Int} {x2 : Int} {l3 : Option mV} {l4 : Option mV} {l5 : Option mV} (h_1 : Q (some (mI (-1))) s) : Wp X d 264 18 [some (mR 407), some (mI x1), some (mI x2), l3, l4, l5] [] s Q := Wp_step k264 f264_18 (Wp_step k264 f264_19 ⟨⟨rfl, trivial⟩, h_1⟩)
theorem b264_20 {X : (Nat → Int) × Nat} {d : Nat} {s : mSt} {Q : mQ} {x1 : Int} {x2 : Int} {l3 : Option mV} {l4 : Option mV} {l5 : Option mV} (h_1 : Sp X d 244 [mR 407, mI x1] s (fun r s' => ∃ v : Int, r = some (mI v) ∧ Wp X (d + 1) 264 25 [some (mR 407), some (mI x1), some (mI x2), l3, l4, l5] [mI v] s' Q)) : Wp X (d + 1) 264 20 [some (mR 407), some (mI x1), some (mI x2), l3, l4, l5] [] s Q := Wp_step k264 f264_20 (Wp_step k264 f264_21 (Wp_step k264 f264_22 ⟨⟨kf_407, Nat.le_of_ble_eq_true rfl⟩, Nat.le_refl _, _, rfl, Sp_E h_1⟩))
theorem b264_25 {X : (Nat → Int) × Nat} {d : Nat} {s : mSt} {Q : mQ} {x1 : Int} {x2 : Int} {l3 : Option mV} {l4 : Option mV} {l5 : Option mV} {xt0 : Int} (h_1 : xt0 = 0 → Wp X d 264 31 [some (mR 407), some (mI x1), some (mI x2), l3, l4, l5] [] s Q) (h_2 : ¬ xt0 = 0 → Wp X d 264 28 [some (mR 407), some (mI x1), some (mI x2), l3, l4, l5] [] s Q) : Wp X d 264 25 [some (mR 407), some (mI x1), some (mI x2), l3, l4, l5] [mI xt0] s Q := Wp_step k264 f264_25 ⟨h_1, h_2⟩
theorem b264_28 {X : (Nat → Int) × Nat} {d : Nat} {s : mSt} {Q : mQ} {x1 : Int} {x2 : Int} {l3 : Option mV} {l4 : Option mV} {l5 : Option mV} (h_1 : Q (some (mI (-2))) s) : Wp X d 264 28 [some (mR 407), some (mI x1), some (mI x2), l3, l4, l5] [] s Q := Wp_step k264 f264_28 (Wp_step k264 f264_30 ⟨⟨rfl, trivial⟩, h_1⟩)
theorem b264_31 {X : (Nat → Int) × Nat} {d : Nat} {s : mSt} {Q : mQ} {x1 : Int} {x2 : Int} {l3 : Option mV} {l4 : Option mV} {l5 : Option mV} (h_1 : 0 ≤ (w32 (117 + x1)) ∧ (w32 (117 + x1)) < 166) (h_2 : Wp X d 264 47 [some (mR 407), some (mI x1), some (mI x2), some (mI (s 417 (w32 (117 + x1)).toNat)), some (mI (s 417 (w32 (117 + x1)).toNat)), some (mI 1)] [] s Q) : Wp X d 264 31 [some (mR 407), some (mI x1), some (mI x2), l3, l4, l5] [] s Q := Wp_step k264 f264_31 (Wp_step k264 f264_32 ⟨kf_407, 417, rf_407_20, Wp_step k264 f264_35 (Wp_step k264 f264_37 (Wp_step k264 f264_38 (Wp_step k264 f264_39 ⟨166, af_417, h_1, Wp_step k264 f264_40 (Wp_step k264 f264_41 (Wp_step k264 f264_42 (Wp_step k264 f264_44 (Wp_step k264 f264_45 (h_2)))))⟩)))⟩)
theorem b264_47 {X : (Nat → Int) × Nat} {d : Nat} {s : mSt} {Q : mQ} {x1 : Int} {x2 : Int} {x3 : Int} {x4 : Int} {x5 : Int} (h_1 : x3 ≤ x5 → Wp X d 264 98 [some (mR 407), some (mI x1), some (mI x2), some (mI x3), some (mI x4), some (mI x5)] [] s Q) (h_2 : ¬ x3 ≤ x5 → Wp X d 264 53 [some (mR 407), some (mI x1), some (mI x2), some (mI x3), some (mI x4), some (mI x5)] [] s Q) : Wp X d 264 47 [some (mR 407), some (mI x1), some (mI x2), some (mI x3), some (mI x4), some (mI x5)] [] s Q := Wp_step k264 f264_47 (Wp_step k264 f264_49 (Wp_step k264 f264_50 ⟨h_1, h_2⟩))
theorem b264_53 {X : (Nat → Int) × Nat} {d : Nat} {s : mSt} {Q : mQ} {x1 : Int} {x2 : Int} {x3 : Int} {x4 : Int} {x5 : Int} (h_1 : ¬ (iAnd x5 (iXor x3 (-1))) = 0 → Wp X d 264 92 [some (mR 407), some (mI x1), some (mI x2), some (mI x3), some (mI x4), some (mI x5)] [] s Q) (h_2 : (iAnd x5 (iXor x3 (-1))) = 0 → Wp X d 264 62 [some (mR 407), some (mI x1), some (mI x2), some (mI x3), some (mI x4), some (mI x5)] [] s Q) : Wp X d 264 53 [some (mR 407), some (mI x1), some (mI x2), some (mI x3), some (mI x4), some (mI x5)] [] s Q := Wp_step k264 f264_53 (Wp_step k264 f264_55 (Wp_step k264 f264_56 (Wp_step k264 f264_57 (Wp_step k264 f264_58 (Wp_step k264 f264_59 ⟨h_1, h_2⟩)))))
theorem b264_62 {X : (Nat → Int) × Nat} {d : Nat} {s : mSt} {Q : mQ} {x1 : Int} {x2 : Int} {x3 : Int} {x4 : Int} {x5 : Int} (h_1 : Sp X d 169 [mI x5] s (fun r s' => ∃ v : Int, r = some (mI v) ∧ Wp X (d + 1) 264 67 [some (mR 407), some (mI x1), some (mI x2), some (mI x3), some (mI x4), some (mI x5)] [mI v] s' Q)) : Wp X (d + 1) 264 62 [some (mR 407), some (mI x1), some (mI x2), some (mI x3), some (mI x4), some (mI x5)] [] s Q := Wp_step k264 f264_62 (Wp_step k264 f264_64 ⟨⟨Nat.le_of_ble_eq_true rfl, Nat.le_refl _⟩, _, rfl, Sp_E h_1⟩)
theorem b264_67 {X : (Nat → Int) × Nat} {d : Nat} {s : mSt} {Q : mQ} {x1 : Int} {x2 : Int} {x3 : Int} {x4 : Int} {x5 : Int} {xt0 : Int} (h_1 : Sp X d 169 [mI x4] s (fun r s' => ∃ v : Int, r = some (mI v) ∧ Wp X (d + 1) 264 72 [some (mR 407), some (mI x1), some (mI x2), some (mI x3), some (mI x4), some (mI x5)] [mI v, mI xt0] s' Q)) : Wp X (d + 1) 264 67 [some (mR 407), some (mI x1), some (mI x2), some (mI x3), some (mI x4), some (mI x5)] [mI xt0] s Q := Wp_step k264 f264_67 (Wp_step k264 f264_69 ⟨⟨Nat.le_of_ble_eq_true rfl, Nat.le_refl _⟩, _, rfl, Sp_E h_1⟩)
theorem b264_72 {X : (Nat → Int) × Nat} {d : Nat} {s : mSt} {Q : mQ} {x1 : Int} {x2 : Int} {x3 : Int} {x4 : Int} {x5 : Int} {xt0 : Int} {xt1 : Int} (h_1 : xt1 ≤ xt0 → Wp X d 264 92 [some (mR 407), some (mI x1), some (mI x2), some (mI x3), some (mI x4), some (mI x5)] [] s Q) (h_2 : ¬ xt1 ≤ xt0 → Wp X d 264 75 [some (mR 407), some (mI x1), some (mI x2), some (mI x3), some (mI x4), some (mI x5)] [] s Q) : Wp X d 264 72 [some (mR 407), some (mI x1), some (mI x2), some (mI x3), some (mI x4), some (mI x5)] [mI xt1, mI xt0] s Q := Wp_step k264 f264_72 ⟨h_1, h_2⟩
theorem b264_75 {X : (Nat → Int) × Nat} {d : Nat} {s : mSt} {Q : mQ} {x1 : Int} {x2 : Int} {x3 : Int} {x4 : Int} {x5 : Int} (h_1 : Sp X d 243 [mR 407, mI x1, mI x5] s (fun r s' => ∃ v : Int, r = some (mI v) ∧ Wp X (d + 1) 264 82 [some (mR 407), some (mI x1), some (mI x2), some (mI x3), some (mI x4), some (mI x5)] [mI v] s' Q)) : Wp X (d + 1) 264 75 [some (mR 407), some (mI x1), some (mI x2), some (mI x3), some (mI x4), some (mI x5)] [] s Q := Wp_step k264 f264_75 (Wp_step k264 f264_76 (Wp_step k264 f264_77 (Wp_step k264 f264_79 ⟨⟨kf_407, Nat.le_of_ble_eq_true rfl⟩, Nat.le_refl _, _, rfl, Sp_E h_1⟩)))
theorem b264_82 {X : (Nat → Int) × Nat} {d : Nat} {s : mSt} {Q : mQ} {x1 : Int} {x2 : Int} {x3 : Int} {x4 : Int} {x5 : Int} {xt0 : Int} (h_1 : xt0 = 0 → Wp X d 264 88 [some (mR 407), some (mI x1), some (mI x2), some (mI x3), some (mI x4), some (mI x5)] [] s Q) (h_2 : ¬ xt0 = 0 → Wp X d 264 85 [some (mR 407), some (mI x1), some (mI x2), some (mI x3), some (mI x4), some (mI x5)] [] s Q) : Wp X d 264 82 [some (mR 407), some (mI x1), some (mI x2), some (mI x3), some (mI x4), some (mI x5)] [mI xt0] s Q := Wp_step k264 f264_82 ⟨h_1, h_2⟩
theorem b264_85 {X : (Nat → Int) × Nat} {d : Nat} {s : mSt} {Q : mQ} {x1 : Int} {x2 : Int} {x3 : Int} {x4 : Int} {x5 : Int} (h_1 : Wp X d 264 92 [some (mR 407), some (mI x1), some (mI x2), some (mI x3), some (mI x4), some (mI x5)] [] s Q) : Wp X d 264 85 [some (mR 407), some (mI x1), some (mI x2), some (mI x3), some (mI x4), some (mI x5)] [] s Q := Wp_step k264 f264_85 (h_1)
theorem b264_88 {X : (Nat → Int) × Nat} {d : Nat} {s : mSt} {Q : mQ} {x1 : Int} {x2 : Int} {x3 : Int} {x4 : Int} {x5 : Int} (h_1 : Wp X d 264 92 [some (mR 407), some (mI x1), some (mI x2), some (mI x3), some (mI x5), some (mI x5)] [] s Q) : Wp X d 264 88 [some (mR 407), some (mI x1), some (mI x2), some (mI x3), some (mI x4), some (mI x5)] [] s Q := Wp_step k264 f264_88 (Wp_step k264 f264_90 (h_1))
theorem b264_92 {X : (Nat → Int) × Nat} {d : Nat} {s : mSt} {Q : mQ} {x1 : Int} {x2 : Int} {x3 : Int} {x4 : Int} {x5 : Int} (h_1 : Wp X d 264 47 [some (mR 407), some (mI x1), some (mI x2), some (mI x3), some (mI x4), some (mI (w32 (x5 + 1)))] [] s Q) : Wp X d 264 92 [some (mR 407), some (mI x1), some (mI x2), some (mI x3), some (mI x4), some (mI x5)] [] s Q := Wp_step k264 f264_92 (Wp_step k264 f264_95 (h_1))
theorem b264_98 {X : (Nat → Int) × Nat} {d : Nat} {s : mSt} {Q : mQ} {x1 : Int} {x2 : Int} {x3 : Int} {x4 : Int} {x5 : Int} (h_1 : ¬ x2 = 0 → Wp X d 264 110 [some (mR 407), some (mI x1), some (mI x2), some (mI x3), some (mI x4), some (mI x5)] [] s Q) (h_2 : x2 = 0 → Wp X d 264 102 [some (mR 407), some (mI x1), some (mI x2), some (mI x3), some (mI x4), some (mI x5)] [] s Q) : Wp X d 264 98 [some (mR 407), some (mI x1), some (mI x2), some (mI x3), some (mI x4), some (mI x5)] [] s Q := Wp_step k264 f264_98 (Wp_step k264 f264_99 ⟨h_1, h_2⟩)
theorem b264_102 {X : (Nat → Int) × Nat} {d : Nat} {s : mSt} {Q : mQ} {x1 : Int} {x2 : Int} {x3 : Int} {x4 : Int} {x5 : Int} (h_1 : Sp X d 169 [mI x4] s (fun r s' => ∃ v : Int, r = some (mI v) ∧ Wp X (d + 1) 264 107 [some (mR 407), some (mI x1), some (mI x2), some (mI x3), some (mI x4), some (mI x5)] [mI v] s' Q)) : Wp X (d + 1) 264 102 [some (mR 407), some (mI x1), some (mI x2), some (mI x3), some (mI x4), some (mI x5)] [] s Q := Wp_step k264 f264_102 (Wp_step k264 f264_104 ⟨⟨Nat.le_of_ble_eq_true rfl, Nat.le_refl _⟩, _, rfl, Sp_E h_1⟩)
theorem b264_107 {X : (Nat → Int) × Nat} {d : Nat} {s : mSt} {Q : mQ} {x1 : Int} {x2 : Int} {x3 : Int} {x4 : Int} {x5 : Int} {xt0 : Int} (h_1 : Wp X d 264 112 [some (mR 407), some (mI x1), some (mI x2), some (mI x3), some (mI x4), some (mI x5)] [mI xt0] s Q) : Wp X d 264 107 [some (mR 407), some (mI x1), some (mI x2), some (mI x3), some (mI x4), some (mI x5)] [mI xt0] s Q := Wp_step k264 f264_107 (h_1)
theorem b264_110 {X : (Nat → Int) × Nat} {d : Nat} {s : mSt} {Q : mQ} {x1 : Int} {x2 : Int} {x3 : Int} {x4 : Int} {x5 : Int} (h_1 : Wp X d 264 112 [some (mR 407), some (mI x1), some (mI x2), some (mI x3), some (mI x4), some (mI x5)] [mI x4] s Q) : Wp X d 264 110 [some (mR 407), some (mI x1), some (mI x2), some (mI x3), some (mI x4), some (mI x5)] [] s Q := Wp_step k264 f264_110 (h_1)
theorem b264_112 {X : (Nat → Int) × Nat} {d : Nat} {s : mSt} {Q : mQ} {x1 : Int} {x2 : Int} {x3 : Int} {x4 : Int} {x5 : Int} {xt0 : Int} (h_1 : Q (some (mI xt0)) s) : Wp X d 264 112 [some (mR 407), some (mI x1), some (mI x2), some (mI x3), some (mI x4), some (mI x5)] [mI xt0] s Q := Wp_step k264 f264_112 ⟨⟨rfl, trivial⟩, h_1⟩
theorem e264 {X : (Nat → Int) × Nat} {d : Nat} {s : mSt} {Q : mQ} {x1 : Int} {x2 : Int} (h : Wp X d 264 0 [some (mR 407), some (mI x1), some (mI x2), none, none, none] [] s Q) : Sp X d 264 [mR 407, mI x1, mI x2] s Q := Sp_of (show mCe 264 = 0 by decide +kernel) (by rw [show mML 264 = 6 by decide +kernel]; rfl) (Nat.le_trans (Nat.le_of_ble_eq_true (show Nat.ble (mArgs _).length 6 = true from rfl)) (show 6 ≤ mML 264 by decide +kernel)) h
-- 265 ClashDayModel.signOf(II)I
theorem k265 : mRk 265 = 1 := by decide +kernel
theorem f265_0 : mFetch 265 0 = some (.aload_n 0, 1, 0, 0, 0, 0) := by decide +kernel
theorem f265_1 : mFetch 265 1 = some (.iload_n 1, 1, 0, 0, 0, 0) := by decide +kernel
theorem f265_2 : mFetch 265 2 = some (.iload_n 2, 1, 0, 0, 0, 0) := by decide +kernel
theorem f265_3 : mFetch 265 3 = some (.invokevirtual 337, 3, 222, 0, 3, 12) := by decide +kernel
theorem f265_6 : mFetch 265 6 = some (.istore_n 3, 1, 0, 0, 0, 0) := by decide +kernel
theorem f265_7 : mFetch 265 7 = some (.iload_n 3, 1, 0, 0, 0, 0) := by decide +kernel
theorem f265_8 : mFetch 265 8 = some (.ifCond .lt 10, 3, 18, 0, 0, 0) := by decide +kernel
theorem f265_11 : mFetch 265 11 = some (.bipush 65, 2, 0, 0, 0, 0) := by decide +kernel
theorem f265_13 : mFetch 265 13 = some (.iload_n 3, 1, 0, 0, 0, 0) := by decide +kernel
theorem f265_14 : mFetch 265 14 = some (.iadd, 1, 0, 0, 0, 0) := by decide +kernel
theorem f265_15 : mFetch 265 15 = some (.goto 19, 3, 34, 0, 0, 0) := by decide +kernel
theorem f265_18 : mFetch 265 18 = some (.aload_n 0, 1, 0, 0, 0, 0) := by decide +kernel
theorem f265_19 : mFetch 265 19 = some (.iload_n 1, 1, 0, 0, 0, 0) := by decide +kernel
theorem f265_20 : mFetch 265 20 = some (.iload_n 2, 1, 0, 0, 0, 0) := by decide +kernel
theorem f265_21 : mFetch 265 21 = some (.invokevirtual 340, 3, 224, 0, 3, 12) := by decide +kernel
theorem f265_24 : mFetch 265 24 = some (.ifCond .eq 8, 3, 32, 0, 0, 0) := by decide +kernel
theorem f265_27 : mFetch 265 27 = some (.bipush 107, 2, 0, 0, 0, 0) := by decide +kernel
theorem f265_29 : mFetch 265 29 = some (.goto 5, 3, 34, 0, 0, 0) := by decide +kernel
theorem f265_32 : mFetch 265 32 = some (.bipush 46, 2, 0, 0, 0, 0) := by decide +kernel
theorem f265_34 : mFetch 265 34 = some (.ireturn, 1, 0, 0, 0, 0) := by decide +kernel
theorem b265_0 {X : (Nat → Int) × Nat} {d : Nat} {s : mSt} {Q : mQ} {x1 : Int} {x2 : Int} {l3 : Option mV} (h_1 : Sp X d 222 [mR 407, mI x1, mI x2] s (fun r s' => ∃ v : Int, r = some (mI v) ∧ Wp X (d + 1) 265 6 [some (mR 407), some (mI x1), some (mI x2), l3] [mI v] s' Q)) : Wp X (d + 1) 265 0 [some (mR 407), some (mI x1), some (mI x2), l3] [] s Q := Wp_step k265 f265_0 (Wp_step k265 f265_1 (Wp_step k265 f265_2 (Wp_step k265 f265_3 ⟨⟨kf_407, Nat.le_of_ble_eq_true rfl⟩, Nat.le_refl _, _, rfl, Sp_E h_1⟩)))
theorem b265_6 {X : (Nat → Int) × Nat} {d : Nat} {s : mSt} {Q : mQ} {x1 : Int} {x2 : Int} {l3 : Option mV} {xt0 : Int} (h_1 : xt0 < 0 → Wp X d 265 18 [some (mR 407), some (mI x1), some (mI x2), some (mI xt0)] [] s Q) (h_2 : ¬ xt0 < 0 → Wp X d 265 11 [some (mR 407), some (mI x1), some (mI x2), some (mI xt0)] [] s Q) : Wp X d 265 6 [some (mR 407), some (mI x1), some (mI x2), l3] [mI xt0] s Q := Wp_step k265 f265_6 (Wp_step k265 f265_7 (Wp_step k265 f265_8 ⟨h_1, h_2⟩))
theorem b265_11 {X : (Nat → Int) × Nat} {d : Nat} {s : mSt} {Q : mQ} {x1 : Int} {x2 : Int} {x3 : Int} (h_1 : Wp X d 265 34 [some (mR 407), some (mI x1), some (mI x2), some (mI x3)] [mI (w32 (65 + x3))] s Q) : Wp X d 265 11 [some (mR 407), some (mI x1), some (mI x2), some (mI x3)] [] s Q := Wp_step k265 f265_11 (Wp_step k265 f265_13 (Wp_step k265 f265_14 (Wp_step k265 f265_15 (h_1))))
theorem b265_18 {X : (Nat → Int) × Nat} {d : Nat} {s : mSt} {Q : mQ} {x1 : Int} {x2 : Int} {x3 : Int} (h_1 : Sp X d 224 [mR 407, mI x1, mI x2] s (fun r s' => ∃ v : Int, r = some (mI v) ∧ Wp X (d + 1) 265 24 [some (mR 407), some (mI x1), some (mI x2), some (mI x3)] [mI v] s' Q)) : Wp X (d + 1) 265 18 [some (mR 407), some (mI x1), some (mI x2), some (mI x3)] [] s Q := Wp_step k265 f265_18 (Wp_step k265 f265_19 (Wp_step k265 f265_20 (Wp_step k265 f265_21 ⟨⟨kf_407, Nat.le_of_ble_eq_true rfl⟩, Nat.le_refl _, _, rfl, Sp_E h_1⟩)))
theorem b265_24 {X : (Nat → Int) × Nat} {d : Nat} {s : mSt} {Q : mQ} {x1 : Int} {x2 : Int} {x3 : Int} {xt0 : Int} (h_1 : xt0 = 0 → Wp X d 265 32 [some (mR 407), some (mI x1), some (mI x2), some (mI x3)] [] s Q) (h_2 : ¬ xt0 = 0 → Wp X d 265 27 [some (mR 407), some (mI x1), some (mI x2), some (mI x3)] [] s Q) : Wp X d 265 24 [some (mR 407), some (mI x1), some (mI x2), some (mI x3)] [mI xt0] s Q := Wp_step k265 f265_24 ⟨h_1, h_2⟩
theorem b265_27 {X : (Nat → Int) × Nat} {d : Nat} {s : mSt} {Q : mQ} {x1 : Int} {x2 : Int} {x3 : Int} (h_1 : Wp X d 265 34 [some (mR 407), some (mI x1), some (mI x2), some (mI x3)] [mI 107] s Q) : Wp X d 265 27 [some (mR 407), some (mI x1), some (mI x2), some (mI x3)] [] s Q := Wp_step k265 f265_27 (Wp_step k265 f265_29 (h_1))
theorem b265_32 {X : (Nat → Int) × Nat} {d : Nat} {s : mSt} {Q : mQ} {x1 : Int} {x2 : Int} {x3 : Int} (h_1 : Wp X d 265 34 [some (mR 407), some (mI x1), some (mI x2), some (mI x3)] [mI 46] s Q) : Wp X d 265 32 [some (mR 407), some (mI x1), some (mI x2), some (mI x3)] [] s Q := Wp_step k265 f265_32 (h_1)
theorem b265_34 {X : (Nat → Int) × Nat} {d : Nat} {s : mSt} {Q : mQ} {x1 : Int} {x2 : Int} {x3 : Int} {xt0 : Int} (h_1 : Q (some (mI xt0)) s) : Wp X d 265 34 [some (mR 407), some (mI x1), some (mI x2), some (mI x3)] [mI xt0] s Q := Wp_step k265 f265_34 ⟨⟨rfl, trivial⟩, h_1⟩
theorem e265 {X : (Nat → Int) × Nat} {d : Nat} {s : mSt} {Q : mQ} {x1 : Int} {x2 : Int} (h : Wp X d 265 0 [some (mR 407), some (mI x1), some (mI x2), none] [] s Q) : Sp X d 265 [mR 407, mI x1, mI x2] s Q := Sp_of (show mCe 265 = 0 by decide +kernel) (by rw [show mML 265 = 4 by decide +kernel]; rfl) (Nat.le_trans (Nat.le_of_ble_eq_true (show Nat.ble (mArgs _).length 4 = true from rfl)) (show 4 ≤ mML 265 by decide +kernel)) h
-- 266 ClashDayModel.line(II)I
theorem k266 : mRk 266 = 1 := by decide +kernel
theorem f266_0 : mFetch 266 0 = some (.aload_n 0, 1, 0, 0, 0, 0) := by decide +kernel
theorem f266_1 : mFetch 266 1 = some (.iload_n 1, 1, 0, 0, 0, 0) := by decide +kernel
theorem f266_2 : mFetch 266 2 = some (.invokevirtual 334, 3, 216, 0, 2, 12) := by decide +kernel
theorem f266_5 : mFetch 266 5 = some (.ifCond .eq 24, 3, 29, 0, 0, 0) := by decide +kernel
theorem f266_8 : mFetch 266 8 = some (.iload_n 2, 1, 0, 0, 0, 0) := by decide +kernel
theorem f266_9 : mFetch 266 9 = some (.i2l, 1, 0, 0, 0, 0) := by decide +kernel
theorem f266_10 : mFetch 266 10 = some (.lconst 0, 1, 0, 0, 0, 0) := by decide +kernel
theorem f266_11 : mFetch 266 11 = some (.ldc2_w 357, 3, 29, 0, 0, 0) := by decide +kernel
theorem f266_14 : mFetch 266 14 = some (.invokestatic 151, 3, 167, 0, 3, 99) := by decide +kernel
theorem f266_17 : mFetch 266 17 = some (.ifCond .eq 12, 3, 29, 0, 0, 0) := by decide +kernel
theorem f266_20 : mFetch 266 20 = some (.aload_n 0, 1, 0, 0, 0, 0) := by decide +kernel
theorem f266_21 : mFetch 266 21 = some (.iload_n 1, 1, 0, 0, 0, 0) := by decide +kernel
theorem f266_22 : mFetch 266 22 = some (.iload_n 2, 1, 0, 0, 0, 0) := by decide +kernel
theorem f266_23 : mFetch 266 23 = some (.invokevirtual 468, 3, 265, 0, 3, 12) := by decide +kernel
theorem f266_26 : mFetch 266 26 = some (.goto 4, 3, 30, 0, 0, 0) := by decide +kernel
theorem f266_29 : mFetch 266 29 = some (.iconst (-1), 1, 0, 0, 0, 0) := by decide +kernel
theorem f266_30 : mFetch 266 30 = some (.ireturn, 1, 0, 0, 0, 0) := by decide +kernel
theorem b266_0 {X : (Nat → Int) × Nat} {d : Nat} {s : mSt} {Q : mQ} {x1 : Int} {x2 : Int} (h_1 : Sp X d 216 [mR 407, mI x1] s (fun r s' => ∃ v : Int, r = some (mI v) ∧ Wp X (d + 1) 266 5 [some (mR 407), some (mI x1), some (mI x2)] [mI v] s' Q)) : Wp X (d + 1) 266 0 [some (mR 407), some (mI x1), some (mI x2)] [] s Q := Wp_step k266 f266_0 (Wp_step k266 f266_1 (Wp_step k266 f266_2 ⟨⟨kf_407, Nat.le_of_ble_eq_true rfl⟩, Nat.le_refl _, _, rfl, Sp_E h_1⟩))
theorem b266_5 {X : (Nat → Int) × Nat} {d : Nat} {s : mSt} {Q : mQ} {x1 : Int} {x2 : Int} {xt0 : Int} (h_1 : xt0 = 0 → Wp X d 266 29 [some (mR 407), some (mI x1), some (mI x2)] [] s Q) (h_2 : ¬ xt0 = 0 → Wp X d 266 8 [some (mR 407), some (mI x1), some (mI x2)] [] s Q) : Wp X d 266 5 [some (mR 407), some (mI x1), some (mI x2)] [mI xt0] s Q := Wp_step k266 f266_5 ⟨h_1, h_2⟩
theorem b266_8 {X : (Nat → Int) × Nat} {d : Nat} {s : mSt} {Q : mQ} {x1 : Int} {x2 : Int} (h_1 : Sp X d 167 [mJ x2, mJ 0, mJ 29] s (fun r s' => ∃ v : Int, r = some (mI v) ∧ Wp X (d + 1) 266 17 [some (mR 407), some (mI x1), some (mI x2)] [mI v] s' Q)) : Wp X (d + 1) 266 8 [some (mR 407), some (mI x1), some (mI x2)] [] s Q := Wp_step k266 f266_8 (Wp_step k266 f266_9 (Wp_step k266 f266_10 (Wp_step k266 f266_11 (Wp_step k266 f266_14 ⟨⟨Nat.le_of_ble_eq_true rfl, Nat.le_refl _⟩, _, rfl, Sp_E h_1⟩))))
theorem b266_17 {X : (Nat → Int) × Nat} {d : Nat} {s : mSt} {Q : mQ} {x1 : Int} {x2 : Int} {xt0 : Int} (h_1 : xt0 = 0 → Wp X d 266 29 [some (mR 407), some (mI x1), some (mI x2)] [] s Q) (h_2 : ¬ xt0 = 0 → Wp X d 266 20 [some (mR 407), some (mI x1), some (mI x2)] [] s Q) : Wp X d 266 17 [some (mR 407), some (mI x1), some (mI x2)] [mI xt0] s Q := Wp_step k266 f266_17 ⟨h_1, h_2⟩
theorem b266_20 {X : (Nat → Int) × Nat} {d : Nat} {s : mSt} {Q : mQ} {x1 : Int} {x2 : Int} (h_1 : Sp X d 265 [mR 407, mI x1, mI x2] s (fun r s' => ∃ v : Int, r = some (mI v) ∧ Wp X (d + 1) 266 26 [some (mR 407), some (mI x1), some (mI x2)] [mI v] s' Q)) : Wp X (d + 1) 266 20 [some (mR 407), some (mI x1), some (mI x2)] [] s Q := Wp_step k266 f266_20 (Wp_step k266 f266_21 (Wp_step k266 f266_22 (Wp_step k266 f266_23 ⟨⟨kf_407, Nat.le_of_ble_eq_true rfl⟩, Nat.le_refl _, _, rfl, Sp_E h_1⟩)))
theorem b266_26 {X : (Nat → Int) × Nat} {d : Nat} {s : mSt} {Q : mQ} {x1 : Int} {x2 : Int} {xt0 : Int} (h_1 : Wp X d 266 30 [some (mR 407), some (mI x1), some (mI x2)] [mI xt0] s Q) : Wp X d 266 26 [some (mR 407), some (mI x1), some (mI x2)] [mI xt0] s Q := Wp_step k266 f266_26 (h_1)
theorem b266_29 {X : (Nat → Int) × Nat} {d : Nat} {s : mSt} {Q : mQ} {x1 : Int} {x2 : Int} (h_1 : Wp X d 266 30 [some (mR 407), some (mI x1), some (mI x2)] [mI (-1)] s Q) : Wp X d 266 29 [some (mR 407), some (mI x1), some (mI x2)] [] s Q := Wp_step k266 f266_29 (h_1)
theorem b266_30 {X : (Nat → Int) × Nat} {d : Nat} {s : mSt} {Q : mQ} {x1 : Int} {x2 : Int} {xt0 : Int} (h_1 : Q (some (mI xt0)) s) : Wp X d 266 30 [some (mR 407), some (mI x1), some (mI x2)] [mI xt0] s Q := Wp_step k266 f266_30 ⟨⟨rfl, trivial⟩, h_1⟩
theorem e266 {X : (Nat → Int) × Nat} {d : Nat} {s : mSt} {Q : mQ} {x1 : Int} {x2 : Int} (h : Wp X d 266 0 [some (mR 407), some (mI x1), some (mI x2)] [] s Q) : Sp X d 266 [mR 407, mI x1, mI x2] s Q := Sp_of (show mCe 266 = 0 by decide +kernel) (by rw [show mML 266 = 3 by decide +kernel]; rfl) (Nat.le_trans (Nat.le_of_ble_eq_true (show Nat.ble (mArgs _).length 3 = true from rfl)) (show 3 ≤ mML 266 by decide +kernel)) h
-- 267 ClashDayModel.putsSign(II)V
theorem k267 : mRk 267 = 0 := by decide +kernel
theorem f267_0 : mFetch 267 0 = some (.aload_n 0, 1, 0, 0, 0, 0) := by decide +kernel
theorem f267_1 : mFetch 267 1 = some (.getfield 64, 3, 12, 38, 2, 1) := by decide +kernel
theorem f267_4 : mFetch 267 4 = some (.bipush 60, 2, 0, 0, 0, 0) := by decide +kernel
theorem f267_6 : mFetch 267 6 = some (.iload_n 1, 1, 0, 0, 0, 0) := by decide +kernel
theorem f267_7 : mFetch 267 7 = some (.imul, 1, 0, 0, 0, 0) := by decide +kernel
theorem f267_8 : mFetch 267 8 = some (.aload_n 0, 1, 0, 0, 0, 0) := by decide +kernel
theorem f267_9 : mFetch 267 9 = some (.getfield 67, 3, 12, 39, 2, 1) := by decide +kernel
theorem f267_12 : mFetch 267 12 = some (.iload_n 1, 1, 0, 0, 0, 0) := by decide +kernel
theorem f267_13 : mFetch 267 13 = some (.iaload, 1, 0, 0, 0, 0) := by decide +kernel
theorem f267_14 : mFetch 267 14 = some (.iadd, 1, 0, 0, 0, 0) := by decide +kernel
theorem f267_15 : mFetch 267 15 = some (.iload_n 2, 1, 0, 0, 0, 0) := by decide +kernel
theorem f267_16 : mFetch 267 16 = some (.iastore, 1, 0, 0, 0, 0) := by decide +kernel
theorem f267_17 : mFetch 267 17 = some (.aload_n 0, 1, 0, 0, 0, 0) := by decide +kernel
theorem f267_18 : mFetch 267 18 = some (.getfield 67, 3, 12, 39, 2, 1) := by decide +kernel
theorem f267_21 : mFetch 267 21 = some (.iload_n 1, 1, 0, 0, 0, 0) := by decide +kernel
theorem f267_22 : mFetch 267 22 = some (.dup2, 1, 0, 0, 0, 0) := by decide +kernel
theorem f267_23 : mFetch 267 23 = some (.iaload, 1, 0, 0, 0, 0) := by decide +kernel
theorem f267_24 : mFetch 267 24 = some (.iconst 1, 1, 0, 0, 0, 0) := by decide +kernel
theorem f267_25 : mFetch 267 25 = some (.iadd, 1, 0, 0, 0, 0) := by decide +kernel
theorem f267_26 : mFetch 267 26 = some (.iastore, 1, 0, 0, 0, 0) := by decide +kernel
theorem f267_27 : mFetch 267 27 = some (.return_, 1, 0, 0, 0, 0) := by decide +kernel
theorem b267_0 {X : (Nat → Int) × Nat} {d : Nat} {s : mSt} {Q : mQ} {x1 : Int} {x2 : Int} (h_1 : 0 ≤ x1 ∧ x1 < 2) (h_2 : 0 ≤ (w32 ((w32 (60 * x1)) + (s 425 x1.toNat))) ∧ (w32 ((w32 (60 * x1)) + (s 425 x1.toNat))) < 120) (h_3 : 0 ≤ x1 ∧ x1 < 2) (h_4 : 0 ≤ x1 ∧ x1 < 2) (h_5 : Q none (uS (uS s 424 ((w32 ((w32 (60 * x1)) + (s 425 x1.toNat))).toNat) x2) 425 x1.toNat (w32 (((uS s 424 ((w32 ((w32 (60 * x1)) + (s 425 x1.toNat))).toNat) x2) 425 x1.toNat) + 1)))) : Wp X d 267 0 [some (mR 407), some (mI x1), some (mI x2)] [] s Q := Wp_step k267 f267_0 (Wp_step k267 f267_1 ⟨kf_407, 424, rf_407_38, Wp_step k267 f267_4 (Wp_step k267 f267_6 (Wp_step k267 f267_7 (Wp_step k267 f267_8 (Wp_step k267 f267_9 ⟨kf_407, 425, rf_407_39, Wp_step k267 f267_12 (Wp_step k267 f267_13 ⟨2, af_425, h_1, Wp_step k267 f267_14 (Wp_step k267 f267_15 (Wp_step k267 f267_16 ⟨120, af_424, h_2, Wp_step k267 f267_17 (Wp_step k267 f267_18 ⟨kf_407, 425, rf_407_39, Wp_step k267 f267_21 (Wp_step k267 f267_22 (Wp_step k267 f267_23 ⟨2, af_425, h_3, Wp_step k267 f267_24 (Wp_step k267 f267_25 (Wp_step k267 f267_26 ⟨2, af_425, h_4, Wp_step k267 f267_27 ⟨⟨rfl, Or.inl rfl⟩, h_5⟩⟩))⟩))⟩)⟩))⟩)⟩))))⟩)
theorem e267 {X : (Nat → Int) × Nat} {d : Nat} {s : mSt} {Q : mQ} {x1 : Int} {x2 : Int} (h : Wp X d 267 0 [some (mR 407), some (mI x1), some (mI x2)] [] s Q) : Sp X d 267 [mR 407, mI x1, mI x2] s Q := Sp_of (show mCe 267 = 0 by decide +kernel) (by rw [show mML 267 = 3 by decide +kernel]; rfl) (Nat.le_trans (Nat.le_of_ble_eq_true (show Nat.ble (mArgs _).length 3 = true from rfl)) (show 3 ≤ mML 267 by decide +kernel)) h
-- 268 ClashDayModel.spells(II)V
theorem k268 : mRk 268 = 0 := by decide +kernel
theorem f268_0 : mFetch 268 0 = some (.aload_n 0, 1, 0, 0, 0, 0) := by decide +kernel
theorem f268_1 : mFetch 268 1 = some (.getfield 67, 3, 12, 39, 2, 1) := by decide +kernel
theorem f268_4 : mFetch 268 4 = some (.iload_n 1, 1, 0, 0, 0, 0) := by decide +kernel
theorem f268_5 : mFetch 268 5 = some (.iconst 0, 1, 0, 0, 0, 0) := by decide +kernel
theorem f268_6 : mFetch 268 6 = some (.iastore, 1, 0, 0, 0, 0) := by decide +kernel
theorem f268_7 : mFetch 268 7 = some (.iconst 0, 1, 0, 0, 0, 0) := by decide +kernel
theorem f268_8 : mFetch 268 8 = some (.istore_n 3, 1, 0, 0, 0, 0) := by decide +kernel
theorem f268_9 : mFetch 268 9 = some (.iload_n 3, 1, 0, 0, 0, 0) := by decide +kernel
theorem f268_10 : mFetch 268 10 = some (.bipush 30, 2, 0, 0, 0, 0) := by decide +kernel
theorem f268_12 : mFetch 268 12 = some (.if_icmp .ge 99, 3, 111, 0, 0, 0) := by decide +kernel
theorem f268_15 : mFetch 268 15 = some (.iload_n 3, 1, 0, 0, 0, 0) := by decide +kernel
theorem f268_16 : mFetch 268 16 = some (.istore 4, 2, 0, 0, 0, 0) := by decide +kernel
theorem f268_18 : mFetch 268 18 = some (.iload 4, 2, 0, 0, 0, 0) := by decide +kernel
theorem f268_20 : mFetch 268 20 = some (.bipush 30, 2, 0, 0, 0, 0) := by decide +kernel
theorem f268_22 : mFetch 268 22 = some (.if_icmp .ge 25, 3, 47, 0, 0, 0) := by decide +kernel
theorem f268_25 : mFetch 268 25 = some (.aload_n 0, 1, 0, 0, 0, 0) := by decide +kernel
theorem f268_26 : mFetch 268 26 = some (.iload_n 2, 1, 0, 0, 0, 0) := by decide +kernel
theorem f268_27 : mFetch 268 27 = some (.iload 4, 2, 0, 0, 0, 0) := by decide +kernel
theorem f268_29 : mFetch 268 29 = some (.invokevirtual 468, 3, 265, 0, 3, 12) := by decide +kernel
theorem f268_32 : mFetch 268 32 = some (.aload_n 0, 1, 0, 0, 0, 0) := by decide +kernel
theorem f268_33 : mFetch 268 33 = some (.iload_n 2, 1, 0, 0, 0, 0) := by decide +kernel
theorem f268_34 : mFetch 268 34 = some (.iload_n 3, 1, 0, 0, 0, 0) := by decide +kernel
theorem f268_35 : mFetch 268 35 = some (.invokevirtual 468, 3, 265, 0, 3, 12) := by decide +kernel
theorem f268_38 : mFetch 268 38 = some (.if_icmp .ne 9, 3, 47, 0, 0, 0) := by decide +kernel
theorem f268_41 : mFetch 268 41 = some (.iinc 4 1, 3, 0, 0, 0, 0) := by decide +kernel
theorem f268_44 : mFetch 268 44 = some (.goto (-26), 3, 18, 0, 0, 0) := by decide +kernel
theorem f268_47 : mFetch 268 47 = some (.iload 4, 2, 0, 0, 0, 0) := by decide +kernel
theorem f268_49 : mFetch 268 49 = some (.iload_n 3, 1, 0, 0, 0, 0) := by decide +kernel
theorem f268_50 : mFetch 268 50 = some (.isub, 1, 0, 0, 0, 0) := by decide +kernel
theorem f268_51 : mFetch 268 51 = some (.bipush 9, 2, 0, 0, 0, 0) := by decide +kernel
theorem f268_53 : mFetch 268 53 = some (.if_icmp .le 18, 3, 71, 0, 0, 0) := by decide +kernel
theorem f268_56 : mFetch 268 56 = some (.aload_n 0, 1, 0, 0, 0, 0) := by decide +kernel
theorem f268_57 : mFetch 268 57 = some (.iload_n 1, 1, 0, 0, 0, 0) := by decide +kernel
theorem f268_58 : mFetch 268 58 = some (.bipush 48, 2, 0, 0, 0, 0) := by decide +kernel
theorem f268_60 : mFetch 268 60 = some (.iload 4, 2, 0, 0, 0, 0) := by decide +kernel
theorem f268_62 : mFetch 268 62 = some (.iload_n 3, 1, 0, 0, 0, 0) := by decide +kernel
theorem f268_63 : mFetch 268 63 = some (.isub, 1, 0, 0, 0, 0) := by decide +kernel
theorem f268_64 : mFetch 268 64 = some (.bipush 10, 2, 0, 0, 0, 0) := by decide +kernel
theorem f268_66 : mFetch 268 66 = some (.idiv, 1, 0, 0, 0, 0) := by decide +kernel
theorem f268_67 : mFetch 268 67 = some (.iadd, 1, 0, 0, 0, 0) := by decide +kernel
theorem f268_68 : mFetch 268 68 = some (.invokevirtual 471, 3, 267, 0, 3, 12) := by decide +kernel
theorem f268_71 : mFetch 268 71 = some (.iload 4, 2, 0, 0, 0, 0) := by decide +kernel
theorem f268_73 : mFetch 268 73 = some (.iload_n 3, 1, 0, 0, 0, 0) := by decide +kernel
theorem f268_74 : mFetch 268 74 = some (.isub, 1, 0, 0, 0, 0) := by decide +kernel
theorem f268_75 : mFetch 268 75 = some (.iconst 1, 1, 0, 0, 0, 0) := by decide +kernel
theorem f268_76 : mFetch 268 76 = some (.if_icmp .le 18, 3, 94, 0, 0, 0) := by decide +kernel
theorem f268_79 : mFetch 268 79 = some (.aload_n 0, 1, 0, 0, 0, 0) := by decide +kernel
theorem f268_80 : mFetch 268 80 = some (.iload_n 1, 1, 0, 0, 0, 0) := by decide +kernel
theorem f268_81 : mFetch 268 81 = some (.bipush 48, 2, 0, 0, 0, 0) := by decide +kernel
theorem f268_83 : mFetch 268 83 = some (.iload 4, 2, 0, 0, 0, 0) := by decide +kernel
theorem f268_85 : mFetch 268 85 = some (.iload_n 3, 1, 0, 0, 0, 0) := by decide +kernel
theorem f268_86 : mFetch 268 86 = some (.isub, 1, 0, 0, 0, 0) := by decide +kernel
theorem f268_87 : mFetch 268 87 = some (.bipush 10, 2, 0, 0, 0, 0) := by decide +kernel
theorem f268_89 : mFetch 268 89 = some (.irem, 1, 0, 0, 0, 0) := by decide +kernel
theorem f268_90 : mFetch 268 90 = some (.iadd, 1, 0, 0, 0, 0) := by decide +kernel
theorem f268_91 : mFetch 268 91 = some (.invokevirtual 471, 3, 267, 0, 3, 12) := by decide +kernel
theorem f268_94 : mFetch 268 94 = some (.aload_n 0, 1, 0, 0, 0, 0) := by decide +kernel
theorem f268_95 : mFetch 268 95 = some (.iload_n 1, 1, 0, 0, 0, 0) := by decide +kernel
theorem f268_96 : mFetch 268 96 = some (.aload_n 0, 1, 0, 0, 0, 0) := by decide +kernel
theorem f268_97 : mFetch 268 97 = some (.iload_n 2, 1, 0, 0, 0, 0) := by decide +kernel
theorem f268_98 : mFetch 268 98 = some (.iload_n 3, 1, 0, 0, 0, 0) := by decide +kernel
theorem f268_99 : mFetch 268 99 = some (.invokevirtual 468, 3, 265, 0, 3, 12) := by decide +kernel
theorem f268_102 : mFetch 268 102 = some (.invokevirtual 471, 3, 267, 0, 3, 12) := by decide +kernel
theorem f268_105 : mFetch 268 105 = some (.iload 4, 2, 0, 0, 0, 0) := by decide +kernel
theorem f268_107 : mFetch 268 107 = some (.istore_n 3, 1, 0, 0, 0, 0) := by decide +kernel
theorem f268_108 : mFetch 268 108 = some (.goto (-99), 3, 9, 0, 0, 0) := by decide +kernel
theorem f268_111 : mFetch 268 111 = some (.return_, 1, 0, 0, 0, 0) := by decide +kernel
theorem b268_0 {X : (Nat → Int) × Nat} {d : Nat} {s : mSt} {Q : mQ} {x1 : Int} {x2 : Int} {l3 : Option mV} {l4 : Option mV} (h_1 : 0 ≤ x1 ∧ x1 < 2) (h_2 : Wp X d 268 9 [some (mR 407), some (mI x1), some (mI x2), some (mI 0), l4] [] (uS s 425 x1.toNat 0) Q) : Wp X d 268 0 [some (mR 407), some (mI x1), some (mI x2), l3, l4] [] s Q := Wp_step k268 f268_0 (Wp_step k268 f268_1 ⟨kf_407, 425, rf_407_39, Wp_step k268 f268_4 (Wp_step k268 f268_5 (Wp_step k268 f268_6 ⟨2, af_425, h_1, Wp_step k268 f268_7 (Wp_step k268 f268_8 (h_2))⟩))⟩)
theorem b268_9 {X : (Nat → Int) × Nat} {d : Nat} {s : mSt} {Q : mQ} {x1 : Int} {x2 : Int} {x3 : Int} {l4 : Option mV} (h_1 : 30 ≤ x3 → Wp X d 268 111 [some (mR 407), some (mI x1), some (mI x2), some (mI x3), l4] [] s Q) (h_2 : ¬ 30 ≤ x3 → Wp X d 268 15 [some (mR 407), some (mI x1), some (mI x2), some (mI x3), l4] [] s Q) : Wp X d 268 9 [some (mR 407), some (mI x1), some (mI x2), some (mI x3), l4] [] s Q := Wp_step k268 f268_9 (Wp_step k268 f268_10 (Wp_step k268 f268_12 ⟨h_1, h_2⟩))
theorem b268_15 {X : (Nat → Int) × Nat} {d : Nat} {s : mSt} {Q : mQ} {x1 : Int} {x2 : Int} {x3 : Int} {l4 : Option mV} (h_1 : Wp X d 268 18 [some (mR 407), some (mI x1), some (mI x2), some (mI x3), some (mI x3)] [] s Q) : Wp X d 268 15 [some (mR 407), some (mI x1), some (mI x2), some (mI x3), l4] [] s Q := Wp_step k268 f268_15 (Wp_step k268 f268_16 (h_1))
theorem b268_18 {X : (Nat → Int) × Nat} {d : Nat} {s : mSt} {Q : mQ} {x1 : Int} {x2 : Int} {x3 : Int} {x4 : Int} (h_1 : 30 ≤ x4 → Wp X d 268 47 [some (mR 407), some (mI x1), some (mI x2), some (mI x3), some (mI x4)] [] s Q) (h_2 : ¬ 30 ≤ x4 → Wp X d 268 25 [some (mR 407), some (mI x1), some (mI x2), some (mI x3), some (mI x4)] [] s Q) : Wp X d 268 18 [some (mR 407), some (mI x1), some (mI x2), some (mI x3), some (mI x4)] [] s Q := Wp_step k268 f268_18 (Wp_step k268 f268_20 (Wp_step k268 f268_22 ⟨h_1, h_2⟩))
theorem b268_25 {X : (Nat → Int) × Nat} {d : Nat} {s : mSt} {Q : mQ} {x1 : Int} {x2 : Int} {x3 : Int} {x4 : Int} (h_1 : Sp X d 265 [mR 407, mI x2, mI x4] s (fun r s' => ∃ v : Int, r = some (mI v) ∧ Wp X (d + 1) 268 32 [some (mR 407), some (mI x1), some (mI x2), some (mI x3), some (mI x4)] [mI v] s' Q)) : Wp X (d + 1) 268 25 [some (mR 407), some (mI x1), some (mI x2), some (mI x3), some (mI x4)] [] s Q := Wp_step k268 f268_25 (Wp_step k268 f268_26 (Wp_step k268 f268_27 (Wp_step k268 f268_29 ⟨⟨kf_407, Nat.le_of_ble_eq_true rfl⟩, Nat.le_refl _, _, rfl, Sp_E h_1⟩)))
theorem b268_32 {X : (Nat → Int) × Nat} {d : Nat} {s : mSt} {Q : mQ} {x1 : Int} {x2 : Int} {x3 : Int} {x4 : Int} {xt0 : Int} (h_1 : Sp X d 265 [mR 407, mI x2, mI x3] s (fun r s' => ∃ v : Int, r = some (mI v) ∧ Wp X (d + 1) 268 38 [some (mR 407), some (mI x1), some (mI x2), some (mI x3), some (mI x4)] [mI v, mI xt0] s' Q)) : Wp X (d + 1) 268 32 [some (mR 407), some (mI x1), some (mI x2), some (mI x3), some (mI x4)] [mI xt0] s Q := Wp_step k268 f268_32 (Wp_step k268 f268_33 (Wp_step k268 f268_34 (Wp_step k268 f268_35 ⟨⟨kf_407, Nat.le_of_ble_eq_true rfl⟩, Nat.le_refl _, _, rfl, Sp_E h_1⟩)))
theorem b268_38 {X : (Nat → Int) × Nat} {d : Nat} {s : mSt} {Q : mQ} {x1 : Int} {x2 : Int} {x3 : Int} {x4 : Int} {xt0 : Int} {xt1 : Int} (h_1 : ¬ xt0 = xt1 → Wp X d 268 47 [some (mR 407), some (mI x1), some (mI x2), some (mI x3), some (mI x4)] [] s Q) (h_2 : xt0 = xt1 → Wp X d 268 41 [some (mR 407), some (mI x1), some (mI x2), some (mI x3), some (mI x4)] [] s Q) : Wp X d 268 38 [some (mR 407), some (mI x1), some (mI x2), some (mI x3), some (mI x4)] [mI xt1, mI xt0] s Q := Wp_step k268 f268_38 ⟨h_1, h_2⟩
theorem b268_41 {X : (Nat → Int) × Nat} {d : Nat} {s : mSt} {Q : mQ} {x1 : Int} {x2 : Int} {x3 : Int} {x4 : Int} (h_1 : Wp X d 268 18 [some (mR 407), some (mI x1), some (mI x2), some (mI x3), some (mI (w32 (x4 + 1)))] [] s Q) : Wp X d 268 41 [some (mR 407), some (mI x1), some (mI x2), some (mI x3), some (mI x4)] [] s Q := Wp_step k268 f268_41 (Wp_step k268 f268_44 (h_1))
theorem b268_47 {X : (Nat → Int) × Nat} {d : Nat} {s : mSt} {Q : mQ} {x1 : Int} {x2 : Int} {x3 : Int} {x4 : Int} (h_1 : (w32 (x4 - x3)) ≤ 9 → Wp X d 268 71 [some (mR 407), some (mI x1), some (mI x2), some (mI x3), some (mI x4)] [] s Q) (h_2 : ¬ (w32 (x4 - x3)) ≤ 9 → Wp X d 268 56 [some (mR 407), some (mI x1), some (mI x2), some (mI x3), some (mI x4)] [] s Q) : Wp X d 268 47 [some (mR 407), some (mI x1), some (mI x2), some (mI x3), some (mI x4)] [] s Q := Wp_step k268 f268_47 (Wp_step k268 f268_49 (Wp_step k268 f268_50 (Wp_step k268 f268_51 (Wp_step k268 f268_53 ⟨h_1, h_2⟩))))
theorem b268_56 {X : (Nat → Int) × Nat} {d : Nat} {s : mSt} {Q : mQ} {x1 : Int} {x2 : Int} {x3 : Int} {x4 : Int} (h_1 : Sp X d 267 [mR 407, mI x1, mI (w32 (48 + (w32 (Int.tdiv (w32 (x4 - x3)) 10))))] s (fun r s' => r = none ∧ Wp X (d + 1) 268 71 [some (mR 407), some (mI x1), some (mI x2), some (mI x3), some (mI x4)] [] s' Q)) : Wp X (d + 1) 268 56 [some (mR 407), some (mI x1), some (mI x2), some (mI x3), some (mI x4)] [] s Q := Wp_step k268 f268_56 (Wp_step k268 f268_57 (Wp_step k268 f268_58 (Wp_step k268 f268_60 (Wp_step k268 f268_62 (Wp_step k268 f268_63 (Wp_step k268 f268_64 (Wp_step k268 f268_66 ⟨(by decide), Wp_step k268 f268_67 (Wp_step k268 f268_68 ⟨⟨kf_407, Nat.le_of_ble_eq_true rfl⟩, Nat.le_refl _, _, rfl, Sp_V h_1⟩)⟩)))))))
theorem b268_71 {X : (Nat → Int) × Nat} {d : Nat} {s : mSt} {Q : mQ} {x1 : Int} {x2 : Int} {x3 : Int} {x4 : Int} (h_1 : (w32 (x4 - x3)) ≤ 1 → Wp X d 268 94 [some (mR 407), some (mI x1), some (mI x2), some (mI x3), some (mI x4)] [] s Q) (h_2 : ¬ (w32 (x4 - x3)) ≤ 1 → Wp X d 268 79 [some (mR 407), some (mI x1), some (mI x2), some (mI x3), some (mI x4)] [] s Q) : Wp X d 268 71 [some (mR 407), some (mI x1), some (mI x2), some (mI x3), some (mI x4)] [] s Q := Wp_step k268 f268_71 (Wp_step k268 f268_73 (Wp_step k268 f268_74 (Wp_step k268 f268_75 (Wp_step k268 f268_76 ⟨h_1, h_2⟩))))
theorem b268_79 {X : (Nat → Int) × Nat} {d : Nat} {s : mSt} {Q : mQ} {x1 : Int} {x2 : Int} {x3 : Int} {x4 : Int} (h_1 : Sp X d 267 [mR 407, mI x1, mI (w32 (48 + (Int.tmod (w32 (x4 - x3)) 10)))] s (fun r s' => r = none ∧ Wp X (d + 1) 268 94 [some (mR 407), some (mI x1), some (mI x2), some (mI x3), some (mI x4)] [] s' Q)) : Wp X (d + 1) 268 79 [some (mR 407), some (mI x1), some (mI x2), some (mI x3), some (mI x4)] [] s Q := Wp_step k268 f268_79 (Wp_step k268 f268_80 (Wp_step k268 f268_81 (Wp_step k268 f268_83 (Wp_step k268 f268_85 (Wp_step k268 f268_86 (Wp_step k268 f268_87 (Wp_step k268 f268_89 ⟨(by decide), Wp_step k268 f268_90 (Wp_step k268 f268_91 ⟨⟨kf_407, Nat.le_of_ble_eq_true rfl⟩, Nat.le_refl _, _, rfl, Sp_V h_1⟩)⟩)))))))
theorem b268_94 {X : (Nat → Int) × Nat} {d : Nat} {s : mSt} {Q : mQ} {x1 : Int} {x2 : Int} {x3 : Int} {x4 : Int} (h_1 : Sp X d 265 [mR 407, mI x2, mI x3] s (fun r s' => ∃ v : Int, r = some (mI v) ∧ Wp X (d + 1) 268 102 [some (mR 407), some (mI x1), some (mI x2), some (mI x3), some (mI x4)] [mI v, mI x1, mR 407] s' Q)) : Wp X (d + 1) 268 94 [some (mR 407), some (mI x1), some (mI x2), some (mI x3), some (mI x4)] [] s Q := Wp_step k268 f268_94 (Wp_step k268 f268_95 (Wp_step k268 f268_96 (Wp_step k268 f268_97 (Wp_step k268 f268_98 (Wp_step k268 f268_99 ⟨⟨kf_407, Nat.le_of_ble_eq_true rfl⟩, Nat.le_refl _, _, rfl, Sp_E h_1⟩)))))
theorem b268_102 {X : (Nat → Int) × Nat} {d : Nat} {s : mSt} {Q : mQ} {x1 : Int} {x2 : Int} {x3 : Int} {x4 : Int} {xt1 : Int} {xt2 : Int} (h_1 : Sp X d 267 [mR 407, mI xt1, mI xt2] s (fun r s' => r = none ∧ Wp X (d + 1) 268 105 [some (mR 407), some (mI x1), some (mI x2), some (mI x3), some (mI x4)] [] s' Q)) : Wp X (d + 1) 268 102 [some (mR 407), some (mI x1), some (mI x2), some (mI x3), some (mI x4)] [mI xt2, mI xt1, mR 407] s Q := Wp_step k268 f268_102 ⟨⟨kf_407, Nat.le_of_ble_eq_true rfl⟩, Nat.le_refl _, _, rfl, Sp_V h_1⟩
theorem b268_105 {X : (Nat → Int) × Nat} {d : Nat} {s : mSt} {Q : mQ} {x1 : Int} {x2 : Int} {x3 : Int} {x4 : Int} (h_1 : Wp X d 268 9 [some (mR 407), some (mI x1), some (mI x2), some (mI x4), some (mI x4)] [] s Q) : Wp X d 268 105 [some (mR 407), some (mI x1), some (mI x2), some (mI x3), some (mI x4)] [] s Q := Wp_step k268 f268_105 (Wp_step k268 f268_107 (Wp_step k268 f268_108 (h_1)))
theorem b268_111 {X : (Nat → Int) × Nat} {d : Nat} {s : mSt} {Q : mQ} {x1 : Int} {x2 : Int} {x3 : Int} {l4 : Option mV} (h_1 : Q none s) : Wp X d 268 111 [some (mR 407), some (mI x1), some (mI x2), some (mI x3), l4] [] s Q := Wp_step k268 f268_111 ⟨⟨rfl, Or.inl rfl⟩, h_1⟩
theorem e268 {X : (Nat → Int) × Nat} {d : Nat} {s : mSt} {Q : mQ} {x1 : Int} {x2 : Int} (h : Wp X d 268 0 [some (mR 407), some (mI x1), some (mI x2), none, none] [] s Q) : Sp X d 268 [mR 407, mI x1, mI x2] s Q := Sp_of (show mCe 268 = 0 by decide +kernel) (by rw [show mML 268 = 5 by decide +kernel]; rfl) (Nat.le_trans (Nat.le_of_ble_eq_true (show Nat.ble (mArgs _).length 5 = true from rfl)) (show 5 ≤ mML 268 by decide +kernel)) h
-- 269 ClashDayModel.spelt(II)I
theorem k269 : mRk 269 = 1 := by decide +kernel
theorem f269_0 : mFetch 269 0 = some (.aload_n 0, 1, 0, 0, 0, 0) := by decide +kernel
theorem f269_1 : mFetch 269 1 = some (.iload_n 1, 1, 0, 0, 0, 0) := by decide +kernel
theorem f269_2 : mFetch 269 2 = some (.invokevirtual 334, 3, 216, 0, 2, 12) := by decide +kernel
theorem f269_5 : mFetch 269 5 = some (.ifCond .eq 8, 3, 13, 0, 0, 0) := by decide +kernel
theorem f269_8 : mFetch 269 8 = some (.iload_n 2, 1, 0, 0, 0, 0) := by decide +kernel
theorem f269_9 : mFetch 269 9 = some (.iconst (-1), 1, 0, 0, 0, 0) := by decide +kernel
theorem f269_10 : mFetch 269 10 = some (.if_icmp .ge 5, 3, 15, 0, 0, 0) := by decide +kernel
theorem f269_13 : mFetch 269 13 = some (.iconst (-1), 1, 0, 0, 0, 0) := by decide +kernel
theorem f269_14 : mFetch 269 14 = some (.ireturn, 1, 0, 0, 0, 0) := by decide +kernel
theorem f269_15 : mFetch 269 15 = some (.aload_n 0, 1, 0, 0, 0, 0) := by decide +kernel
theorem f269_16 : mFetch 269 16 = some (.iconst 0, 1, 0, 0, 0, 0) := by decide +kernel
theorem f269_17 : mFetch 269 17 = some (.iload_n 1, 1, 0, 0, 0, 0) := by decide +kernel
theorem f269_18 : mFetch 269 18 = some (.invokevirtual 474, 3, 268, 0, 3, 12) := by decide +kernel
theorem f269_21 : mFetch 269 21 = some (.iload_n 2, 1, 0, 0, 0, 0) := by decide +kernel
theorem f269_22 : mFetch 269 22 = some (.iconst (-1), 1, 0, 0, 0, 0) := by decide +kernel
theorem f269_23 : mFetch 269 23 = some (.if_icmp .ne 12, 3, 35, 0, 0, 0) := by decide +kernel
theorem f269_26 : mFetch 269 26 = some (.aload_n 0, 1, 0, 0, 0, 0) := by decide +kernel
theorem f269_27 : mFetch 269 27 = some (.getfield 67, 3, 12, 39, 2, 1) := by decide +kernel
theorem f269_30 : mFetch 269 30 = some (.iconst 0, 1, 0, 0, 0, 0) := by decide +kernel
theorem f269_31 : mFetch 269 31 = some (.iaload, 1, 0, 0, 0, 0) := by decide +kernel
theorem f269_32 : mFetch 269 32 = some (.goto 24, 3, 56, 0, 0, 0) := by decide +kernel
theorem f269_35 : mFetch 269 35 = some (.iload_n 2, 1, 0, 0, 0, 0) := by decide +kernel
theorem f269_36 : mFetch 269 36 = some (.aload_n 0, 1, 0, 0, 0, 0) := by decide +kernel
theorem f269_37 : mFetch 269 37 = some (.getfield 67, 3, 12, 39, 2, 1) := by decide +kernel
theorem f269_40 : mFetch 269 40 = some (.iconst 0, 1, 0, 0, 0, 0) := by decide +kernel
theorem f269_41 : mFetch 269 41 = some (.iaload, 1, 0, 0, 0, 0) := by decide +kernel
theorem f269_42 : mFetch 269 42 = some (.if_icmp .ge 12, 3, 54, 0, 0, 0) := by decide +kernel
theorem f269_45 : mFetch 269 45 = some (.aload_n 0, 1, 0, 0, 0, 0) := by decide +kernel
theorem f269_46 : mFetch 269 46 = some (.getfield 64, 3, 12, 38, 2, 1) := by decide +kernel
theorem f269_49 : mFetch 269 49 = some (.iload_n 2, 1, 0, 0, 0, 0) := by decide +kernel
theorem f269_50 : mFetch 269 50 = some (.iaload, 1, 0, 0, 0, 0) := by decide +kernel
theorem f269_51 : mFetch 269 51 = some (.goto 5, 3, 56, 0, 0, 0) := by decide +kernel
theorem f269_54 : mFetch 269 54 = some (.bipush (-2), 2, 0, 0, 0, 0) := by decide +kernel
theorem f269_56 : mFetch 269 56 = some (.ireturn, 1, 0, 0, 0, 0) := by decide +kernel
theorem b269_0 {X : (Nat → Int) × Nat} {d : Nat} {s : mSt} {Q : mQ} {x1 : Int} {x2 : Int} (h_1 : Sp X d 216 [mR 407, mI x1] s (fun r s' => ∃ v : Int, r = some (mI v) ∧ Wp X (d + 1) 269 5 [some (mR 407), some (mI x1), some (mI x2)] [mI v] s' Q)) : Wp X (d + 1) 269 0 [some (mR 407), some (mI x1), some (mI x2)] [] s Q := Wp_step k269 f269_0 (Wp_step k269 f269_1 (Wp_step k269 f269_2 ⟨⟨kf_407, Nat.le_of_ble_eq_true rfl⟩, Nat.le_refl _, _, rfl, Sp_E h_1⟩))
theorem b269_5 {X : (Nat → Int) × Nat} {d : Nat} {s : mSt} {Q : mQ} {x1 : Int} {x2 : Int} {xt0 : Int} (h_1 : xt0 = 0 → Wp X d 269 13 [some (mR 407), some (mI x1), some (mI x2)] [] s Q) (h_2 : ¬ xt0 = 0 → Wp X d 269 8 [some (mR 407), some (mI x1), some (mI x2)] [] s Q) : Wp X d 269 5 [some (mR 407), some (mI x1), some (mI x2)] [mI xt0] s Q := Wp_step k269 f269_5 ⟨h_1, h_2⟩
theorem b269_8 {X : (Nat → Int) × Nat} {d : Nat} {s : mSt} {Q : mQ} {x1 : Int} {x2 : Int} (h_1 : (-1) ≤ x2 → Wp X d 269 15 [some (mR 407), some (mI x1), some (mI x2)] [] s Q) (h_2 : ¬ (-1) ≤ x2 → Wp X d 269 13 [some (mR 407), some (mI x1), some (mI x2)] [] s Q) : Wp X d 269 8 [some (mR 407), some (mI x1), some (mI x2)] [] s Q := Wp_step k269 f269_8 (Wp_step k269 f269_9 (Wp_step k269 f269_10 ⟨h_1, h_2⟩))
theorem b269_13 {X : (Nat → Int) × Nat} {d : Nat} {s : mSt} {Q : mQ} {x1 : Int} {x2 : Int} (h_1 : Q (some (mI (-1))) s) : Wp X d 269 13 [some (mR 407), some (mI x1), some (mI x2)] [] s Q := Wp_step k269 f269_13 (Wp_step k269 f269_14 ⟨⟨rfl, trivial⟩, h_1⟩)
theorem b269_15 {X : (Nat → Int) × Nat} {d : Nat} {s : mSt} {Q : mQ} {x1 : Int} {x2 : Int} (h_1 : Sp X d 268 [mR 407, mI 0, mI x1] s (fun r s' => r = none ∧ Wp X (d + 1) 269 21 [some (mR 407), some (mI x1), some (mI x2)] [] s' Q)) : Wp X (d + 1) 269 15 [some (mR 407), some (mI x1), some (mI x2)] [] s Q := Wp_step k269 f269_15 (Wp_step k269 f269_16 (Wp_step k269 f269_17 (Wp_step k269 f269_18 ⟨⟨kf_407, Nat.le_of_ble_eq_true rfl⟩, Nat.le_refl _, _, rfl, Sp_V h_1⟩)))
theorem b269_21 {X : (Nat → Int) × Nat} {d : Nat} {s : mSt} {Q : mQ} {x1 : Int} {x2 : Int} (h_1 : ¬ x2 = (-1) → Wp X d 269 35 [some (mR 407), some (mI x1), some (mI x2)] [] s Q) (h_2 : x2 = (-1) → Wp X d 269 26 [some (mR 407), some (mI x1), some (mI x2)] [] s Q) : Wp X d 269 21 [some (mR 407), some (mI x1), some (mI x2)] [] s Q := Wp_step k269 f269_21 (Wp_step k269 f269_22 (Wp_step k269 f269_23 ⟨h_1, h_2⟩))
theorem b269_26 {X : (Nat → Int) × Nat} {d : Nat} {s : mSt} {Q : mQ} {x1 : Int} {x2 : Int} (h_1 : Wp X d 269 56 [some (mR 407), some (mI x1), some (mI x2)] [mI (s 425 0)] s Q) : Wp X d 269 26 [some (mR 407), some (mI x1), some (mI x2)] [] s Q := Wp_step k269 f269_26 (Wp_step k269 f269_27 ⟨kf_407, 425, rf_407_39, Wp_step k269 f269_30 (Wp_step k269 f269_31 ⟨2, af_425, ⟨by decide, by decide⟩, Wp_step k269 f269_32 (h_1)⟩)⟩)
theorem b269_35 {X : (Nat → Int) × Nat} {d : Nat} {s : mSt} {Q : mQ} {x1 : Int} {x2 : Int} (h_1 : (s 425 0) ≤ x2 → Wp X d 269 54 [some (mR 407), some (mI x1), some (mI x2)] [] s Q) (h_2 : ¬ (s 425 0) ≤ x2 → Wp X d 269 45 [some (mR 407), some (mI x1), some (mI x2)] [] s Q) : Wp X d 269 35 [some (mR 407), some (mI x1), some (mI x2)] [] s Q := Wp_step k269 f269_35 (Wp_step k269 f269_36 (Wp_step k269 f269_37 ⟨kf_407, 425, rf_407_39, Wp_step k269 f269_40 (Wp_step k269 f269_41 ⟨2, af_425, ⟨by decide, by decide⟩, Wp_step k269 f269_42 ⟨h_1, h_2⟩⟩)⟩))
theorem b269_45 {X : (Nat → Int) × Nat} {d : Nat} {s : mSt} {Q : mQ} {x1 : Int} {x2 : Int} (h_1 : 0 ≤ x2 ∧ x2 < 120) (h_2 : Wp X d 269 56 [some (mR 407), some (mI x1), some (mI x2)] [mI (s 424 x2.toNat)] s Q) : Wp X d 269 45 [some (mR 407), some (mI x1), some (mI x2)] [] s Q := Wp_step k269 f269_45 (Wp_step k269 f269_46 ⟨kf_407, 424, rf_407_38, Wp_step k269 f269_49 (Wp_step k269 f269_50 ⟨120, af_424, h_1, Wp_step k269 f269_51 (h_2)⟩)⟩)
theorem b269_54 {X : (Nat → Int) × Nat} {d : Nat} {s : mSt} {Q : mQ} {x1 : Int} {x2 : Int} (h_1 : Wp X d 269 56 [some (mR 407), some (mI x1), some (mI x2)] [mI (-2)] s Q) : Wp X d 269 54 [some (mR 407), some (mI x1), some (mI x2)] [] s Q := Wp_step k269 f269_54 (h_1)
theorem b269_56 {X : (Nat → Int) × Nat} {d : Nat} {s : mSt} {Q : mQ} {x1 : Int} {x2 : Int} {xt0 : Int} (h_1 : Q (some (mI xt0)) s) : Wp X d 269 56 [some (mR 407), some (mI x1), some (mI x2)] [mI xt0] s Q := Wp_step k269 f269_56 ⟨⟨rfl, trivial⟩, h_1⟩
theorem e269 {X : (Nat → Int) × Nat} {d : Nat} {s : mSt} {Q : mQ} {x1 : Int} {x2 : Int} (h : Wp X d 269 0 [some (mR 407), some (mI x1), some (mI x2)] [] s Q) : Sp X d 269 [mR 407, mI x1, mI x2] s Q := Sp_of (show mCe 269 = 0 by decide +kernel) (by rw [show mML 269 = 3 by decide +kernel]; rfl) (Nat.le_trans (Nat.le_of_ble_eq_true (show Nat.ble (mArgs _).length 3 = true from rfl)) (show 3 ≤ mML 269 by decide +kernel)) h
-- 270 ClashDayModel.first(III)I
theorem k270 : mRk 270 = 1 := by decide +kernel
theorem f270_0 : mFetch 270 0 = some (.aload_n 0, 1, 0, 0, 0, 0) := by decide +kernel
theorem f270_1 : mFetch 270 1 = some (.iload_n 1, 1, 0, 0, 0, 0) := by decide +kernel
theorem f270_2 : mFetch 270 2 = some (.invokevirtual 334, 3, 216, 0, 2, 12) := by decide +kernel
theorem f270_5 : mFetch 270 5 = some (.ifCond .eq 26, 3, 31, 0, 0, 0) := by decide +kernel
theorem f270_8 : mFetch 270 8 = some (.aload_n 0, 1, 0, 0, 0, 0) := by decide +kernel
theorem f270_9 : mFetch 270 9 = some (.iload_n 2, 1, 0, 0, 0, 0) := by decide +kernel
theorem f270_10 : mFetch 270 10 = some (.invokevirtual 334, 3, 216, 0, 2, 12) := by decide +kernel
theorem f270_13 : mFetch 270 13 = some (.ifCond .eq 18, 3, 31, 0, 0, 0) := by decide +kernel
theorem f270_16 : mFetch 270 16 = some (.iload_n 1, 1, 0, 0, 0, 0) := by decide +kernel
theorem f270_17 : mFetch 270 17 = some (.iload_n 2, 1, 0, 0, 0, 0) := by decide +kernel
theorem f270_18 : mFetch 270 18 = some (.if_icmp .eq 13, 3, 31, 0, 0, 0) := by decide +kernel
theorem f270_21 : mFetch 270 21 = some (.iload_n 3, 1, 0, 0, 0, 0) := by decide +kernel
theorem f270_22 : mFetch 270 22 = some (.i2l, 1, 0, 0, 0, 0) := by decide +kernel
theorem f270_23 : mFetch 270 23 = some (.lconst 0, 1, 0, 0, 0, 0) := by decide +kernel
theorem f270_24 : mFetch 270 24 = some (.lconst 1, 1, 0, 0, 0, 0) := by decide +kernel
theorem f270_25 : mFetch 270 25 = some (.invokestatic 151, 3, 167, 0, 3, 99) := by decide +kernel
theorem f270_28 : mFetch 270 28 = some (.ifCond .ne 5, 3, 33, 0, 0, 0) := by decide +kernel
theorem f270_31 : mFetch 270 31 = some (.iconst (-1), 1, 0, 0, 0, 0) := by decide +kernel
theorem f270_32 : mFetch 270 32 = some (.ireturn, 1, 0, 0, 0, 0) := by decide +kernel
theorem f270_33 : mFetch 270 33 = some (.aload_n 0, 1, 0, 0, 0, 0) := by decide +kernel
theorem f270_34 : mFetch 270 34 = some (.iconst 0, 1, 0, 0, 0, 0) := by decide +kernel
theorem f270_35 : mFetch 270 35 = some (.iload_n 1, 1, 0, 0, 0, 0) := by decide +kernel
theorem f270_36 : mFetch 270 36 = some (.invokevirtual 474, 3, 268, 0, 3, 12) := by decide +kernel
theorem f270_39 : mFetch 270 39 = some (.aload_n 0, 1, 0, 0, 0, 0) := by decide +kernel
theorem f270_40 : mFetch 270 40 = some (.iconst 1, 1, 0, 0, 0, 0) := by decide +kernel
theorem f270_41 : mFetch 270 41 = some (.iload_n 2, 1, 0, 0, 0, 0) := by decide +kernel
theorem f270_42 : mFetch 270 42 = some (.invokevirtual 474, 3, 268, 0, 3, 12) := by decide +kernel
theorem f270_45 : mFetch 270 45 = some (.iconst 0, 1, 0, 0, 0, 0) := by decide +kernel
theorem f270_46 : mFetch 270 46 = some (.istore 4, 2, 0, 0, 0, 0) := by decide +kernel
theorem f270_48 : mFetch 270 48 = some (.iload 4, 2, 0, 0, 0, 0) := by decide +kernel
theorem f270_50 : mFetch 270 50 = some (.aload_n 0, 1, 0, 0, 0, 0) := by decide +kernel
theorem f270_51 : mFetch 270 51 = some (.getfield 67, 3, 12, 39, 2, 1) := by decide +kernel
theorem f270_54 : mFetch 270 54 = some (.iconst 0, 1, 0, 0, 0, 0) := by decide +kernel
theorem f270_55 : mFetch 270 55 = some (.iaload, 1, 0, 0, 0, 0) := by decide +kernel
theorem f270_56 : mFetch 270 56 = some (.if_icmp .ge 40, 3, 96, 0, 0, 0) := by decide +kernel
theorem f270_59 : mFetch 270 59 = some (.iload 4, 2, 0, 0, 0, 0) := by decide +kernel
theorem f270_61 : mFetch 270 61 = some (.aload_n 0, 1, 0, 0, 0, 0) := by decide +kernel
theorem f270_62 : mFetch 270 62 = some (.getfield 67, 3, 12, 39, 2, 1) := by decide +kernel
theorem f270_65 : mFetch 270 65 = some (.iconst 1, 1, 0, 0, 0, 0) := by decide +kernel
theorem f270_66 : mFetch 270 66 = some (.iaload, 1, 0, 0, 0, 0) := by decide +kernel
theorem f270_67 : mFetch 270 67 = some (.if_icmp .ge 29, 3, 96, 0, 0, 0) := by decide +kernel
theorem f270_70 : mFetch 270 70 = some (.aload_n 0, 1, 0, 0, 0, 0) := by decide +kernel
theorem f270_71 : mFetch 270 71 = some (.getfield 64, 3, 12, 38, 2, 1) := by decide +kernel
theorem f270_74 : mFetch 270 74 = some (.iload 4, 2, 0, 0, 0, 0) := by decide +kernel
theorem f270_76 : mFetch 270 76 = some (.iaload, 1, 0, 0, 0, 0) := by decide +kernel
theorem f270_77 : mFetch 270 77 = some (.aload_n 0, 1, 0, 0, 0, 0) := by decide +kernel
theorem f270_78 : mFetch 270 78 = some (.getfield 64, 3, 12, 38, 2, 1) := by decide +kernel
theorem f270_81 : mFetch 270 81 = some (.bipush 60, 2, 0, 0, 0, 0) := by decide +kernel
theorem f270_83 : mFetch 270 83 = some (.iload 4, 2, 0, 0, 0, 0) := by decide +kernel
theorem f270_85 : mFetch 270 85 = some (.iadd, 1, 0, 0, 0, 0) := by decide +kernel
theorem f270_86 : mFetch 270 86 = some (.iaload, 1, 0, 0, 0, 0) := by decide +kernel
theorem f270_87 : mFetch 270 87 = some (.if_icmp .ne 9, 3, 96, 0, 0, 0) := by decide +kernel
theorem f270_90 : mFetch 270 90 = some (.iinc 4 1, 3, 0, 0, 0, 0) := by decide +kernel
theorem f270_93 : mFetch 270 93 = some (.goto (-45), 3, 48, 0, 0, 0) := by decide +kernel
theorem f270_96 : mFetch 270 96 = some (.iload_n 3, 1, 0, 0, 0, 0) := by decide +kernel
theorem f270_97 : mFetch 270 97 = some (.iconst 1, 1, 0, 0, 0, 0) := by decide +kernel
theorem f270_98 : mFetch 270 98 = some (.if_icmp .ne 6, 3, 104, 0, 0, 0) := by decide +kernel
theorem f270_101 : mFetch 270 101 = some (.iload 4, 2, 0, 0, 0, 0) := by decide +kernel
theorem f270_103 : mFetch 270 103 = some (.ireturn, 1, 0, 0, 0, 0) := by decide +kernel
theorem f270_104 : mFetch 270 104 = some (.iload 4, 2, 0, 0, 0, 0) := by decide +kernel
theorem f270_106 : mFetch 270 106 = some (.aload_n 0, 1, 0, 0, 0, 0) := by decide +kernel
theorem f270_107 : mFetch 270 107 = some (.getfield 67, 3, 12, 39, 2, 1) := by decide +kernel
theorem f270_110 : mFetch 270 110 = some (.iconst 0, 1, 0, 0, 0, 0) := by decide +kernel
theorem f270_111 : mFetch 270 111 = some (.iaload, 1, 0, 0, 0, 0) := by decide +kernel
theorem f270_112 : mFetch 270 112 = some (.if_icmp .eq 14, 3, 126, 0, 0, 0) := by decide +kernel
theorem f270_115 : mFetch 270 115 = some (.iload 4, 2, 0, 0, 0, 0) := by decide +kernel
theorem f270_117 : mFetch 270 117 = some (.aload_n 0, 1, 0, 0, 0, 0) := by decide +kernel
theorem f270_118 : mFetch 270 118 = some (.getfield 67, 3, 12, 39, 2, 1) := by decide +kernel
theorem f270_121 : mFetch 270 121 = some (.iconst 1, 1, 0, 0, 0, 0) := by decide +kernel
theorem f270_122 : mFetch 270 122 = some (.iaload, 1, 0, 0, 0, 0) := by decide +kernel
theorem f270_123 : mFetch 270 123 = some (.if_icmp .ne 44, 3, 167, 0, 0, 0) := by decide +kernel
theorem f270_126 : mFetch 270 126 = some (.aload_n 0, 1, 0, 0, 0, 0) := by decide +kernel
theorem f270_127 : mFetch 270 127 = some (.getfield 67, 3, 12, 39, 2, 1) := by decide +kernel
theorem f270_130 : mFetch 270 130 = some (.iconst 0, 1, 0, 0, 0, 0) := by decide +kernel
theorem f270_131 : mFetch 270 131 = some (.iaload, 1, 0, 0, 0, 0) := by decide +kernel
theorem f270_132 : mFetch 270 132 = some (.aload_n 0, 1, 0, 0, 0, 0) := by decide +kernel
theorem f270_133 : mFetch 270 133 = some (.getfield 67, 3, 12, 39, 2, 1) := by decide +kernel
theorem f270_136 : mFetch 270 136 = some (.iconst 1, 1, 0, 0, 0, 0) := by decide +kernel
theorem f270_137 : mFetch 270 137 = some (.iaload, 1, 0, 0, 0, 0) := by decide +kernel
theorem f270_138 : mFetch 270 138 = some (.if_icmp .ne 8, 3, 146, 0, 0, 0) := by decide +kernel
theorem f270_141 : mFetch 270 141 = some (.bipush (-2), 2, 0, 0, 0, 0) := by decide +kernel
theorem f270_143 : mFetch 270 143 = some (.goto 23, 3, 166, 0, 0, 0) := by decide +kernel
theorem f270_146 : mFetch 270 146 = some (.aload_n 0, 1, 0, 0, 0, 0) := by decide +kernel
theorem f270_147 : mFetch 270 147 = some (.getfield 67, 3, 12, 39, 2, 1) := by decide +kernel
theorem f270_150 : mFetch 270 150 = some (.iconst 0, 1, 0, 0, 0, 0) := by decide +kernel
theorem f270_151 : mFetch 270 151 = some (.iaload, 1, 0, 0, 0, 0) := by decide +kernel
theorem f270_152 : mFetch 270 152 = some (.aload_n 0, 1, 0, 0, 0, 0) := by decide +kernel
theorem f270_153 : mFetch 270 153 = some (.getfield 67, 3, 12, 39, 2, 1) := by decide +kernel
theorem f270_156 : mFetch 270 156 = some (.iconst 1, 1, 0, 0, 0, 0) := by decide +kernel
theorem f270_157 : mFetch 270 157 = some (.iaload, 1, 0, 0, 0, 0) := by decide +kernel
theorem f270_158 : mFetch 270 158 = some (.if_icmp .ge 7, 3, 165, 0, 0, 0) := by decide +kernel
theorem f270_161 : mFetch 270 161 = some (.iload_n 1, 1, 0, 0, 0, 0) := by decide +kernel
theorem f270_162 : mFetch 270 162 = some (.goto 4, 3, 166, 0, 0, 0) := by decide +kernel
theorem f270_165 : mFetch 270 165 = some (.iload_n 2, 1, 0, 0, 0, 0) := by decide +kernel
theorem f270_166 : mFetch 270 166 = some (.ireturn, 1, 0, 0, 0, 0) := by decide +kernel
theorem f270_167 : mFetch 270 167 = some (.aload_n 0, 1, 0, 0, 0, 0) := by decide +kernel
theorem f270_168 : mFetch 270 168 = some (.getfield 64, 3, 12, 38, 2, 1) := by decide +kernel
theorem f270_171 : mFetch 270 171 = some (.iload 4, 2, 0, 0, 0, 0) := by decide +kernel
theorem f270_173 : mFetch 270 173 = some (.iaload, 1, 0, 0, 0, 0) := by decide +kernel
theorem f270_174 : mFetch 270 174 = some (.aload_n 0, 1, 0, 0, 0, 0) := by decide +kernel
theorem f270_175 : mFetch 270 175 = some (.getfield 64, 3, 12, 38, 2, 1) := by decide +kernel
theorem f270_178 : mFetch 270 178 = some (.bipush 60, 2, 0, 0, 0, 0) := by decide +kernel
theorem f270_180 : mFetch 270 180 = some (.iload 4, 2, 0, 0, 0, 0) := by decide +kernel
theorem f270_182 : mFetch 270 182 = some (.iadd, 1, 0, 0, 0, 0) := by decide +kernel
theorem f270_183 : mFetch 270 183 = some (.iaload, 1, 0, 0, 0, 0) := by decide +kernel
theorem f270_184 : mFetch 270 184 = some (.if_icmp .ge 7, 3, 191, 0, 0, 0) := by decide +kernel
theorem f270_187 : mFetch 270 187 = some (.iload_n 1, 1, 0, 0, 0, 0) := by decide +kernel
theorem f270_188 : mFetch 270 188 = some (.goto 4, 3, 192, 0, 0, 0) := by decide +kernel
theorem f270_191 : mFetch 270 191 = some (.iload_n 2, 1, 0, 0, 0, 0) := by decide +kernel
theorem f270_192 : mFetch 270 192 = some (.ireturn, 1, 0, 0, 0, 0) := by decide +kernel
theorem b270_0 {X : (Nat → Int) × Nat} {d : Nat} {s : mSt} {Q : mQ} {x1 : Int} {x2 : Int} {x3 : Int} {l4 : Option mV} (h_1 : Sp X d 216 [mR 407, mI x1] s (fun r s' => ∃ v : Int, r = some (mI v) ∧ Wp X (d + 1) 270 5 [some (mR 407), some (mI x1), some (mI x2), some (mI x3), l4] [mI v] s' Q)) : Wp X (d + 1) 270 0 [some (mR 407), some (mI x1), some (mI x2), some (mI x3), l4] [] s Q := Wp_step k270 f270_0 (Wp_step k270 f270_1 (Wp_step k270 f270_2 ⟨⟨kf_407, Nat.le_of_ble_eq_true rfl⟩, Nat.le_refl _, _, rfl, Sp_E h_1⟩))
theorem b270_5 {X : (Nat → Int) × Nat} {d : Nat} {s : mSt} {Q : mQ} {x1 : Int} {x2 : Int} {x3 : Int} {l4 : Option mV} {xt0 : Int} (h_1 : xt0 = 0 → Wp X d 270 31 [some (mR 407), some (mI x1), some (mI x2), some (mI x3), l4] [] s Q) (h_2 : ¬ xt0 = 0 → Wp X d 270 8 [some (mR 407), some (mI x1), some (mI x2), some (mI x3), l4] [] s Q) : Wp X d 270 5 [some (mR 407), some (mI x1), some (mI x2), some (mI x3), l4] [mI xt0] s Q := Wp_step k270 f270_5 ⟨h_1, h_2⟩
theorem b270_8 {X : (Nat → Int) × Nat} {d : Nat} {s : mSt} {Q : mQ} {x1 : Int} {x2 : Int} {x3 : Int} {l4 : Option mV} (h_1 : Sp X d 216 [mR 407, mI x2] s (fun r s' => ∃ v : Int, r = some (mI v) ∧ Wp X (d + 1) 270 13 [some (mR 407), some (mI x1), some (mI x2), some (mI x3), l4] [mI v] s' Q)) : Wp X (d + 1) 270 8 [some (mR 407), some (mI x1), some (mI x2), some (mI x3), l4] [] s Q := Wp_step k270 f270_8 (Wp_step k270 f270_9 (Wp_step k270 f270_10 ⟨⟨kf_407, Nat.le_of_ble_eq_true rfl⟩, Nat.le_refl _, _, rfl, Sp_E h_1⟩))
theorem b270_13 {X : (Nat → Int) × Nat} {d : Nat} {s : mSt} {Q : mQ} {x1 : Int} {x2 : Int} {x3 : Int} {l4 : Option mV} {xt0 : Int} (h_1 : xt0 = 0 → Wp X d 270 31 [some (mR 407), some (mI x1), some (mI x2), some (mI x3), l4] [] s Q) (h_2 : ¬ xt0 = 0 → Wp X d 270 16 [some (mR 407), some (mI x1), some (mI x2), some (mI x3), l4] [] s Q) : Wp X d 270 13 [some (mR 407), some (mI x1), some (mI x2), some (mI x3), l4] [mI xt0] s Q := Wp_step k270 f270_13 ⟨h_1, h_2⟩
theorem b270_16 {X : (Nat → Int) × Nat} {d : Nat} {s : mSt} {Q : mQ} {x1 : Int} {x2 : Int} {x3 : Int} {l4 : Option mV} (h_1 : x1 = x2 → Wp X d 270 31 [some (mR 407), some (mI x1), some (mI x2), some (mI x3), l4] [] s Q) (h_2 : ¬ x1 = x2 → Wp X d 270 21 [some (mR 407), some (mI x1), some (mI x2), some (mI x3), l4] [] s Q) : Wp X d 270 16 [some (mR 407), some (mI x1), some (mI x2), some (mI x3), l4] [] s Q := Wp_step k270 f270_16 (Wp_step k270 f270_17 (Wp_step k270 f270_18 ⟨h_1, h_2⟩))
theorem b270_21 {X : (Nat → Int) × Nat} {d : Nat} {s : mSt} {Q : mQ} {x1 : Int} {x2 : Int} {x3 : Int} {l4 : Option mV} (h_1 : Sp X d 167 [mJ x3, mJ 0, mJ 1] s (fun r s' => ∃ v : Int, r = some (mI v) ∧ Wp X (d + 1) 270 28 [some (mR 407), some (mI x1), some (mI x2), some (mI x3), l4] [mI v] s' Q)) : Wp X (d + 1) 270 21 [some (mR 407), some (mI x1), some (mI x2), some (mI x3), l4] [] s Q := Wp_step k270 f270_21 (Wp_step k270 f270_22 (Wp_step k270 f270_23 (Wp_step k270 f270_24 (Wp_step k270 f270_25 ⟨⟨Nat.le_of_ble_eq_true rfl, Nat.le_refl _⟩, _, rfl, Sp_E h_1⟩))))
theorem b270_28 {X : (Nat → Int) × Nat} {d : Nat} {s : mSt} {Q : mQ} {x1 : Int} {x2 : Int} {x3 : Int} {l4 : Option mV} {xt0 : Int} (h_1 : ¬ xt0 = 0 → Wp X d 270 33 [some (mR 407), some (mI x1), some (mI x2), some (mI x3), l4] [] s Q) (h_2 : xt0 = 0 → Wp X d 270 31 [some (mR 407), some (mI x1), some (mI x2), some (mI x3), l4] [] s Q) : Wp X d 270 28 [some (mR 407), some (mI x1), some (mI x2), some (mI x3), l4] [mI xt0] s Q := Wp_step k270 f270_28 ⟨h_1, h_2⟩
theorem b270_31 {X : (Nat → Int) × Nat} {d : Nat} {s : mSt} {Q : mQ} {x1 : Int} {x2 : Int} {x3 : Int} {l4 : Option mV} (h_1 : Q (some (mI (-1))) s) : Wp X d 270 31 [some (mR 407), some (mI x1), some (mI x2), some (mI x3), l4] [] s Q := Wp_step k270 f270_31 (Wp_step k270 f270_32 ⟨⟨rfl, trivial⟩, h_1⟩)
theorem b270_33 {X : (Nat → Int) × Nat} {d : Nat} {s : mSt} {Q : mQ} {x1 : Int} {x2 : Int} {x3 : Int} {l4 : Option mV} (h_1 : Sp X d 268 [mR 407, mI 0, mI x1] s (fun r s' => r = none ∧ Wp X (d + 1) 270 39 [some (mR 407), some (mI x1), some (mI x2), some (mI x3), l4] [] s' Q)) : Wp X (d + 1) 270 33 [some (mR 407), some (mI x1), some (mI x2), some (mI x3), l4] [] s Q := Wp_step k270 f270_33 (Wp_step k270 f270_34 (Wp_step k270 f270_35 (Wp_step k270 f270_36 ⟨⟨kf_407, Nat.le_of_ble_eq_true rfl⟩, Nat.le_refl _, _, rfl, Sp_V h_1⟩)))
theorem b270_39 {X : (Nat → Int) × Nat} {d : Nat} {s : mSt} {Q : mQ} {x1 : Int} {x2 : Int} {x3 : Int} {l4 : Option mV} (h_1 : Sp X d 268 [mR 407, mI 1, mI x2] s (fun r s' => r = none ∧ Wp X (d + 1) 270 45 [some (mR 407), some (mI x1), some (mI x2), some (mI x3), l4] [] s' Q)) : Wp X (d + 1) 270 39 [some (mR 407), some (mI x1), some (mI x2), some (mI x3), l4] [] s Q := Wp_step k270 f270_39 (Wp_step k270 f270_40 (Wp_step k270 f270_41 (Wp_step k270 f270_42 ⟨⟨kf_407, Nat.le_of_ble_eq_true rfl⟩, Nat.le_refl _, _, rfl, Sp_V h_1⟩)))
theorem b270_45 {X : (Nat → Int) × Nat} {d : Nat} {s : mSt} {Q : mQ} {x1 : Int} {x2 : Int} {x3 : Int} {l4 : Option mV} (h_1 : Wp X d 270 48 [some (mR 407), some (mI x1), some (mI x2), some (mI x3), some (mI 0)] [] s Q) : Wp X d 270 45 [some (mR 407), some (mI x1), some (mI x2), some (mI x3), l4] [] s Q := Wp_step k270 f270_45 (Wp_step k270 f270_46 (h_1))
theorem b270_48 {X : (Nat → Int) × Nat} {d : Nat} {s : mSt} {Q : mQ} {x1 : Int} {x2 : Int} {x3 : Int} {x4 : Int} (h_1 : (s 425 0) ≤ x4 → Wp X d 270 96 [some (mR 407), some (mI x1), some (mI x2), some (mI x3), some (mI x4)] [] s Q) (h_2 : ¬ (s 425 0) ≤ x4 → Wp X d 270 59 [some (mR 407), some (mI x1), some (mI x2), some (mI x3), some (mI x4)] [] s Q) : Wp X d 270 48 [some (mR 407), some (mI x1), some (mI x2), some (mI x3), some (mI x4)] [] s Q := Wp_step k270 f270_48 (Wp_step k270 f270_50 (Wp_step k270 f270_51 ⟨kf_407, 425, rf_407_39, Wp_step k270 f270_54 (Wp_step k270 f270_55 ⟨2, af_425, ⟨by decide, by decide⟩, Wp_step k270 f270_56 ⟨h_1, h_2⟩⟩)⟩))
theorem b270_59 {X : (Nat → Int) × Nat} {d : Nat} {s : mSt} {Q : mQ} {x1 : Int} {x2 : Int} {x3 : Int} {x4 : Int} (h_1 : (s 425 1) ≤ x4 → Wp X d 270 96 [some (mR 407), some (mI x1), some (mI x2), some (mI x3), some (mI x4)] [] s Q) (h_2 : ¬ (s 425 1) ≤ x4 → Wp X d 270 70 [some (mR 407), some (mI x1), some (mI x2), some (mI x3), some (mI x4)] [] s Q) : Wp X d 270 59 [some (mR 407), some (mI x1), some (mI x2), some (mI x3), some (mI x4)] [] s Q := Wp_step k270 f270_59 (Wp_step k270 f270_61 (Wp_step k270 f270_62 ⟨kf_407, 425, rf_407_39, Wp_step k270 f270_65 (Wp_step k270 f270_66 ⟨2, af_425, ⟨by decide, by decide⟩, Wp_step k270 f270_67 ⟨h_1, h_2⟩⟩)⟩))
theorem b270_70 {X : (Nat → Int) × Nat} {d : Nat} {s : mSt} {Q : mQ} {x1 : Int} {x2 : Int} {x3 : Int} {x4 : Int} (h_1 : 0 ≤ x4 ∧ x4 < 120) (h_2 : 0 ≤ (w32 (60 + x4)) ∧ (w32 (60 + x4)) < 120) (h_3 : ¬ (s 424 x4.toNat) = (s 424 (w32 (60 + x4)).toNat) → Wp X d 270 96 [some (mR 407), some (mI x1), some (mI x2), some (mI x3), some (mI x4)] [] s Q) (h_4 : (s 424 x4.toNat) = (s 424 (w32 (60 + x4)).toNat) → Wp X d 270 90 [some (mR 407), some (mI x1), some (mI x2), some (mI x3), some (mI x4)] [] s Q) : Wp X d 270 70 [some (mR 407), some (mI x1), some (mI x2), some (mI x3), some (mI x4)] [] s Q := Wp_step k270 f270_70 (Wp_step k270 f270_71 ⟨kf_407, 424, rf_407_38, Wp_step k270 f270_74 (Wp_step k270 f270_76 ⟨120, af_424, h_1, Wp_step k270 f270_77 (Wp_step k270 f270_78 ⟨kf_407, 424, rf_407_38, Wp_step k270 f270_81 (Wp_step k270 f270_83 (Wp_step k270 f270_85 (Wp_step k270 f270_86 ⟨120, af_424, h_2, Wp_step k270 f270_87 ⟨h_3, h_4⟩⟩)))⟩)⟩)⟩)
theorem b270_90 {X : (Nat → Int) × Nat} {d : Nat} {s : mSt} {Q : mQ} {x1 : Int} {x2 : Int} {x3 : Int} {x4 : Int} (h_1 : Wp X d 270 48 [some (mR 407), some (mI x1), some (mI x2), some (mI x3), some (mI (w32 (x4 + 1)))] [] s Q) : Wp X d 270 90 [some (mR 407), some (mI x1), some (mI x2), some (mI x3), some (mI x4)] [] s Q := Wp_step k270 f270_90 (Wp_step k270 f270_93 (h_1))
theorem b270_96 {X : (Nat → Int) × Nat} {d : Nat} {s : mSt} {Q : mQ} {x1 : Int} {x2 : Int} {x3 : Int} {x4 : Int} (h_1 : ¬ x3 = 1 → Wp X d 270 104 [some (mR 407), some (mI x1), some (mI x2), some (mI x3), some (mI x4)] [] s Q) (h_2 : x3 = 1 → Wp X d 270 101 [some (mR 407), some (mI x1), some (mI x2), some (mI x3), some (mI x4)] [] s Q) : Wp X d 270 96 [some (mR 407), some (mI x1), some (mI x2), some (mI x3), some (mI x4)] [] s Q := Wp_step k270 f270_96 (Wp_step k270 f270_97 (Wp_step k270 f270_98 ⟨h_1, h_2⟩))
theorem b270_101 {X : (Nat → Int) × Nat} {d : Nat} {s : mSt} {Q : mQ} {x1 : Int} {x2 : Int} {x3 : Int} {x4 : Int} (h_1 : Q (some (mI x4)) s) : Wp X d 270 101 [some (mR 407), some (mI x1), some (mI x2), some (mI x3), some (mI x4)] [] s Q := Wp_step k270 f270_101 (Wp_step k270 f270_103 ⟨⟨rfl, trivial⟩, h_1⟩)
theorem b270_104 {X : (Nat → Int) × Nat} {d : Nat} {s : mSt} {Q : mQ} {x1 : Int} {x2 : Int} {x3 : Int} {x4 : Int} (h_1 : x4 = (s 425 0) → Wp X d 270 126 [some (mR 407), some (mI x1), some (mI x2), some (mI x3), some (mI x4)] [] s Q) (h_2 : ¬ x4 = (s 425 0) → Wp X d 270 115 [some (mR 407), some (mI x1), some (mI x2), some (mI x3), some (mI x4)] [] s Q) : Wp X d 270 104 [some (mR 407), some (mI x1), some (mI x2), some (mI x3), some (mI x4)] [] s Q := Wp_step k270 f270_104 (Wp_step k270 f270_106 (Wp_step k270 f270_107 ⟨kf_407, 425, rf_407_39, Wp_step k270 f270_110 (Wp_step k270 f270_111 ⟨2, af_425, ⟨by decide, by decide⟩, Wp_step k270 f270_112 ⟨h_1, h_2⟩⟩)⟩))
theorem b270_115 {X : (Nat → Int) × Nat} {d : Nat} {s : mSt} {Q : mQ} {x1 : Int} {x2 : Int} {x3 : Int} {x4 : Int} (h_1 : ¬ x4 = (s 425 1) → Wp X d 270 167 [some (mR 407), some (mI x1), some (mI x2), some (mI x3), some (mI x4)] [] s Q) (h_2 : x4 = (s 425 1) → Wp X d 270 126 [some (mR 407), some (mI x1), some (mI x2), some (mI x3), some (mI x4)] [] s Q) : Wp X d 270 115 [some (mR 407), some (mI x1), some (mI x2), some (mI x3), some (mI x4)] [] s Q := Wp_step k270 f270_115 (Wp_step k270 f270_117 (Wp_step k270 f270_118 ⟨kf_407, 425, rf_407_39, Wp_step k270 f270_121 (Wp_step k270 f270_122 ⟨2, af_425, ⟨by decide, by decide⟩, Wp_step k270 f270_123 ⟨h_1, h_2⟩⟩)⟩))
theorem b270_126 {X : (Nat → Int) × Nat} {d : Nat} {s : mSt} {Q : mQ} {x1 : Int} {x2 : Int} {x3 : Int} {x4 : Int} (h_1 : ¬ (s 425 0) = (s 425 1) → Wp X d 270 146 [some (mR 407), some (mI x1), some (mI x2), some (mI x3), some (mI x4)] [] s Q) (h_2 : (s 425 0) = (s 425 1) → Wp X d 270 141 [some (mR 407), some (mI x1), some (mI x2), some (mI x3), some (mI x4)] [] s Q) : Wp X d 270 126 [some (mR 407), some (mI x1), some (mI x2), some (mI x3), some (mI x4)] [] s Q := Wp_step k270 f270_126 (Wp_step k270 f270_127 ⟨kf_407, 425, rf_407_39, Wp_step k270 f270_130 (Wp_step k270 f270_131 ⟨2, af_425, ⟨by decide, by decide⟩, Wp_step k270 f270_132 (Wp_step k270 f270_133 ⟨kf_407, 425, rf_407_39, Wp_step k270 f270_136 (Wp_step k270 f270_137 ⟨2, af_425, ⟨by decide, by decide⟩, Wp_step k270 f270_138 ⟨h_1, h_2⟩⟩)⟩)⟩)⟩)
theorem b270_141 {X : (Nat → Int) × Nat} {d : Nat} {s : mSt} {Q : mQ} {x1 : Int} {x2 : Int} {x3 : Int} {x4 : Int} (h_1 : Wp X d 270 166 [some (mR 407), some (mI x1), some (mI x2), some (mI x3), some (mI x4)] [mI (-2)] s Q) : Wp X d 270 141 [some (mR 407), some (mI x1), some (mI x2), some (mI x3), some (mI x4)] [] s Q := Wp_step k270 f270_141 (Wp_step k270 f270_143 (h_1))
theorem b270_146 {X : (Nat → Int) × Nat} {d : Nat} {s : mSt} {Q : mQ} {x1 : Int} {x2 : Int} {x3 : Int} {x4 : Int} (h_1 : (s 425 1) ≤ (s 425 0) → Wp X d 270 165 [some (mR 407), some (mI x1), some (mI x2), some (mI x3), some (mI x4)] [] s Q) (h_2 : ¬ (s 425 1) ≤ (s 425 0) → Wp X d 270 161 [some (mR 407), some (mI x1), some (mI x2), some (mI x3), some (mI x4)] [] s Q) : Wp X d 270 146 [some (mR 407), some (mI x1), some (mI x2), some (mI x3), some (mI x4)] [] s Q := Wp_step k270 f270_146 (Wp_step k270 f270_147 ⟨kf_407, 425, rf_407_39, Wp_step k270 f270_150 (Wp_step k270 f270_151 ⟨2, af_425, ⟨by decide, by decide⟩, Wp_step k270 f270_152 (Wp_step k270 f270_153 ⟨kf_407, 425, rf_407_39, Wp_step k270 f270_156 (Wp_step k270 f270_157 ⟨2, af_425, ⟨by decide, by decide⟩, Wp_step k270 f270_158 ⟨h_1, h_2⟩⟩)⟩)⟩)⟩)
theorem b270_161 {X : (Nat → Int) × Nat} {d : Nat} {s : mSt} {Q : mQ} {x1 : Int} {x2 : Int} {x3 : Int} {x4 : Int} (h_1 : Wp X d 270 166 [some (mR 407), some (mI x1), some (mI x2), some (mI x3), some (mI x4)] [mI x1] s Q) : Wp X d 270 161 [some (mR 407), some (mI x1), some (mI x2), some (mI x3), some (mI x4)] [] s Q := Wp_step k270 f270_161 (Wp_step k270 f270_162 (h_1))
theorem b270_165 {X : (Nat → Int) × Nat} {d : Nat} {s : mSt} {Q : mQ} {x1 : Int} {x2 : Int} {x3 : Int} {x4 : Int} (h_1 : Wp X d 270 166 [some (mR 407), some (mI x1), some (mI x2), some (mI x3), some (mI x4)] [mI x2] s Q) : Wp X d 270 165 [some (mR 407), some (mI x1), some (mI x2), some (mI x3), some (mI x4)] [] s Q := Wp_step k270 f270_165 (h_1)
theorem b270_166 {X : (Nat → Int) × Nat} {d : Nat} {s : mSt} {Q : mQ} {x1 : Int} {x2 : Int} {x3 : Int} {x4 : Int} {xt0 : Int} (h_1 : Q (some (mI xt0)) s) : Wp X d 270 166 [some (mR 407), some (mI x1), some (mI x2), some (mI x3), some (mI x4)] [mI xt0] s Q := Wp_step k270 f270_166 ⟨⟨rfl, trivial⟩, h_1⟩
theorem b270_167 {X : (Nat → Int) × Nat} {d : Nat} {s : mSt} {Q : mQ} {x1 : Int} {x2 : Int} {x3 : Int} {x4 : Int} (h_1 : 0 ≤ x4 ∧ x4 < 120) (h_2 : 0 ≤ (w32 (60 + x4)) ∧ (w32 (60 + x4)) < 120) (h_3 : (s 424 (w32 (60 + x4)).toNat) ≤ (s 424 x4.toNat) → Wp X d 270 191 [some (mR 407), some (mI x1), some (mI x2), some (mI x3), some (mI x4)] [] s Q) (h_4 : ¬ (s 424 (w32 (60 + x4)).toNat) ≤ (s 424 x4.toNat) → Wp X d 270 187 [some (mR 407), some (mI x1), some (mI x2), some (mI x3), some (mI x4)] [] s Q) : Wp X d 270 167 [some (mR 407), some (mI x1), some (mI x2), some (mI x3), some (mI x4)] [] s Q := Wp_step k270 f270_167 (Wp_step k270 f270_168 ⟨kf_407, 424, rf_407_38, Wp_step k270 f270_171 (Wp_step k270 f270_173 ⟨120, af_424, h_1, Wp_step k270 f270_174 (Wp_step k270 f270_175 ⟨kf_407, 424, rf_407_38, Wp_step k270 f270_178 (Wp_step k270 f270_180 (Wp_step k270 f270_182 (Wp_step k270 f270_183 ⟨120, af_424, h_2, Wp_step k270 f270_184 ⟨h_3, h_4⟩⟩)))⟩)⟩)⟩)
theorem b270_187 {X : (Nat → Int) × Nat} {d : Nat} {s : mSt} {Q : mQ} {x1 : Int} {x2 : Int} {x3 : Int} {x4 : Int} (h_1 : Wp X d 270 192 [some (mR 407), some (mI x1), some (mI x2), some (mI x3), some (mI x4)] [mI x1] s Q) : Wp X d 270 187 [some (mR 407), some (mI x1), some (mI x2), some (mI x3), some (mI x4)] [] s Q := Wp_step k270 f270_187 (Wp_step k270 f270_188 (h_1))
theorem b270_191 {X : (Nat → Int) × Nat} {d : Nat} {s : mSt} {Q : mQ} {x1 : Int} {x2 : Int} {x3 : Int} {x4 : Int} (h_1 : Wp X d 270 192 [some (mR 407), some (mI x1), some (mI x2), some (mI x3), some (mI x4)] [mI x2] s Q) : Wp X d 270 191 [some (mR 407), some (mI x1), some (mI x2), some (mI x3), some (mI x4)] [] s Q := Wp_step k270 f270_191 (h_1)
theorem b270_192 {X : (Nat → Int) × Nat} {d : Nat} {s : mSt} {Q : mQ} {x1 : Int} {x2 : Int} {x3 : Int} {x4 : Int} {xt0 : Int} (h_1 : Q (some (mI xt0)) s) : Wp X d 270 192 [some (mR 407), some (mI x1), some (mI x2), some (mI x3), some (mI x4)] [mI xt0] s Q := Wp_step k270 f270_192 ⟨⟨rfl, trivial⟩, h_1⟩
theorem e270 {X : (Nat → Int) × Nat} {d : Nat} {s : mSt} {Q : mQ} {x1 : Int} {x2 : Int} {x3 : Int} (h : Wp X d 270 0 [some (mR 407), some (mI x1), some (mI x2), some (mI x3), none] [] s Q) : Sp X d 270 [mR 407, mI x1, mI x2, mI x3] s Q := Sp_of (show mCe 270 = 0 by decide +kernel) (by rw [show mML 270 = 5 by decide +kernel]; rfl) (Nat.le_trans (Nat.le_of_ble_eq_true (show Nat.ble (mArgs _).length 5 = true from rfl)) (show 5 ≤ mML 270 by decide +kernel)) h
