-- 274 ClashDayModel.chain(III)I
theorem k274 : mRk 274 = 1 := by decide +kernel
theorem f274_0 : mFetch 274 0 = some (.iload_n 1, 1, 0, 0, 0, 0) := by decide +kernel
theorem f274_1 : mFetch 274 1 = some (.i2l, 1, 0, 0, 0, 0) := by decide +kernel
theorem f274_2 : mFetch 274 2 = some (.lconst 1, 1, 0, 0, 0, 0) := by decide +kernel
theorem f274_3 : mFetch 274 3 = some (.ldc2_w 477, 3, 6, 0, 0, 0) := by decide +kernel
theorem f274_6 : mFetch 274 6 = some (.invokestatic 151, 3, 167, 0, 3, 99) := by decide +kernel
theorem f274_9 : mFetch 274 9 = some (.ifCond .eq 23, 3, 32, 0, 0, 0) := by decide +kernel
theorem f274_12 : mFetch 274 12 = some (.aload_n 0, 1, 0, 0, 0, 0) := by decide +kernel
theorem f274_13 : mFetch 274 13 = some (.iload_n 2, 1, 0, 0, 0, 0) := by decide +kernel
theorem f274_14 : mFetch 274 14 = some (.invokevirtual 334, 3, 216, 0, 2, 12) := by decide +kernel
theorem f274_17 : mFetch 274 17 = some (.ifCond .eq 15, 3, 32, 0, 0, 0) := by decide +kernel
theorem f274_20 : mFetch 274 20 = some (.iload_n 3, 1, 0, 0, 0, 0) := by decide +kernel
theorem f274_21 : mFetch 274 21 = some (.i2l, 1, 0, 0, 0, 0) := by decide +kernel
theorem f274_22 : mFetch 274 22 = some (.lconst 0, 1, 0, 0, 0, 0) := by decide +kernel
theorem f274_23 : mFetch 274 23 = some (.ldc2_w 357, 3, 29, 0, 0, 0) := by decide +kernel
theorem f274_26 : mFetch 274 26 = some (.invokestatic 151, 3, 167, 0, 3, 99) := by decide +kernel
theorem f274_29 : mFetch 274 29 = some (.ifCond .ne 5, 3, 34, 0, 0, 0) := by decide +kernel
theorem f274_32 : mFetch 274 32 = some (.iconst (-1), 1, 0, 0, 0, 0) := by decide +kernel
theorem f274_33 : mFetch 274 33 = some (.ireturn, 1, 0, 0, 0, 0) := by decide +kernel
theorem f274_34 : mFetch 274 34 = some (.iconst 0, 1, 0, 0, 0, 0) := by decide +kernel
theorem f274_35 : mFetch 274 35 = some (.istore 4, 2, 0, 0, 0, 0) := by decide +kernel
theorem f274_37 : mFetch 274 37 = some (.iload 4, 2, 0, 0, 0, 0) := by decide +kernel
theorem f274_39 : mFetch 274 39 = some (.bipush 6, 2, 0, 0, 0, 0) := by decide +kernel
theorem f274_41 : mFetch 274 41 = some (.if_icmp .ge 17, 3, 58, 0, 0, 0) := by decide +kernel
theorem f274_44 : mFetch 274 44 = some (.aload_n 0, 1, 0, 0, 0, 0) := by decide +kernel
theorem f274_45 : mFetch 274 45 = some (.getfield 70, 3, 12, 40, 2, 1) := by decide +kernel
theorem f274_48 : mFetch 274 48 = some (.iload 4, 2, 0, 0, 0, 0) := by decide +kernel
theorem f274_50 : mFetch 274 50 = some (.iconst (-1), 1, 0, 0, 0, 0) := by decide +kernel
theorem f274_51 : mFetch 274 51 = some (.iastore, 1, 0, 0, 0, 0) := by decide +kernel
theorem f274_52 : mFetch 274 52 = some (.iinc 4 1, 3, 0, 0, 0, 0) := by decide +kernel
theorem f274_55 : mFetch 274 55 = some (.goto (-18), 3, 37, 0, 0, 0) := by decide +kernel
theorem f274_58 : mFetch 274 58 = some (.iconst 0, 1, 0, 0, 0, 0) := by decide +kernel
theorem f274_59 : mFetch 274 59 = some (.istore 4, 2, 0, 0, 0, 0) := by decide +kernel
theorem f274_61 : mFetch 274 61 = some (.iload 4, 2, 0, 0, 0, 0) := by decide +kernel
theorem f274_63 : mFetch 274 63 = some (.iload_n 3, 1, 0, 0, 0, 0) := by decide +kernel
theorem f274_64 : mFetch 274 64 = some (.if_icmp .gt 16, 3, 80, 0, 0, 0) := by decide +kernel
theorem f274_67 : mFetch 274 67 = some (.aload_n 0, 1, 0, 0, 0, 0) := by decide +kernel
theorem f274_68 : mFetch 274 68 = some (.iload_n 1, 1, 0, 0, 0, 0) := by decide +kernel
theorem f274_69 : mFetch 274 69 = some (.iload 4, 2, 0, 0, 0, 0) := by decide +kernel
theorem f274_71 : mFetch 274 71 = some (.invokevirtual 482, 3, 273, 0, 3, 12) := by decide +kernel
theorem f274_74 : mFetch 274 74 = some (.iinc 4 1, 3, 0, 0, 0, 0) := by decide +kernel
theorem f274_77 : mFetch 274 77 = some (.goto (-16), 3, 61, 0, 0, 0) := by decide +kernel
theorem f274_80 : mFetch 274 80 = some (.aload_n 0, 1, 0, 0, 0, 0) := by decide +kernel
theorem f274_81 : mFetch 274 81 = some (.getfield 70, 3, 12, 40, 2, 1) := by decide +kernel
theorem f274_84 : mFetch 274 84 = some (.iload_n 2, 1, 0, 0, 0, 0) := by decide +kernel
theorem f274_85 : mFetch 274 85 = some (.iaload, 1, 0, 0, 0, 0) := by decide +kernel
theorem f274_86 : mFetch 274 86 = some (.ifCond .ge 8, 3, 94, 0, 0, 0) := by decide +kernel
theorem f274_89 : mFetch 274 89 = some (.bipush (-2), 2, 0, 0, 0, 0) := by decide +kernel
theorem f274_91 : mFetch 274 91 = some (.goto 9, 3, 100, 0, 0, 0) := by decide +kernel
theorem f274_94 : mFetch 274 94 = some (.aload_n 0, 1, 0, 0, 0, 0) := by decide +kernel
theorem f274_95 : mFetch 274 95 = some (.getfield 70, 3, 12, 40, 2, 1) := by decide +kernel
theorem f274_98 : mFetch 274 98 = some (.iload_n 2, 1, 0, 0, 0, 0) := by decide +kernel
theorem f274_99 : mFetch 274 99 = some (.iaload, 1, 0, 0, 0, 0) := by decide +kernel
theorem f274_100 : mFetch 274 100 = some (.ireturn, 1, 0, 0, 0, 0) := by decide +kernel
theorem b274_0 {X : (Nat → Int) × Nat} {d : Nat} {s : mSt} {Q : mQ} {x1 : Int} {x2 : Int} {x3 : Int} (h_1 : Sp X d 167 [mJ x1, mJ 1, mJ 6] s (fun r s' => ∃ v : Int, r = some (mI v) ∧ Wp X (d + 1) 274 9 [some (mR 407), some (mI x1), some (mI x2), some (mI x3), none] [mI v] s' Q)) : Wp X (d + 1) 274 0 [some (mR 407), some (mI x1), some (mI x2), some (mI x3), none] [] s Q := Wp_step k274 f274_0 (Wp_step k274 f274_1 (Wp_step k274 f274_2 (Wp_step k274 f274_3 (Wp_step k274 f274_6 ⟨⟨Nat.le_of_ble_eq_true rfl, Nat.le_refl _⟩, _, rfl, Sp_E h_1⟩))))
theorem b274_9 {X : (Nat → Int) × Nat} {d : Nat} {s : mSt} {Q : mQ} {x1 : Int} {x2 : Int} {x3 : Int} {xt0 : Int} (h_1 : xt0 = 0 → Wp X d 274 32 [some (mR 407), some (mI x1), some (mI x2), some (mI x3), none] [] s Q) (h_2 : ¬ xt0 = 0 → Wp X d 274 12 [some (mR 407), some (mI x1), some (mI x2), some (mI x3), none] [] s Q) : Wp X d 274 9 [some (mR 407), some (mI x1), some (mI x2), some (mI x3), none] [mI xt0] s Q := Wp_step k274 f274_9 ⟨h_1, h_2⟩
theorem b274_12 {X : (Nat → Int) × Nat} {d : Nat} {s : mSt} {Q : mQ} {x1 : Int} {x2 : Int} {x3 : Int} (h_1 : Sp X d 216 [mR 407, mI x2] s (fun r s' => ∃ v : Int, r = some (mI v) ∧ Wp X (d + 1) 274 17 [some (mR 407), some (mI x1), some (mI x2), some (mI x3), none] [mI v] s' Q)) : Wp X (d + 1) 274 12 [some (mR 407), some (mI x1), some (mI x2), some (mI x3), none] [] s Q := Wp_step k274 f274_12 (Wp_step k274 f274_13 (Wp_step k274 f274_14 ⟨⟨kf_407, Nat.le_of_ble_eq_true rfl⟩, Nat.le_refl _, _, rfl, Sp_E h_1⟩))
theorem b274_17 {X : (Nat → Int) × Nat} {d : Nat} {s : mSt} {Q : mQ} {x1 : Int} {x2 : Int} {x3 : Int} {xt0 : Int} (h_1 : xt0 = 0 → Wp X d 274 32 [some (mR 407), some (mI x1), some (mI x2), some (mI x3), none] [] s Q) (h_2 : ¬ xt0 = 0 → Wp X d 274 20 [some (mR 407), some (mI x1), some (mI x2), some (mI x3), none] [] s Q) : Wp X d 274 17 [some (mR 407), some (mI x1), some (mI x2), some (mI x3), none] [mI xt0] s Q := Wp_step k274 f274_17 ⟨h_1, h_2⟩
theorem b274_20 {X : (Nat → Int) × Nat} {d : Nat} {s : mSt} {Q : mQ} {x1 : Int} {x2 : Int} {x3 : Int} (h_1 : Sp X d 167 [mJ x3, mJ 0, mJ 29] s (fun r s' => ∃ v : Int, r = some (mI v) ∧ Wp X (d + 1) 274 29 [some (mR 407), some (mI x1), some (mI x2), some (mI x3), none] [mI v] s' Q)) : Wp X (d + 1) 274 20 [some (mR 407), some (mI x1), some (mI x2), some (mI x3), none] [] s Q := Wp_step k274 f274_20 (Wp_step k274 f274_21 (Wp_step k274 f274_22 (Wp_step k274 f274_23 (Wp_step k274 f274_26 ⟨⟨Nat.le_of_ble_eq_true rfl, Nat.le_refl _⟩, _, rfl, Sp_E h_1⟩))))
theorem b274_29 {X : (Nat → Int) × Nat} {d : Nat} {s : mSt} {Q : mQ} {x1 : Int} {x2 : Int} {x3 : Int} {xt0 : Int} (h_1 : ¬ xt0 = 0 → Wp X d 274 34 [some (mR 407), some (mI x1), some (mI x2), some (mI x3), none] [] s Q) (h_2 : xt0 = 0 → Wp X d 274 32 [some (mR 407), some (mI x1), some (mI x2), some (mI x3), none] [] s Q) : Wp X d 274 29 [some (mR 407), some (mI x1), some (mI x2), some (mI x3), none] [mI xt0] s Q := Wp_step k274 f274_29 ⟨h_1, h_2⟩
theorem b274_32 {X : (Nat → Int) × Nat} {d : Nat} {s : mSt} {Q : mQ} {x1 : Int} {x2 : Int} {x3 : Int} (h_1 : Q (some (mI (-1))) s) : Wp X d 274 32 [some (mR 407), some (mI x1), some (mI x2), some (mI x3), none] [] s Q := Wp_step k274 f274_32 (Wp_step k274 f274_33 ⟨⟨rfl, trivial⟩, h_1⟩)
theorem b274_34 {X : (Nat → Int) × Nat} {d : Nat} {s : mSt} {Q : mQ} {x1 : Int} {x2 : Int} {x3 : Int} (h_1 : Wp X d 274 37 [some (mR 407), some (mI x1), some (mI x2), some (mI x3), some (mI 0)] [] s Q) : Wp X d 274 34 [some (mR 407), some (mI x1), some (mI x2), some (mI x3), none] [] s Q := Wp_step k274 f274_34 (Wp_step k274 f274_35 (h_1))
theorem b274_37 {X : (Nat → Int) × Nat} {d : Nat} {s : mSt} {Q : mQ} {x1 : Int} {x2 : Int} {x3 : Int} {x4 : Int} (h_1 : 6 ≤ x4 → Wp X d 274 58 [some (mR 407), some (mI x1), some (mI x2), some (mI x3), some (mI x4)] [] s Q) (h_2 : ¬ 6 ≤ x4 → Wp X d 274 44 [some (mR 407), some (mI x1), some (mI x2), some (mI x3), some (mI x4)] [] s Q) : Wp X d 274 37 [some (mR 407), some (mI x1), some (mI x2), some (mI x3), some (mI x4)] [] s Q := Wp_step k274 f274_37 (Wp_step k274 f274_39 (Wp_step k274 f274_41 ⟨h_1, h_2⟩))
theorem b274_44 {X : (Nat → Int) × Nat} {d : Nat} {s : mSt} {Q : mQ} {x1 : Int} {x2 : Int} {x3 : Int} {x4 : Int} (h_1 : 0 ≤ x4 ∧ x4 < 6) (h_2 : Wp X d 274 37 [some (mR 407), some (mI x1), some (mI x2), some (mI x3), some (mI (w32 (x4 + 1)))] [] (uS s 426 x4.toNat (-1)) Q) : Wp X d 274 44 [some (mR 407), some (mI x1), some (mI x2), some (mI x3), some (mI x4)] [] s Q := Wp_step k274 f274_44 (Wp_step k274 f274_45 ⟨kf_407, 426, rf_407_40, Wp_step k274 f274_48 (Wp_step k274 f274_50 (Wp_step k274 f274_51 ⟨6, af_426, h_1, Wp_step k274 f274_52 (Wp_step k274 f274_55 (h_2))⟩))⟩)
theorem b274_58 {X : (Nat → Int) × Nat} {d : Nat} {s : mSt} {Q : mQ} {x1 : Int} {x2 : Int} {x3 : Int} {x4 : Int} (h_1 : Wp X d 274 61 [some (mR 407), some (mI x1), some (mI x2), some (mI x3), some (mI 0)] [] s Q) : Wp X d 274 58 [some (mR 407), some (mI x1), some (mI x2), some (mI x3), some (mI x4)] [] s Q := Wp_step k274 f274_58 (Wp_step k274 f274_59 (h_1))
theorem b274_61 {X : (Nat → Int) × Nat} {d : Nat} {s : mSt} {Q : mQ} {x1 : Int} {x2 : Int} {x3 : Int} {x4 : Int} (h_1 : x3 < x4 → Wp X d 274 80 [some (mR 407), some (mI x1), some (mI x2), some (mI x3), some (mI x4)] [] s Q) (h_2 : ¬ x3 < x4 → Wp X d 274 67 [some (mR 407), some (mI x1), some (mI x2), some (mI x3), some (mI x4)] [] s Q) : Wp X d 274 61 [some (mR 407), some (mI x1), some (mI x2), some (mI x3), some (mI x4)] [] s Q := Wp_step k274 f274_61 (Wp_step k274 f274_63 (Wp_step k274 f274_64 ⟨h_1, h_2⟩))
theorem b274_67 {X : (Nat → Int) × Nat} {d : Nat} {s : mSt} {Q : mQ} {x1 : Int} {x2 : Int} {x3 : Int} {x4 : Int} (h_1 : Sp X d 273 [mR 407, mI x1, mI x4] s (fun r s' => r = none ∧ Wp X (d + 1) 274 74 [some (mR 407), some (mI x1), some (mI x2), some (mI x3), some (mI x4)] [] s' Q)) : Wp X (d + 1) 274 67 [some (mR 407), some (mI x1), some (mI x2), some (mI x3), some (mI x4)] [] s Q := Wp_step k274 f274_67 (Wp_step k274 f274_68 (Wp_step k274 f274_69 (Wp_step k274 f274_71 ⟨⟨kf_407, Nat.le_of_ble_eq_true rfl⟩, Nat.le_refl _, _, rfl, Sp_V h_1⟩)))
theorem b274_74 {X : (Nat → Int) × Nat} {d : Nat} {s : mSt} {Q : mQ} {x1 : Int} {x2 : Int} {x3 : Int} {x4 : Int} (h_1 : Wp X d 274 61 [some (mR 407), some (mI x1), some (mI x2), some (mI x3), some (mI (w32 (x4 + 1)))] [] s Q) : Wp X d 274 74 [some (mR 407), some (mI x1), some (mI x2), some (mI x3), some (mI x4)] [] s Q := Wp_step k274 f274_74 (Wp_step k274 f274_77 (h_1))
theorem b274_80 {X : (Nat → Int) × Nat} {d : Nat} {s : mSt} {Q : mQ} {x1 : Int} {x2 : Int} {x3 : Int} {x4 : Int} (h_1 : 0 ≤ x2 ∧ x2 < 6) (h_2 : 0 ≤ (s 426 x2.toNat) → Wp X d 274 94 [some (mR 407), some (mI x1), some (mI x2), some (mI x3), some (mI x4)] [] s Q) (h_3 : ¬ 0 ≤ (s 426 x2.toNat) → Wp X d 274 89 [some (mR 407), some (mI x1), some (mI x2), some (mI x3), some (mI x4)] [] s Q) : Wp X d 274 80 [some (mR 407), some (mI x1), some (mI x2), some (mI x3), some (mI x4)] [] s Q := Wp_step k274 f274_80 (Wp_step k274 f274_81 ⟨kf_407, 426, rf_407_40, Wp_step k274 f274_84 (Wp_step k274 f274_85 ⟨6, af_426, h_1, Wp_step k274 f274_86 ⟨h_2, h_3⟩⟩)⟩)
theorem b274_89 {X : (Nat → Int) × Nat} {d : Nat} {s : mSt} {Q : mQ} {x1 : Int} {x2 : Int} {x3 : Int} {x4 : Int} (h_1 : Wp X d 274 100 [some (mR 407), some (mI x1), some (mI x2), some (mI x3), some (mI x4)] [mI (-2)] s Q) : Wp X d 274 89 [some (mR 407), some (mI x1), some (mI x2), some (mI x3), some (mI x4)] [] s Q := Wp_step k274 f274_89 (Wp_step k274 f274_91 (h_1))
theorem b274_94 {X : (Nat → Int) × Nat} {d : Nat} {s : mSt} {Q : mQ} {x1 : Int} {x2 : Int} {x3 : Int} {x4 : Int} (h_1 : 0 ≤ x2 ∧ x2 < 6) (h_2 : Wp X d 274 100 [some (mR 407), some (mI x1), some (mI x2), some (mI x3), some (mI x4)] [mI (s 426 x2.toNat)] s Q) : Wp X d 274 94 [some (mR 407), some (mI x1), some (mI x2), some (mI x3), some (mI x4)] [] s Q := Wp_step k274 f274_94 (Wp_step k274 f274_95 ⟨kf_407, 426, rf_407_40, Wp_step k274 f274_98 (Wp_step k274 f274_99 ⟨6, af_426, h_1, h_2⟩)⟩)
theorem b274_100 {X : (Nat → Int) × Nat} {d : Nat} {s : mSt} {Q : mQ} {x1 : Int} {x2 : Int} {x3 : Int} {x4 : Int} {xt0 : Int} (h_1 : Q (some (mI xt0)) s) : Wp X d 274 100 [some (mR 407), some (mI x1), some (mI x2), some (mI x3), some (mI x4)] [mI xt0] s Q := Wp_step k274 f274_100 ⟨⟨rfl, trivial⟩, h_1⟩
theorem e274 {X : (Nat → Int) × Nat} {d : Nat} {s : mSt} {Q : mQ} {x1 : Int} {x2 : Int} {x3 : Int} (h : Wp X d 274 0 [some (mR 407), some (mI x1), some (mI x2), some (mI x3), none] [] s Q) : Sp X d 274 [mR 407, mI x1, mI x2, mI x3] s Q := Sp_of (show mCe 274 = 0 by decide +kernel) (by rw [show mML 274 = 5 by decide +kernel]; rfl) (Nat.le_trans (Nat.le_of_ble_eq_true (show Nat.ble (mArgs _).length 5 = true from rfl)) (show 5 ≤ mML 274 by decide +kernel)) h
-- 275 ClashDayModel.mustNotMeet(III)Z
theorem k275 : mRk 275 = 2 := by decide +kernel
theorem f275_0 : mFetch 275 0 = some (.aload_n 0, 1, 0, 0, 0, 0) := by decide +kernel
theorem f275_1 : mFetch 275 1 = some (.iload_n 1, 1, 0, 0, 0, 0) := by decide +kernel
theorem f275_2 : mFetch 275 2 = some (.iload_n 3, 1, 0, 0, 0, 0) := by decide +kernel
theorem f275_3 : mFetch 275 3 = some (.invokevirtual 337, 3, 222, 0, 3, 12) := by decide +kernel
theorem f275_6 : mFetch 275 6 = some (.ifCond .ge 12, 3, 18, 0, 0, 0) := by decide +kernel
theorem f275_9 : mFetch 275 9 = some (.aload_n 0, 1, 0, 0, 0, 0) := by decide +kernel
theorem f275_10 : mFetch 275 10 = some (.iload_n 2, 1, 0, 0, 0, 0) := by decide +kernel
theorem f275_11 : mFetch 275 11 = some (.iload_n 3, 1, 0, 0, 0, 0) := by decide +kernel
theorem f275_12 : mFetch 275 12 = some (.invokevirtual 337, 3, 222, 0, 3, 12) := by decide +kernel
theorem f275_15 : mFetch 275 15 = some (.ifCond .lt 5, 3, 20, 0, 0, 0) := by decide +kernel
theorem f275_18 : mFetch 275 18 = some (.iconst 0, 1, 0, 0, 0, 0) := by decide +kernel
theorem f275_19 : mFetch 275 19 = some (.ireturn, 1, 0, 0, 0, 0) := by decide +kernel
theorem f275_20 : mFetch 275 20 = some (.iconst 0, 1, 0, 0, 0, 0) := by decide +kernel
theorem f275_21 : mFetch 275 21 = some (.istore 4, 2, 0, 0, 0, 0) := by decide +kernel
theorem f275_23 : mFetch 275 23 = some (.iload 4, 2, 0, 0, 0, 0) := by decide +kernel
theorem f275_25 : mFetch 275 25 = some (.aload_n 0, 1, 0, 0, 0, 0) := by decide +kernel
theorem f275_26 : mFetch 275 26 = some (.getfield 39, 3, 12, 20, 2, 1) := by decide +kernel
theorem f275_29 : mFetch 275 29 = some (.iconst 3, 1, 0, 0, 0, 0) := by decide +kernel
theorem f275_30 : mFetch 275 30 = some (.iaload, 1, 0, 0, 0, 0) := by decide +kernel
theorem f275_31 : mFetch 275 31 = some (.if_icmp .ge 53, 3, 84, 0, 0, 0) := by decide +kernel
theorem f275_34 : mFetch 275 34 = some (.aload_n 0, 1, 0, 0, 0, 0) := by decide +kernel
theorem f275_35 : mFetch 275 35 = some (.iload_n 1, 1, 0, 0, 0, 0) := by decide +kernel
theorem f275_36 : mFetch 275 36 = some (.iload 4, 2, 0, 0, 0, 0) := by decide +kernel
theorem f275_38 : mFetch 275 38 = some (.invokevirtual 321, 3, 217, 0, 3, 12) := by decide +kernel
theorem f275_41 : mFetch 275 41 = some (.ifCond .eq 37, 3, 78, 0, 0, 0) := by decide +kernel
theorem f275_44 : mFetch 275 44 = some (.aload_n 0, 1, 0, 0, 0, 0) := by decide +kernel
theorem f275_45 : mFetch 275 45 = some (.iload_n 2, 1, 0, 0, 0, 0) := by decide +kernel
theorem f275_46 : mFetch 275 46 = some (.iload 4, 2, 0, 0, 0, 0) := by decide +kernel
theorem f275_48 : mFetch 275 48 = some (.invokevirtual 321, 3, 217, 0, 3, 12) := by decide +kernel
theorem f275_51 : mFetch 275 51 = some (.ifCond .eq 27, 3, 78, 0, 0, 0) := by decide +kernel
theorem f275_54 : mFetch 275 54 = some (.aload_n 0, 1, 0, 0, 0, 0) := by decide +kernel
theorem f275_55 : mFetch 275 55 = some (.iload_n 1, 1, 0, 0, 0, 0) := by decide +kernel
theorem f275_56 : mFetch 275 56 = some (.iload 4, 2, 0, 0, 0, 0) := by decide +kernel
theorem f275_58 : mFetch 275 58 = some (.invokevirtual 331, 3, 218, 0, 3, 12) := by decide +kernel
theorem f275_61 : mFetch 275 61 = some (.iload_n 3, 1, 0, 0, 0, 0) := by decide +kernel
theorem f275_62 : mFetch 275 62 = some (.if_icmp .le 16, 3, 78, 0, 0, 0) := by decide +kernel
theorem f275_65 : mFetch 275 65 = some (.aload_n 0, 1, 0, 0, 0, 0) := by decide +kernel
theorem f275_66 : mFetch 275 66 = some (.iload_n 2, 1, 0, 0, 0, 0) := by decide +kernel
theorem f275_67 : mFetch 275 67 = some (.iload 4, 2, 0, 0, 0, 0) := by decide +kernel
theorem f275_69 : mFetch 275 69 = some (.invokevirtual 331, 3, 218, 0, 3, 12) := by decide +kernel
theorem f275_72 : mFetch 275 72 = some (.iload_n 3, 1, 0, 0, 0, 0) := by decide +kernel
theorem f275_73 : mFetch 275 73 = some (.if_icmp .gt 5, 3, 78, 0, 0, 0) := by decide +kernel
theorem f275_76 : mFetch 275 76 = some (.iconst 1, 1, 0, 0, 0, 0) := by decide +kernel
theorem f275_77 : mFetch 275 77 = some (.ireturn, 1, 0, 0, 0, 0) := by decide +kernel
theorem f275_78 : mFetch 275 78 = some (.iinc 4 1, 3, 0, 0, 0, 0) := by decide +kernel
theorem f275_81 : mFetch 275 81 = some (.goto (-58), 3, 23, 0, 0, 0) := by decide +kernel
theorem f275_84 : mFetch 275 84 = some (.iconst 0, 1, 0, 0, 0, 0) := by decide +kernel
theorem f275_85 : mFetch 275 85 = some (.ireturn, 1, 0, 0, 0, 0) := by decide +kernel
theorem b275_0 {X : (Nat → Int) × Nat} {d : Nat} {s : mSt} {Q : mQ} {x1 : Int} {x2 : Int} {x3 : Int} (h_1 : Sp X d 222 [mR 407, mI x1, mI x3] s (fun r s' => ∃ v : Int, r = some (mI v) ∧ Wp X (d + 1) 275 6 [some (mR 407), some (mI x1), some (mI x2), some (mI x3), none] [mI v] s' Q)) : Wp X (d + 1) 275 0 [some (mR 407), some (mI x1), some (mI x2), some (mI x3), none] [] s Q := Wp_step k275 f275_0 (Wp_step k275 f275_1 (Wp_step k275 f275_2 (Wp_step k275 f275_3 ⟨⟨kf_407, Nat.le_of_ble_eq_true rfl⟩, Nat.le_refl _, _, rfl, Sp_E h_1⟩)))
theorem b275_6 {X : (Nat → Int) × Nat} {d : Nat} {s : mSt} {Q : mQ} {x1 : Int} {x2 : Int} {x3 : Int} {xt0 : Int} (h_1 : 0 ≤ xt0 → Wp X d 275 18 [some (mR 407), some (mI x1), some (mI x2), some (mI x3), none] [] s Q) (h_2 : ¬ 0 ≤ xt0 → Wp X d 275 9 [some (mR 407), some (mI x1), some (mI x2), some (mI x3), none] [] s Q) : Wp X d 275 6 [some (mR 407), some (mI x1), some (mI x2), some (mI x3), none] [mI xt0] s Q := Wp_step k275 f275_6 ⟨h_1, h_2⟩
theorem b275_9 {X : (Nat → Int) × Nat} {d : Nat} {s : mSt} {Q : mQ} {x1 : Int} {x2 : Int} {x3 : Int} (h_1 : Sp X d 222 [mR 407, mI x2, mI x3] s (fun r s' => ∃ v : Int, r = some (mI v) ∧ Wp X (d + 1) 275 15 [some (mR 407), some (mI x1), some (mI x2), some (mI x3), none] [mI v] s' Q)) : Wp X (d + 1) 275 9 [some (mR 407), some (mI x1), some (mI x2), some (mI x3), none] [] s Q := Wp_step k275 f275_9 (Wp_step k275 f275_10 (Wp_step k275 f275_11 (Wp_step k275 f275_12 ⟨⟨kf_407, Nat.le_of_ble_eq_true rfl⟩, Nat.le_refl _, _, rfl, Sp_E h_1⟩)))
theorem b275_15 {X : (Nat → Int) × Nat} {d : Nat} {s : mSt} {Q : mQ} {x1 : Int} {x2 : Int} {x3 : Int} {xt0 : Int} (h_1 : xt0 < 0 → Wp X d 275 20 [some (mR 407), some (mI x1), some (mI x2), some (mI x3), none] [] s Q) (h_2 : ¬ xt0 < 0 → Wp X d 275 18 [some (mR 407), some (mI x1), some (mI x2), some (mI x3), none] [] s Q) : Wp X d 275 15 [some (mR 407), some (mI x1), some (mI x2), some (mI x3), none] [mI xt0] s Q := Wp_step k275 f275_15 ⟨h_1, h_2⟩
theorem b275_18 {X : (Nat → Int) × Nat} {d : Nat} {s : mSt} {Q : mQ} {x1 : Int} {x2 : Int} {x3 : Int} (h_1 : Q (some (mI 0)) s) : Wp X d 275 18 [some (mR 407), some (mI x1), some (mI x2), some (mI x3), none] [] s Q := Wp_step k275 f275_18 (Wp_step k275 f275_19 ⟨⟨rfl, (Or.inl rfl)⟩, h_1⟩)
theorem b275_20 {X : (Nat → Int) × Nat} {d : Nat} {s : mSt} {Q : mQ} {x1 : Int} {x2 : Int} {x3 : Int} (h_1 : Wp X d 275 23 [some (mR 407), some (mI x1), some (mI x2), some (mI x3), some (mI 0)] [] s Q) : Wp X d 275 20 [some (mR 407), some (mI x1), some (mI x2), some (mI x3), none] [] s Q := Wp_step k275 f275_20 (Wp_step k275 f275_21 (h_1))
theorem b275_23 {X : (Nat → Int) × Nat} {d : Nat} {s : mSt} {Q : mQ} {x1 : Int} {x2 : Int} {x3 : Int} {x4 : Int} (h_1 : (s 417 3) ≤ x4 → Wp X d 275 84 [some (mR 407), some (mI x1), some (mI x2), some (mI x3), some (mI x4)] [] s Q) (h_2 : ¬ (s 417 3) ≤ x4 → Wp X d 275 34 [some (mR 407), some (mI x1), some (mI x2), some (mI x3), some (mI x4)] [] s Q) : Wp X d 275 23 [some (mR 407), some (mI x1), some (mI x2), some (mI x3), some (mI x4)] [] s Q := Wp_step k275 f275_23 (Wp_step k275 f275_25 (Wp_step k275 f275_26 ⟨kf_407, 417, rf_407_20, Wp_step k275 f275_29 (Wp_step k275 f275_30 ⟨166, af_417, ⟨by decide, by decide⟩, Wp_step k275 f275_31 ⟨h_1, h_2⟩⟩)⟩))
theorem b275_34 {X : (Nat → Int) × Nat} {d : Nat} {s : mSt} {Q : mQ} {x1 : Int} {x2 : Int} {x3 : Int} {x4 : Int} (h_1 : Sp X d 217 [mR 407, mI x1, mI x4] s (fun r s' => ∃ v : Int, r = some (mI v) ∧ Wp X (d + 1) 275 41 [some (mR 407), some (mI x1), some (mI x2), some (mI x3), some (mI x4)] [mI v] s' Q)) : Wp X (d + 1) 275 34 [some (mR 407), some (mI x1), some (mI x2), some (mI x3), some (mI x4)] [] s Q := Wp_step k275 f275_34 (Wp_step k275 f275_35 (Wp_step k275 f275_36 (Wp_step k275 f275_38 ⟨⟨kf_407, Nat.le_of_ble_eq_true rfl⟩, Nat.le_refl _, _, rfl, Sp_E h_1⟩)))
theorem b275_41 {X : (Nat → Int) × Nat} {d : Nat} {s : mSt} {Q : mQ} {x1 : Int} {x2 : Int} {x3 : Int} {x4 : Int} {xt0 : Int} (h_1 : xt0 = 0 → Wp X d 275 78 [some (mR 407), some (mI x1), some (mI x2), some (mI x3), some (mI x4)] [] s Q) (h_2 : ¬ xt0 = 0 → Wp X d 275 44 [some (mR 407), some (mI x1), some (mI x2), some (mI x3), some (mI x4)] [] s Q) : Wp X d 275 41 [some (mR 407), some (mI x1), some (mI x2), some (mI x3), some (mI x4)] [mI xt0] s Q := Wp_step k275 f275_41 ⟨h_1, h_2⟩
theorem b275_44 {X : (Nat → Int) × Nat} {d : Nat} {s : mSt} {Q : mQ} {x1 : Int} {x2 : Int} {x3 : Int} {x4 : Int} (h_1 : Sp X d 217 [mR 407, mI x2, mI x4] s (fun r s' => ∃ v : Int, r = some (mI v) ∧ Wp X (d + 1) 275 51 [some (mR 407), some (mI x1), some (mI x2), some (mI x3), some (mI x4)] [mI v] s' Q)) : Wp X (d + 1) 275 44 [some (mR 407), some (mI x1), some (mI x2), some (mI x3), some (mI x4)] [] s Q := Wp_step k275 f275_44 (Wp_step k275 f275_45 (Wp_step k275 f275_46 (Wp_step k275 f275_48 ⟨⟨kf_407, Nat.le_of_ble_eq_true rfl⟩, Nat.le_refl _, _, rfl, Sp_E h_1⟩)))
theorem b275_51 {X : (Nat → Int) × Nat} {d : Nat} {s : mSt} {Q : mQ} {x1 : Int} {x2 : Int} {x3 : Int} {x4 : Int} {xt0 : Int} (h_1 : xt0 = 0 → Wp X d 275 78 [some (mR 407), some (mI x1), some (mI x2), some (mI x3), some (mI x4)] [] s Q) (h_2 : ¬ xt0 = 0 → Wp X d 275 54 [some (mR 407), some (mI x1), some (mI x2), some (mI x3), some (mI x4)] [] s Q) : Wp X d 275 51 [some (mR 407), some (mI x1), some (mI x2), some (mI x3), some (mI x4)] [mI xt0] s Q := Wp_step k275 f275_51 ⟨h_1, h_2⟩
theorem b275_54 {X : (Nat → Int) × Nat} {d : Nat} {s : mSt} {Q : mQ} {x1 : Int} {x2 : Int} {x3 : Int} {x4 : Int} (h_1 : Sp X d 218 [mR 407, mI x1, mI x4] s (fun r s' => ∃ v : Int, r = some (mI v) ∧ Wp X (d + 1) 275 61 [some (mR 407), some (mI x1), some (mI x2), some (mI x3), some (mI x4)] [mI v] s' Q)) : Wp X (d + 1) 275 54 [some (mR 407), some (mI x1), some (mI x2), some (mI x3), some (mI x4)] [] s Q := Wp_step k275 f275_54 (Wp_step k275 f275_55 (Wp_step k275 f275_56 (Wp_step k275 f275_58 ⟨⟨kf_407, Nat.le_of_ble_eq_true rfl⟩, Nat.le_refl _, _, rfl, Sp_E h_1⟩)))
theorem b275_61 {X : (Nat → Int) × Nat} {d : Nat} {s : mSt} {Q : mQ} {x1 : Int} {x2 : Int} {x3 : Int} {x4 : Int} {xt0 : Int} (h_1 : xt0 ≤ x3 → Wp X d 275 78 [some (mR 407), some (mI x1), some (mI x2), some (mI x3), some (mI x4)] [] s Q) (h_2 : ¬ xt0 ≤ x3 → Wp X d 275 65 [some (mR 407), some (mI x1), some (mI x2), some (mI x3), some (mI x4)] [] s Q) : Wp X d 275 61 [some (mR 407), some (mI x1), some (mI x2), some (mI x3), some (mI x4)] [mI xt0] s Q := Wp_step k275 f275_61 (Wp_step k275 f275_62 ⟨h_1, h_2⟩)
theorem b275_65 {X : (Nat → Int) × Nat} {d : Nat} {s : mSt} {Q : mQ} {x1 : Int} {x2 : Int} {x3 : Int} {x4 : Int} (h_1 : Sp X d 218 [mR 407, mI x2, mI x4] s (fun r s' => ∃ v : Int, r = some (mI v) ∧ Wp X (d + 1) 275 72 [some (mR 407), some (mI x1), some (mI x2), some (mI x3), some (mI x4)] [mI v] s' Q)) : Wp X (d + 1) 275 65 [some (mR 407), some (mI x1), some (mI x2), some (mI x3), some (mI x4)] [] s Q := Wp_step k275 f275_65 (Wp_step k275 f275_66 (Wp_step k275 f275_67 (Wp_step k275 f275_69 ⟨⟨kf_407, Nat.le_of_ble_eq_true rfl⟩, Nat.le_refl _, _, rfl, Sp_E h_1⟩)))
theorem b275_72 {X : (Nat → Int) × Nat} {d : Nat} {s : mSt} {Q : mQ} {x1 : Int} {x2 : Int} {x3 : Int} {x4 : Int} {xt0 : Int} (h_1 : x3 < xt0 → Wp X d 275 78 [some (mR 407), some (mI x1), some (mI x2), some (mI x3), some (mI x4)] [] s Q) (h_2 : ¬ x3 < xt0 → Wp X d 275 76 [some (mR 407), some (mI x1), some (mI x2), some (mI x3), some (mI x4)] [] s Q) : Wp X d 275 72 [some (mR 407), some (mI x1), some (mI x2), some (mI x3), some (mI x4)] [mI xt0] s Q := Wp_step k275 f275_72 (Wp_step k275 f275_73 ⟨h_1, h_2⟩)
theorem b275_76 {X : (Nat → Int) × Nat} {d : Nat} {s : mSt} {Q : mQ} {x1 : Int} {x2 : Int} {x3 : Int} {x4 : Int} (h_1 : Q (some (mI 1)) s) : Wp X d 275 76 [some (mR 407), some (mI x1), some (mI x2), some (mI x3), some (mI x4)] [] s Q := Wp_step k275 f275_76 (Wp_step k275 f275_77 ⟨⟨rfl, (Or.inr rfl)⟩, h_1⟩)
theorem b275_78 {X : (Nat → Int) × Nat} {d : Nat} {s : mSt} {Q : mQ} {x1 : Int} {x2 : Int} {x3 : Int} {x4 : Int} (h_1 : Wp X d 275 23 [some (mR 407), some (mI x1), some (mI x2), some (mI x3), some (mI (w32 (x4 + 1)))] [] s Q) : Wp X d 275 78 [some (mR 407), some (mI x1), some (mI x2), some (mI x3), some (mI x4)] [] s Q := Wp_step k275 f275_78 (Wp_step k275 f275_81 (h_1))
theorem b275_84 {X : (Nat → Int) × Nat} {d : Nat} {s : mSt} {Q : mQ} {x1 : Int} {x2 : Int} {x3 : Int} {x4 : Int} (h_1 : Q (some (mI 0)) s) : Wp X d 275 84 [some (mR 407), some (mI x1), some (mI x2), some (mI x3), some (mI x4)] [] s Q := Wp_step k275 f275_84 (Wp_step k275 f275_85 ⟨⟨rfl, (Or.inl rfl)⟩, h_1⟩)
theorem e275 {X : (Nat → Int) × Nat} {d : Nat} {s : mSt} {Q : mQ} {x1 : Int} {x2 : Int} {x3 : Int} (h : Wp X d 275 0 [some (mR 407), some (mI x1), some (mI x2), some (mI x3), none] [] s Q) : Sp X d 275 [mR 407, mI x1, mI x2, mI x3] s Q := Sp_of (show mCe 275 = 0 by decide +kernel) (by rw [show mML 275 = 5 by decide +kernel]; rfl) (Nat.le_trans (Nat.le_of_ble_eq_true (show Nat.ble (mArgs _).length 5 = true from rfl)) (show 5 ≤ mML 275 by decide +kernel)) h
-- 276 ClashDayModel.apart(II)I
theorem k276 : mRk 276 = 1 := by decide +kernel
theorem f276_0 : mFetch 276 0 = some (.aload_n 0, 1, 0, 0, 0, 0) := by decide +kernel
theorem f276_1 : mFetch 276 1 = some (.iload_n 1, 1, 0, 0, 0, 0) := by decide +kernel
theorem f276_2 : mFetch 276 2 = some (.invokevirtual 334, 3, 216, 0, 2, 12) := by decide +kernel
theorem f276_5 : mFetch 276 5 = some (.ifCond .eq 16, 3, 21, 0, 0, 0) := by decide +kernel
theorem f276_8 : mFetch 276 8 = some (.aload_n 0, 1, 0, 0, 0, 0) := by decide +kernel
theorem f276_9 : mFetch 276 9 = some (.iload_n 2, 1, 0, 0, 0, 0) := by decide +kernel
theorem f276_10 : mFetch 276 10 = some (.invokevirtual 334, 3, 216, 0, 2, 12) := by decide +kernel
theorem f276_13 : mFetch 276 13 = some (.ifCond .eq 8, 3, 21, 0, 0, 0) := by decide +kernel
theorem f276_16 : mFetch 276 16 = some (.iload_n 1, 1, 0, 0, 0, 0) := by decide +kernel
theorem f276_17 : mFetch 276 17 = some (.iload_n 2, 1, 0, 0, 0, 0) := by decide +kernel
theorem f276_18 : mFetch 276 18 = some (.if_icmp .ne 5, 3, 23, 0, 0, 0) := by decide +kernel
theorem f276_21 : mFetch 276 21 = some (.iconst (-1), 1, 0, 0, 0, 0) := by decide +kernel
theorem f276_22 : mFetch 276 22 = some (.ireturn, 1, 0, 0, 0, 0) := by decide +kernel
theorem f276_23 : mFetch 276 23 = some (.iconst 0, 1, 0, 0, 0, 0) := by decide +kernel
theorem f276_24 : mFetch 276 24 = some (.istore_n 3, 1, 0, 0, 0, 0) := by decide +kernel
theorem f276_25 : mFetch 276 25 = some (.iconst 0, 1, 0, 0, 0, 0) := by decide +kernel
theorem f276_26 : mFetch 276 26 = some (.istore 4, 2, 0, 0, 0, 0) := by decide +kernel
theorem f276_28 : mFetch 276 28 = some (.iload 4, 2, 0, 0, 0, 0) := by decide +kernel
theorem f276_30 : mFetch 276 30 = some (.bipush 30, 2, 0, 0, 0, 0) := by decide +kernel
theorem f276_32 : mFetch 276 32 = some (.if_icmp .ge 28, 3, 60, 0, 0, 0) := by decide +kernel
theorem f276_35 : mFetch 276 35 = some (.iload_n 3, 1, 0, 0, 0, 0) := by decide +kernel
theorem f276_36 : mFetch 276 36 = some (.aload_n 0, 1, 0, 0, 0, 0) := by decide +kernel
theorem f276_37 : mFetch 276 37 = some (.iload_n 1, 1, 0, 0, 0, 0) := by decide +kernel
theorem f276_38 : mFetch 276 38 = some (.iload_n 2, 1, 0, 0, 0, 0) := by decide +kernel
theorem f276_39 : mFetch 276 39 = some (.iload 4, 2, 0, 0, 0, 0) := by decide +kernel
theorem f276_41 : mFetch 276 41 = some (.invokevirtual 485, 3, 275, 0, 4, 12) := by decide +kernel
theorem f276_44 : mFetch 276 44 = some (.ifCond .eq 7, 3, 51, 0, 0, 0) := by decide +kernel
theorem f276_47 : mFetch 276 47 = some (.iconst 1, 1, 0, 0, 0, 0) := by decide +kernel
theorem f276_48 : mFetch 276 48 = some (.goto 4, 3, 52, 0, 0, 0) := by decide +kernel
theorem f276_51 : mFetch 276 51 = some (.iconst 0, 1, 0, 0, 0, 0) := by decide +kernel
theorem f276_52 : mFetch 276 52 = some (.iadd, 1, 0, 0, 0, 0) := by decide +kernel
theorem f276_53 : mFetch 276 53 = some (.istore_n 3, 1, 0, 0, 0, 0) := by decide +kernel
theorem f276_54 : mFetch 276 54 = some (.iinc 4 1, 3, 0, 0, 0, 0) := by decide +kernel
theorem f276_57 : mFetch 276 57 = some (.goto (-29), 3, 28, 0, 0, 0) := by decide +kernel
theorem f276_60 : mFetch 276 60 = some (.iload_n 3, 1, 0, 0, 0, 0) := by decide +kernel
theorem f276_61 : mFetch 276 61 = some (.ireturn, 1, 0, 0, 0, 0) := by decide +kernel
theorem b276_0 {X : (Nat → Int) × Nat} {d : Nat} {s : mSt} {Q : mQ} {x1 : Int} {x2 : Int} (h_1 : Sp X d 216 [mR 407, mI x1] s (fun r s' => ∃ v : Int, r = some (mI v) ∧ Wp X (d + 1) 276 5 [some (mR 407), some (mI x1), some (mI x2), none, none] [mI v] s' Q)) : Wp X (d + 1) 276 0 [some (mR 407), some (mI x1), some (mI x2), none, none] [] s Q := Wp_step k276 f276_0 (Wp_step k276 f276_1 (Wp_step k276 f276_2 ⟨⟨kf_407, Nat.le_of_ble_eq_true rfl⟩, Nat.le_refl _, _, rfl, Sp_E h_1⟩))
theorem b276_5 {X : (Nat → Int) × Nat} {d : Nat} {s : mSt} {Q : mQ} {x1 : Int} {x2 : Int} {xt0 : Int} (h_1 : xt0 = 0 → Wp X d 276 21 [some (mR 407), some (mI x1), some (mI x2), none, none] [] s Q) (h_2 : ¬ xt0 = 0 → Wp X d 276 8 [some (mR 407), some (mI x1), some (mI x2), none, none] [] s Q) : Wp X d 276 5 [some (mR 407), some (mI x1), some (mI x2), none, none] [mI xt0] s Q := Wp_step k276 f276_5 ⟨h_1, h_2⟩
theorem b276_8 {X : (Nat → Int) × Nat} {d : Nat} {s : mSt} {Q : mQ} {x1 : Int} {x2 : Int} (h_1 : Sp X d 216 [mR 407, mI x2] s (fun r s' => ∃ v : Int, r = some (mI v) ∧ Wp X (d + 1) 276 13 [some (mR 407), some (mI x1), some (mI x2), none, none] [mI v] s' Q)) : Wp X (d + 1) 276 8 [some (mR 407), some (mI x1), some (mI x2), none, none] [] s Q := Wp_step k276 f276_8 (Wp_step k276 f276_9 (Wp_step k276 f276_10 ⟨⟨kf_407, Nat.le_of_ble_eq_true rfl⟩, Nat.le_refl _, _, rfl, Sp_E h_1⟩))
theorem b276_13 {X : (Nat → Int) × Nat} {d : Nat} {s : mSt} {Q : mQ} {x1 : Int} {x2 : Int} {xt0 : Int} (h_1 : xt0 = 0 → Wp X d 276 21 [some (mR 407), some (mI x1), some (mI x2), none, none] [] s Q) (h_2 : ¬ xt0 = 0 → Wp X d 276 16 [some (mR 407), some (mI x1), some (mI x2), none, none] [] s Q) : Wp X d 276 13 [some (mR 407), some (mI x1), some (mI x2), none, none] [mI xt0] s Q := Wp_step k276 f276_13 ⟨h_1, h_2⟩
theorem b276_16 {X : (Nat → Int) × Nat} {d : Nat} {s : mSt} {Q : mQ} {x1 : Int} {x2 : Int} (h_1 : ¬ x1 = x2 → Wp X d 276 23 [some (mR 407), some (mI x1), some (mI x2), none, none] [] s Q) (h_2 : x1 = x2 → Wp X d 276 21 [some (mR 407), some (mI x1), some (mI x2), none, none] [] s Q) : Wp X d 276 16 [some (mR 407), some (mI x1), some (mI x2), none, none] [] s Q := Wp_step k276 f276_16 (Wp_step k276 f276_17 (Wp_step k276 f276_18 ⟨h_1, h_2⟩))
theorem b276_21 {X : (Nat → Int) × Nat} {d : Nat} {s : mSt} {Q : mQ} {x1 : Int} {x2 : Int} (h_1 : Q (some (mI (-1))) s) : Wp X d 276 21 [some (mR 407), some (mI x1), some (mI x2), none, none] [] s Q := Wp_step k276 f276_21 (Wp_step k276 f276_22 ⟨⟨rfl, trivial⟩, h_1⟩)
theorem b276_23 {X : (Nat → Int) × Nat} {d : Nat} {s : mSt} {Q : mQ} {x1 : Int} {x2 : Int} (h_1 : Wp X d 276 28 [some (mR 407), some (mI x1), some (mI x2), some (mI 0), some (mI 0)] [] s Q) : Wp X d 276 23 [some (mR 407), some (mI x1), some (mI x2), none, none] [] s Q := Wp_step k276 f276_23 (Wp_step k276 f276_24 (Wp_step k276 f276_25 (Wp_step k276 f276_26 (h_1))))
theorem b276_28 {X : (Nat → Int) × Nat} {d : Nat} {s : mSt} {Q : mQ} {x1 : Int} {x2 : Int} {x3 : Int} {x4 : Int} (h_1 : 30 ≤ x4 → Wp X d 276 60 [some (mR 407), some (mI x1), some (mI x2), some (mI x3), some (mI x4)] [] s Q) (h_2 : ¬ 30 ≤ x4 → Wp X d 276 35 [some (mR 407), some (mI x1), some (mI x2), some (mI x3), some (mI x4)] [] s Q) : Wp X d 276 28 [some (mR 407), some (mI x1), some (mI x2), some (mI x3), some (mI x4)] [] s Q := Wp_step k276 f276_28 (Wp_step k276 f276_30 (Wp_step k276 f276_32 ⟨h_1, h_2⟩))
theorem b276_35 {X : (Nat → Int) × Nat} {d : Nat} {s : mSt} {Q : mQ} {x1 : Int} {x2 : Int} {x3 : Int} {x4 : Int} (h_1 : Sp X d 275 [mR 407, mI x1, mI x2, mI x4] s (fun r s' => ∃ v : Int, r = some (mI v) ∧ Wp X (d + 1) 276 44 [some (mR 407), some (mI x1), some (mI x2), some (mI x3), some (mI x4)] [mI v, mI x3] s' Q)) : Wp X (d + 1) 276 35 [some (mR 407), some (mI x1), some (mI x2), some (mI x3), some (mI x4)] [] s Q := Wp_step k276 f276_35 (Wp_step k276 f276_36 (Wp_step k276 f276_37 (Wp_step k276 f276_38 (Wp_step k276 f276_39 (Wp_step k276 f276_41 ⟨⟨kf_407, Nat.le_of_ble_eq_true rfl⟩, Nat.le_refl _, _, rfl, Sp_E h_1⟩)))))
theorem b276_44 {X : (Nat → Int) × Nat} {d : Nat} {s : mSt} {Q : mQ} {x1 : Int} {x2 : Int} {x3 : Int} {x4 : Int} {xt0 : Int} {xt1 : Int} (h_1 : xt1 = 0 → Wp X d 276 51 [some (mR 407), some (mI x1), some (mI x2), some (mI x3), some (mI x4)] [mI xt0] s Q) (h_2 : ¬ xt1 = 0 → Wp X d 276 47 [some (mR 407), some (mI x1), some (mI x2), some (mI x3), some (mI x4)] [mI xt0] s Q) : Wp X d 276 44 [some (mR 407), some (mI x1), some (mI x2), some (mI x3), some (mI x4)] [mI xt1, mI xt0] s Q := Wp_step k276 f276_44 ⟨h_1, h_2⟩
theorem b276_47 {X : (Nat → Int) × Nat} {d : Nat} {s : mSt} {Q : mQ} {x1 : Int} {x2 : Int} {x3 : Int} {x4 : Int} {xt0 : Int} (h_1 : Wp X d 276 52 [some (mR 407), some (mI x1), some (mI x2), some (mI x3), some (mI x4)] [mI 1, mI xt0] s Q) : Wp X d 276 47 [some (mR 407), some (mI x1), some (mI x2), some (mI x3), some (mI x4)] [mI xt0] s Q := Wp_step k276 f276_47 (Wp_step k276 f276_48 (h_1))
theorem b276_51 {X : (Nat → Int) × Nat} {d : Nat} {s : mSt} {Q : mQ} {x1 : Int} {x2 : Int} {x3 : Int} {x4 : Int} {xt0 : Int} (h_1 : Wp X d 276 52 [some (mR 407), some (mI x1), some (mI x2), some (mI x3), some (mI x4)] [mI 0, mI xt0] s Q) : Wp X d 276 51 [some (mR 407), some (mI x1), some (mI x2), some (mI x3), some (mI x4)] [mI xt0] s Q := Wp_step k276 f276_51 (h_1)
theorem b276_52 {X : (Nat → Int) × Nat} {d : Nat} {s : mSt} {Q : mQ} {x1 : Int} {x2 : Int} {x3 : Int} {x4 : Int} {xt0 : Int} {xt1 : Int} (h_1 : Wp X d 276 28 [some (mR 407), some (mI x1), some (mI x2), some (mI (w32 (xt0 + xt1))), some (mI (w32 (x4 + 1)))] [] s Q) : Wp X d 276 52 [some (mR 407), some (mI x1), some (mI x2), some (mI x3), some (mI x4)] [mI xt1, mI xt0] s Q := Wp_step k276 f276_52 (Wp_step k276 f276_53 (Wp_step k276 f276_54 (Wp_step k276 f276_57 (h_1))))
theorem b276_60 {X : (Nat → Int) × Nat} {d : Nat} {s : mSt} {Q : mQ} {x1 : Int} {x2 : Int} {x3 : Int} {x4 : Int} (h_1 : Q (some (mI x3)) s) : Wp X d 276 60 [some (mR 407), some (mI x1), some (mI x2), some (mI x3), some (mI x4)] [] s Q := Wp_step k276 f276_60 (Wp_step k276 f276_61 ⟨⟨rfl, trivial⟩, h_1⟩)
theorem e276 {X : (Nat → Int) × Nat} {d : Nat} {s : mSt} {Q : mQ} {x1 : Int} {x2 : Int} (h : Wp X d 276 0 [some (mR 407), some (mI x1), some (mI x2), none, none] [] s Q) : Sp X d 276 [mR 407, mI x1, mI x2] s Q := Sp_of (show mCe 276 = 0 by decide +kernel) (by rw [show mML 276 = 5 by decide +kernel]; rfl) (Nat.le_trans (Nat.le_of_ble_eq_true (show Nat.ble (mArgs _).length 5 = true from rfl)) (show 5 ≤ mML 276 by decide +kernel)) h
-- 277 ClashDayModel.keeps()V
theorem k277 : mRk 277 = 0 := by decide +kernel
theorem f277_0 : mFetch 277 0 = some (.iconst 0, 1, 0, 0, 0, 0) := by decide +kernel
theorem f277_1 : mFetch 277 1 = some (.istore_n 1, 1, 0, 0, 0, 0) := by decide +kernel
theorem f277_2 : mFetch 277 2 = some (.iload_n 1, 1, 0, 0, 0, 0) := by decide +kernel
theorem f277_3 : mFetch 277 3 = some (.bipush 72, 2, 0, 0, 0, 0) := by decide +kernel
theorem f277_5 : mFetch 277 5 = some (.if_icmp .ge 23, 3, 28, 0, 0, 0) := by decide +kernel
theorem f277_8 : mFetch 277 8 = some (.aload_n 0, 1, 0, 0, 0, 0) := by decide +kernel
theorem f277_9 : mFetch 277 9 = some (.getfield 79, 3, 12, 43, 2, 1) := by decide +kernel
theorem f277_12 : mFetch 277 12 = some (.iload_n 1, 1, 0, 0, 0, 0) := by decide +kernel
theorem f277_13 : mFetch 277 13 = some (.aload_n 0, 1, 0, 0, 0, 0) := by decide +kernel
theorem f277_14 : mFetch 277 14 = some (.getfield 39, 3, 12, 20, 2, 1) := by decide +kernel
theorem f277_17 : mFetch 277 17 = some (.iconst 5, 1, 0, 0, 0, 0) := by decide +kernel
theorem f277_18 : mFetch 277 18 = some (.iload_n 1, 1, 0, 0, 0, 0) := by decide +kernel
theorem f277_19 : mFetch 277 19 = some (.iadd, 1, 0, 0, 0, 0) := by decide +kernel
theorem f277_20 : mFetch 277 20 = some (.iaload, 1, 0, 0, 0, 0) := by decide +kernel
theorem f277_21 : mFetch 277 21 = some (.iastore, 1, 0, 0, 0, 0) := by decide +kernel
theorem f277_22 : mFetch 277 22 = some (.iinc 1 1, 3, 0, 0, 0, 0) := by decide +kernel
theorem f277_25 : mFetch 277 25 = some (.goto (-23), 3, 2, 0, 0, 0) := by decide +kernel
theorem f277_28 : mFetch 277 28 = some (.return_, 1, 0, 0, 0, 0) := by decide +kernel
theorem b277_0 {X : (Nat → Int) × Nat} {d : Nat} {s : mSt} {Q : mQ} (h_1 : Wp X d 277 2 [some (mR 407), some (mI 0)] [] s Q) : Wp X d 277 0 [some (mR 407), none] [] s Q := Wp_step k277 f277_0 (Wp_step k277 f277_1 (h_1))
theorem b277_2 {X : (Nat → Int) × Nat} {d : Nat} {s : mSt} {Q : mQ} {x1 : Int} (h_1 : 72 ≤ x1 → Wp X d 277 28 [some (mR 407), some (mI x1)] [] s Q) (h_2 : ¬ 72 ≤ x1 → Wp X d 277 8 [some (mR 407), some (mI x1)] [] s Q) : Wp X d 277 2 [some (mR 407), some (mI x1)] [] s Q := Wp_step k277 f277_2 (Wp_step k277 f277_3 (Wp_step k277 f277_5 ⟨h_1, h_2⟩))
theorem b277_8 {X : (Nat → Int) × Nat} {d : Nat} {s : mSt} {Q : mQ} {x1 : Int} (h_1 : 0 ≤ (w32 (5 + x1)) ∧ (w32 (5 + x1)) < 166) (h_2 : 0 ≤ x1 ∧ x1 < 72) (h_3 : Wp X d 277 2 [some (mR 407), some (mI (w32 (x1 + 1)))] [] (uS s 429 x1.toNat (s 417 (w32 (5 + x1)).toNat)) Q) : Wp X d 277 8 [some (mR 407), some (mI x1)] [] s Q := Wp_step k277 f277_8 (Wp_step k277 f277_9 ⟨kf_407, 429, rf_407_43, Wp_step k277 f277_12 (Wp_step k277 f277_13 (Wp_step k277 f277_14 ⟨kf_407, 417, rf_407_20, Wp_step k277 f277_17 (Wp_step k277 f277_18 (Wp_step k277 f277_19 (Wp_step k277 f277_20 ⟨166, af_417, h_1, Wp_step k277 f277_21 ⟨72, af_429, h_2, Wp_step k277 f277_22 (Wp_step k277 f277_25 (h_3))⟩⟩)))⟩))⟩)
theorem b277_28 {X : (Nat → Int) × Nat} {d : Nat} {s : mSt} {Q : mQ} {x1 : Int} (h_1 : Q none s) : Wp X d 277 28 [some (mR 407), some (mI x1)] [] s Q := Wp_step k277 f277_28 ⟨⟨rfl, Or.inl rfl⟩, h_1⟩
theorem e277 {X : (Nat → Int) × Nat} {d : Nat} {s : mSt} {Q : mQ} (h : Wp X d 277 0 [some (mR 407), none] [] s Q) : Sp X d 277 [mR 407] s Q := Sp_of (show mCe 277 = 0 by decide +kernel) (by rw [show mML 277 = 2 by decide +kernel]; rfl) (Nat.le_trans (Nat.le_of_ble_eq_true (show Nat.ble (mArgs _).length 2 = true from rfl)) (show 2 ≤ mML 277 by decide +kernel)) h
-- 278 ClashDayModel.laysBack()V
theorem k278 : mRk 278 = 0 := by decide +kernel
theorem f278_0 : mFetch 278 0 = some (.iconst 0, 1, 0, 0, 0, 0) := by decide +kernel
theorem f278_1 : mFetch 278 1 = some (.istore_n 1, 1, 0, 0, 0, 0) := by decide +kernel
theorem f278_2 : mFetch 278 2 = some (.iload_n 1, 1, 0, 0, 0, 0) := by decide +kernel
theorem f278_3 : mFetch 278 3 = some (.bipush 72, 2, 0, 0, 0, 0) := by decide +kernel
theorem f278_5 : mFetch 278 5 = some (.if_icmp .ge 23, 3, 28, 0, 0, 0) := by decide +kernel
theorem f278_8 : mFetch 278 8 = some (.aload_n 0, 1, 0, 0, 0, 0) := by decide +kernel
theorem f278_9 : mFetch 278 9 = some (.getfield 39, 3, 12, 20, 2, 1) := by decide +kernel
theorem f278_12 : mFetch 278 12 = some (.iconst 5, 1, 0, 0, 0, 0) := by decide +kernel
theorem f278_13 : mFetch 278 13 = some (.iload_n 1, 1, 0, 0, 0, 0) := by decide +kernel
theorem f278_14 : mFetch 278 14 = some (.iadd, 1, 0, 0, 0, 0) := by decide +kernel
theorem f278_15 : mFetch 278 15 = some (.aload_n 0, 1, 0, 0, 0, 0) := by decide +kernel
theorem f278_16 : mFetch 278 16 = some (.getfield 79, 3, 12, 43, 2, 1) := by decide +kernel
theorem f278_19 : mFetch 278 19 = some (.iload_n 1, 1, 0, 0, 0, 0) := by decide +kernel
theorem f278_20 : mFetch 278 20 = some (.iaload, 1, 0, 0, 0, 0) := by decide +kernel
theorem f278_21 : mFetch 278 21 = some (.iastore, 1, 0, 0, 0, 0) := by decide +kernel
theorem f278_22 : mFetch 278 22 = some (.iinc 1 1, 3, 0, 0, 0, 0) := by decide +kernel
theorem f278_25 : mFetch 278 25 = some (.goto (-23), 3, 2, 0, 0, 0) := by decide +kernel
theorem f278_28 : mFetch 278 28 = some (.return_, 1, 0, 0, 0, 0) := by decide +kernel
theorem b278_0 {X : (Nat → Int) × Nat} {d : Nat} {s : mSt} {Q : mQ} (h_1 : Wp X d 278 2 [some (mR 407), some (mI 0)] [] s Q) : Wp X d 278 0 [some (mR 407), none] [] s Q := Wp_step k278 f278_0 (Wp_step k278 f278_1 (h_1))
theorem b278_2 {X : (Nat → Int) × Nat} {d : Nat} {s : mSt} {Q : mQ} {x1 : Int} (h_1 : 72 ≤ x1 → Wp X d 278 28 [some (mR 407), some (mI x1)] [] s Q) (h_2 : ¬ 72 ≤ x1 → Wp X d 278 8 [some (mR 407), some (mI x1)] [] s Q) : Wp X d 278 2 [some (mR 407), some (mI x1)] [] s Q := Wp_step k278 f278_2 (Wp_step k278 f278_3 (Wp_step k278 f278_5 ⟨h_1, h_2⟩))
theorem b278_8 {X : (Nat → Int) × Nat} {d : Nat} {s : mSt} {Q : mQ} {x1 : Int} (h_1 : 0 ≤ x1 ∧ x1 < 72) (h_2 : 0 ≤ (w32 (5 + x1)) ∧ (w32 (5 + x1)) < 166) (h_3 : Wp X d 278 2 [some (mR 407), some (mI (w32 (x1 + 1)))] [] (uS s 417 ((w32 (5 + x1)).toNat) (s 429 x1.toNat)) Q) : Wp X d 278 8 [some (mR 407), some (mI x1)] [] s Q := Wp_step k278 f278_8 (Wp_step k278 f278_9 ⟨kf_407, 417, rf_407_20, Wp_step k278 f278_12 (Wp_step k278 f278_13 (Wp_step k278 f278_14 (Wp_step k278 f278_15 (Wp_step k278 f278_16 ⟨kf_407, 429, rf_407_43, Wp_step k278 f278_19 (Wp_step k278 f278_20 ⟨72, af_429, h_1, Wp_step k278 f278_21 ⟨166, af_417, h_2, Wp_step k278 f278_22 (Wp_step k278 f278_25 (h_3))⟩⟩)⟩))))⟩)
theorem b278_28 {X : (Nat → Int) × Nat} {d : Nat} {s : mSt} {Q : mQ} {x1 : Int} (h_1 : Q none s) : Wp X d 278 28 [some (mR 407), some (mI x1)] [] s Q := Wp_step k278 f278_28 ⟨⟨rfl, Or.inl rfl⟩, h_1⟩
theorem e278 {X : (Nat → Int) × Nat} {d : Nat} {s : mSt} {Q : mQ} (h : Wp X d 278 0 [some (mR 407), none] [] s Q) : Sp X d 278 [mR 407] s Q := Sp_of (show mCe 278 = 0 by decide +kernel) (by rw [show mML 278 = 2 by decide +kernel]; rfl) (Nat.le_trans (Nat.le_of_ble_eq_true (show Nat.ble (mArgs _).length 2 = true from rfl)) (show 2 ≤ mML 278 by decide +kernel)) h
-- 279 ClashDayModel.rowOf(I)V
theorem k279 : mRk 279 = 0 := by decide +kernel
theorem f279_0 : mFetch 279 0 = some (.iload_n 1, 1, 0, 0, 0, 0) := by decide +kernel
theorem f279_1 : mFetch 279 1 = some (.istore_n 2, 1, 0, 0, 0, 0) := by decide +kernel
theorem f279_2 : mFetch 279 2 = some (.iconst 0, 1, 0, 0, 0, 0) := by decide +kernel
theorem f279_3 : mFetch 279 3 = some (.istore_n 3, 1, 0, 0, 0, 0) := by decide +kernel
theorem f279_4 : mFetch 279 4 = some (.iconst 0, 1, 0, 0, 0, 0) := by decide +kernel
theorem f279_5 : mFetch 279 5 = some (.istore 4, 2, 0, 0, 0, 0) := by decide +kernel
theorem f279_7 : mFetch 279 7 = some (.iload 4, 2, 0, 0, 0, 0) := by decide +kernel
theorem f279_9 : mFetch 279 9 = some (.aload_n 0, 1, 0, 0, 0, 0) := by decide +kernel
theorem f279_10 : mFetch 279 10 = some (.getfield 488, 3, 12, 47, 0, 1) := by decide +kernel
theorem f279_13 : mFetch 279 13 = some (.if_icmp .ge 97, 3, 110, 0, 0, 0) := by decide +kernel
theorem f279_16 : mFetch 279 16 = some (.aload_n 0, 1, 0, 0, 0, 0) := by decide +kernel
theorem f279_17 : mFetch 279 17 = some (.getfield 488, 3, 12, 47, 0, 1) := by decide +kernel
theorem f279_20 : mFetch 279 20 = some (.iconst 1, 1, 0, 0, 0, 0) := by decide +kernel
theorem f279_21 : mFetch 279 21 = some (.isub, 1, 0, 0, 0, 0) := by decide +kernel
theorem f279_22 : mFetch 279 22 = some (.iload 4, 2, 0, 0, 0, 0) := by decide +kernel
theorem f279_24 : mFetch 279 24 = some (.isub, 1, 0, 0, 0, 0) := by decide +kernel
theorem f279_25 : mFetch 279 25 = some (.invokestatic 365, 3, 233, 0, 1, 99) := by decide +kernel
theorem f279_28 : mFetch 279 28 = some (.istore 5, 2, 0, 0, 0, 0) := by decide +kernel
theorem f279_30 : mFetch 279 30 = some (.iload_n 2, 1, 0, 0, 0, 0) := by decide +kernel
theorem f279_31 : mFetch 279 31 = some (.iload 5, 2, 0, 0, 0, 0) := by decide +kernel
theorem f279_33 : mFetch 279 33 = some (.idiv, 1, 0, 0, 0, 0) := by decide +kernel
theorem f279_34 : mFetch 279 34 = some (.istore 6, 2, 0, 0, 0, 0) := by decide +kernel
theorem f279_36 : mFetch 279 36 = some (.iconst 0, 1, 0, 0, 0, 0) := by decide +kernel
theorem f279_37 : mFetch 279 37 = some (.istore 7, 2, 0, 0, 0, 0) := by decide +kernel
theorem f279_39 : mFetch 279 39 = some (.iload_n 3, 1, 0, 0, 0, 0) := by decide +kernel
theorem f279_40 : mFetch 279 40 = some (.iload 7, 2, 0, 0, 0, 0) := by decide +kernel
theorem f279_42 : mFetch 279 42 = some (.invokestatic 318, 3, 168, 0, 2, 99) := by decide +kernel
theorem f279_45 : mFetch 279 45 = some (.ifCond .ne 8, 3, 53, 0, 0, 0) := by decide +kernel
theorem f279_48 : mFetch 279 48 = some (.iload 6, 2, 0, 0, 0, 0) := by decide +kernel
theorem f279_50 : mFetch 279 50 = some (.ifCond .le 28, 3, 78, 0, 0, 0) := by decide +kernel
theorem f279_53 : mFetch 279 53 = some (.iload 6, 2, 0, 0, 0, 0) := by decide +kernel
theorem f279_55 : mFetch 279 55 = some (.iload_n 3, 1, 0, 0, 0, 0) := by decide +kernel
theorem f279_56 : mFetch 279 56 = some (.iload 7, 2, 0, 0, 0, 0) := by decide +kernel
theorem f279_58 : mFetch 279 58 = some (.invokestatic 318, 3, 168, 0, 2, 99) := by decide +kernel
theorem f279_61 : mFetch 279 61 = some (.ifCond .eq 7, 3, 68, 0, 0, 0) := by decide +kernel
theorem f279_64 : mFetch 279 64 = some (.iconst 0, 1, 0, 0, 0, 0) := by decide +kernel
theorem f279_65 : mFetch 279 65 = some (.goto 4, 3, 69, 0, 0, 0) := by decide +kernel
theorem f279_68 : mFetch 279 68 = some (.iconst 1, 1, 0, 0, 0, 0) := by decide +kernel
theorem f279_69 : mFetch 279 69 = some (.isub, 1, 0, 0, 0, 0) := by decide +kernel
theorem f279_70 : mFetch 279 70 = some (.istore 6, 2, 0, 0, 0, 0) := by decide +kernel
theorem f279_72 : mFetch 279 72 = some (.iinc 7 1, 3, 0, 0, 0, 0) := by decide +kernel
theorem f279_75 : mFetch 279 75 = some (.goto (-36), 3, 39, 0, 0, 0) := by decide +kernel
theorem f279_78 : mFetch 279 78 = some (.aload_n 0, 1, 0, 0, 0, 0) := by decide +kernel
theorem f279_79 : mFetch 279 79 = some (.getfield 85, 3, 12, 45, 2, 1) := by decide +kernel
theorem f279_82 : mFetch 279 82 = some (.iload 4, 2, 0, 0, 0, 0) := by decide +kernel
theorem f279_84 : mFetch 279 84 = some (.aload_n 0, 1, 0, 0, 0, 0) := by decide +kernel
theorem f279_85 : mFetch 279 85 = some (.getfield 82, 3, 12, 44, 2, 1) := by decide +kernel
theorem f279_88 : mFetch 279 88 = some (.iload 7, 2, 0, 0, 0, 0) := by decide +kernel
theorem f279_90 : mFetch 279 90 = some (.iaload, 1, 0, 0, 0, 0) := by decide +kernel
theorem f279_91 : mFetch 279 91 = some (.iastore, 1, 0, 0, 0, 0) := by decide +kernel
theorem f279_92 : mFetch 279 92 = some (.iload_n 3, 1, 0, 0, 0, 0) := by decide +kernel
theorem f279_93 : mFetch 279 93 = some (.iconst 1, 1, 0, 0, 0, 0) := by decide +kernel
theorem f279_94 : mFetch 279 94 = some (.iload 7, 2, 0, 0, 0, 0) := by decide +kernel
theorem f279_96 : mFetch 279 96 = some (.ishl, 1, 0, 0, 0, 0) := by decide +kernel
theorem f279_97 : mFetch 279 97 = some (.ior, 1, 0, 0, 0, 0) := by decide +kernel
theorem f279_98 : mFetch 279 98 = some (.istore_n 3, 1, 0, 0, 0, 0) := by decide +kernel
theorem f279_99 : mFetch 279 99 = some (.iload_n 2, 1, 0, 0, 0, 0) := by decide +kernel
theorem f279_100 : mFetch 279 100 = some (.iload 5, 2, 0, 0, 0, 0) := by decide +kernel
theorem f279_102 : mFetch 279 102 = some (.irem, 1, 0, 0, 0, 0) := by decide +kernel
theorem f279_103 : mFetch 279 103 = some (.istore_n 2, 1, 0, 0, 0, 0) := by decide +kernel
theorem f279_104 : mFetch 279 104 = some (.iinc 4 1, 3, 0, 0, 0, 0) := by decide +kernel
theorem f279_107 : mFetch 279 107 = some (.goto (-100), 3, 7, 0, 0, 0) := by decide +kernel
theorem f279_110 : mFetch 279 110 = some (.return_, 1, 0, 0, 0, 0) := by decide +kernel
theorem b279_0 {X : (Nat → Int) × Nat} {d : Nat} {s : mSt} {Q : mQ} {x1 : Int} (h_1 : Wp X d 279 7 [some (mR 407), some (mI x1), some (mI x1), some (mI 0), some (mI 0), none, none, none] [] s Q) : Wp X d 279 0 [some (mR 407), some (mI x1), none, none, none, none, none, none] [] s Q := Wp_step k279 f279_0 (Wp_step k279 f279_1 (Wp_step k279 f279_2 (Wp_step k279 f279_3 (Wp_step k279 f279_4 (Wp_step k279 f279_5 (h_1))))))
theorem b279_7 {X : (Nat → Int) × Nat} {d : Nat} {s : mSt} {Q : mQ} {x1 : Int} {x2 : Int} {x3 : Int} {x4 : Int} (h_1 : (s 407 47) ≤ x4 → Wp X d 279 110 [some (mR 407), some (mI x1), some (mI x2), some (mI x3), some (mI x4), none, none, none] [] s Q) (h_2 : ¬ (s 407 47) ≤ x4 → Wp X d 279 16 [some (mR 407), some (mI x1), some (mI x2), some (mI x3), some (mI x4), none, none, none] [] s Q) : Wp X d 279 7 [some (mR 407), some (mI x1), some (mI x2), some (mI x3), some (mI x4), none, none, none] [] s Q := Wp_step k279 f279_7 (Wp_step k279 f279_9 (Wp_step k279 f279_10 ⟨kf_407, Wp_step k279 f279_13 ⟨h_1, h_2⟩⟩))
theorem b279_16 {X : (Nat → Int) × Nat} {d : Nat} {s : mSt} {Q : mQ} {x1 : Int} {x2 : Int} {x3 : Int} {x4 : Int} (h_1 : Sp X d 233 [mI (w32 ((w32 ((s 407 47) - 1)) - x4))] s (fun r s' => ∃ v : Int, r = some (mI v) ∧ Wp X (d + 1) 279 28 [some (mR 407), some (mI x1), some (mI x2), some (mI x3), some (mI x4), none, none, none] [mI v] s' Q)) : Wp X (d + 1) 279 16 [some (mR 407), some (mI x1), some (mI x2), some (mI x3), some (mI x4), none, none, none] [] s Q := Wp_step k279 f279_16 (Wp_step k279 f279_17 ⟨kf_407, Wp_step k279 f279_20 (Wp_step k279 f279_21 (Wp_step k279 f279_22 (Wp_step k279 f279_24 (Wp_step k279 f279_25 ⟨⟨Nat.le_of_ble_eq_true rfl, Nat.le_refl _⟩, _, rfl, Sp_E h_1⟩))))⟩)
theorem b279_28 {X : (Nat → Int) × Nat} {d : Nat} {s : mSt} {Q : mQ} {x1 : Int} {x2 : Int} {x3 : Int} {x4 : Int} {xt0 : Int} (h_1 : xt0 ≠ 0) (h_2 : Wp X d 279 39 [some (mR 407), some (mI x1), some (mI x2), some (mI x3), some (mI x4), some (mI xt0), some (mI (w32 (Int.tdiv x2 xt0))), some (mI 0)] [] s Q) : Wp X d 279 28 [some (mR 407), some (mI x1), some (mI x2), some (mI x3), some (mI x4), none, none, none] [mI xt0] s Q := Wp_step k279 f279_28 (Wp_step k279 f279_30 (Wp_step k279 f279_31 (Wp_step k279 f279_33 ⟨h_1, Wp_step k279 f279_34 (Wp_step k279 f279_36 (Wp_step k279 f279_37 (h_2)))⟩)))
theorem b279_39 {X : (Nat → Int) × Nat} {d : Nat} {s : mSt} {Q : mQ} {x1 : Int} {x2 : Int} {x3 : Int} {x4 : Int} {x5 : Int} {x6 : Int} {x7 : Int} (h_1 : Sp X d 168 [mI x3, mI x7] s (fun r s' => ∃ v : Int, r = some (mI v) ∧ Wp X (d + 1) 279 45 [some (mR 407), some (mI x1), some (mI x2), some (mI x3), some (mI x4), some (mI x5), some (mI x6), some (mI x7)] [mI v] s' Q)) : Wp X (d + 1) 279 39 [some (mR 407), some (mI x1), some (mI x2), some (mI x3), some (mI x4), some (mI x5), some (mI x6), some (mI x7)] [] s Q := Wp_step k279 f279_39 (Wp_step k279 f279_40 (Wp_step k279 f279_42 ⟨⟨Nat.le_of_ble_eq_true rfl, Nat.le_refl _⟩, _, rfl, Sp_E h_1⟩))
theorem b279_45 {X : (Nat → Int) × Nat} {d : Nat} {s : mSt} {Q : mQ} {x1 : Int} {x2 : Int} {x3 : Int} {x4 : Int} {x5 : Int} {x6 : Int} {x7 : Int} {xt0 : Int} (h_1 : ¬ xt0 = 0 → Wp X d 279 53 [some (mR 407), some (mI x1), some (mI x2), some (mI x3), some (mI x4), some (mI x5), some (mI x6), some (mI x7)] [] s Q) (h_2 : xt0 = 0 → Wp X d 279 48 [some (mR 407), some (mI x1), some (mI x2), some (mI x3), some (mI x4), some (mI x5), some (mI x6), some (mI x7)] [] s Q) : Wp X d 279 45 [some (mR 407), some (mI x1), some (mI x2), some (mI x3), some (mI x4), some (mI x5), some (mI x6), some (mI x7)] [mI xt0] s Q := Wp_step k279 f279_45 ⟨h_1, h_2⟩
theorem b279_48 {X : (Nat → Int) × Nat} {d : Nat} {s : mSt} {Q : mQ} {x1 : Int} {x2 : Int} {x3 : Int} {x4 : Int} {x5 : Int} {x6 : Int} {x7 : Int} (h_1 : x6 ≤ 0 → Wp X d 279 78 [some (mR 407), some (mI x1), some (mI x2), some (mI x3), some (mI x4), some (mI x5), some (mI x6), some (mI x7)] [] s Q) (h_2 : ¬ x6 ≤ 0 → Wp X d 279 53 [some (mR 407), some (mI x1), some (mI x2), some (mI x3), some (mI x4), some (mI x5), some (mI x6), some (mI x7)] [] s Q) : Wp X d 279 48 [some (mR 407), some (mI x1), some (mI x2), some (mI x3), some (mI x4), some (mI x5), some (mI x6), some (mI x7)] [] s Q := Wp_step k279 f279_48 (Wp_step k279 f279_50 ⟨h_1, h_2⟩)
theorem b279_53 {X : (Nat → Int) × Nat} {d : Nat} {s : mSt} {Q : mQ} {x1 : Int} {x2 : Int} {x3 : Int} {x4 : Int} {x5 : Int} {x6 : Int} {x7 : Int} (h_1 : Sp X d 168 [mI x3, mI x7] s (fun r s' => ∃ v : Int, r = some (mI v) ∧ Wp X (d + 1) 279 61 [some (mR 407), some (mI x1), some (mI x2), some (mI x3), some (mI x4), some (mI x5), some (mI x6), some (mI x7)] [mI v, mI x6] s' Q)) : Wp X (d + 1) 279 53 [some (mR 407), some (mI x1), some (mI x2), some (mI x3), some (mI x4), some (mI x5), some (mI x6), some (mI x7)] [] s Q := Wp_step k279 f279_53 (Wp_step k279 f279_55 (Wp_step k279 f279_56 (Wp_step k279 f279_58 ⟨⟨Nat.le_of_ble_eq_true rfl, Nat.le_refl _⟩, _, rfl, Sp_E h_1⟩)))
theorem b279_61 {X : (Nat → Int) × Nat} {d : Nat} {s : mSt} {Q : mQ} {x1 : Int} {x2 : Int} {x3 : Int} {x4 : Int} {x5 : Int} {x6 : Int} {x7 : Int} {xt0 : Int} {xt1 : Int} (h_1 : xt1 = 0 → Wp X d 279 68 [some (mR 407), some (mI x1), some (mI x2), some (mI x3), some (mI x4), some (mI x5), some (mI x6), some (mI x7)] [mI xt0] s Q) (h_2 : ¬ xt1 = 0 → Wp X d 279 64 [some (mR 407), some (mI x1), some (mI x2), some (mI x3), some (mI x4), some (mI x5), some (mI x6), some (mI x7)] [mI xt0] s Q) : Wp X d 279 61 [some (mR 407), some (mI x1), some (mI x2), some (mI x3), some (mI x4), some (mI x5), some (mI x6), some (mI x7)] [mI xt1, mI xt0] s Q := Wp_step k279 f279_61 ⟨h_1, h_2⟩
theorem b279_64 {X : (Nat → Int) × Nat} {d : Nat} {s : mSt} {Q : mQ} {x1 : Int} {x2 : Int} {x3 : Int} {x4 : Int} {x5 : Int} {x6 : Int} {x7 : Int} {xt0 : Int} (h_1 : Wp X d 279 69 [some (mR 407), some (mI x1), some (mI x2), some (mI x3), some (mI x4), some (mI x5), some (mI x6), some (mI x7)] [mI 0, mI xt0] s Q) : Wp X d 279 64 [some (mR 407), some (mI x1), some (mI x2), some (mI x3), some (mI x4), some (mI x5), some (mI x6), some (mI x7)] [mI xt0] s Q := Wp_step k279 f279_64 (Wp_step k279 f279_65 (h_1))
theorem b279_68 {X : (Nat → Int) × Nat} {d : Nat} {s : mSt} {Q : mQ} {x1 : Int} {x2 : Int} {x3 : Int} {x4 : Int} {x5 : Int} {x6 : Int} {x7 : Int} {xt0 : Int} (h_1 : Wp X d 279 69 [some (mR 407), some (mI x1), some (mI x2), some (mI x3), some (mI x4), some (mI x5), some (mI x6), some (mI x7)] [mI 1, mI xt0] s Q) : Wp X d 279 68 [some (mR 407), some (mI x1), some (mI x2), some (mI x3), some (mI x4), some (mI x5), some (mI x6), some (mI x7)] [mI xt0] s Q := Wp_step k279 f279_68 (h_1)
theorem b279_69 {X : (Nat → Int) × Nat} {d : Nat} {s : mSt} {Q : mQ} {x1 : Int} {x2 : Int} {x3 : Int} {x4 : Int} {x5 : Int} {x6 : Int} {x7 : Int} {xt0 : Int} {xt1 : Int} (h_1 : Wp X d 279 39 [some (mR 407), some (mI x1), some (mI x2), some (mI x3), some (mI x4), some (mI x5), some (mI (w32 (xt0 - xt1))), some (mI (w32 (x7 + 1)))] [] s Q) : Wp X d 279 69 [some (mR 407), some (mI x1), some (mI x2), some (mI x3), some (mI x4), some (mI x5), some (mI x6), some (mI x7)] [mI xt1, mI xt0] s Q := Wp_step k279 f279_69 (Wp_step k279 f279_70 (Wp_step k279 f279_72 (Wp_step k279 f279_75 (h_1))))
theorem b279_78 {X : (Nat → Int) × Nat} {d : Nat} {s : mSt} {Q : mQ} {x1 : Int} {x2 : Int} {x3 : Int} {x4 : Int} {x5 : Int} {x6 : Int} {x7 : Int} (h_1 : 0 ≤ x7 ∧ x7 < 4) (h_2 : 0 ≤ x4 ∧ x4 < 4) (h_3 : x5 ≠ 0) (h_4 : Wp X d 279 7 [some (mR 407), some (mI x1), some (mI (Int.tmod x2 x5)), some (mI (iOr x3 (iShl 1 x7))), some (mI (w32 (x4 + 1))), some (mI x5), some (mI x6), some (mI x7)] [] (uS s 431 x4.toNat (s 430 x7.toNat)) Q) : Wp X d 279 78 [some (mR 407), some (mI x1), some (mI x2), some (mI x3), some (mI x4), some (mI x5), some (mI x6), some (mI x7)] [] s Q := Wp_step k279 f279_78 (Wp_step k279 f279_79 ⟨kf_407, 431, rf_407_45, Wp_step k279 f279_82 (Wp_step k279 f279_84 (Wp_step k279 f279_85 ⟨kf_407, 430, rf_407_44, Wp_step k279 f279_88 (Wp_step k279 f279_90 ⟨4, af_430, h_1, Wp_step k279 f279_91 ⟨4, af_431, h_2, Wp_step k279 f279_92 (Wp_step k279 f279_93 (Wp_step k279 f279_94 (Wp_step k279 f279_96 (Wp_step k279 f279_97 (Wp_step k279 f279_98 (Wp_step k279 f279_99 (Wp_step k279 f279_100 (Wp_step k279 f279_102 ⟨h_3, Wp_step k279 f279_103 (Wp_step k279 f279_104 (Wp_step k279 f279_107 (h_4)))⟩))))))))⟩⟩)⟩))⟩)
theorem b279_110 {X : (Nat → Int) × Nat} {d : Nat} {s : mSt} {Q : mQ} {x1 : Int} {x2 : Int} {x3 : Int} {x4 : Int} (h_1 : Q none s) : Wp X d 279 110 [some (mR 407), some (mI x1), some (mI x2), some (mI x3), some (mI x4), none, none, none] [] s Q := Wp_step k279 f279_110 ⟨⟨rfl, Or.inl rfl⟩, h_1⟩
theorem e279 {X : (Nat → Int) × Nat} {d : Nat} {s : mSt} {Q : mQ} {x1 : Int} (h : Wp X d 279 0 [some (mR 407), some (mI x1), none, none, none, none, none, none] [] s Q) : Sp X d 279 [mR 407, mI x1] s Q := Sp_of (show mCe 279 = 0 by decide +kernel) (by rw [show mML 279 = 8 by decide +kernel]; rfl) (Nat.le_trans (Nat.le_of_ble_eq_true (show Nat.ble (mArgs _).length 8 = true from rfl)) (show 8 ≤ mML 279 by decide +kernel)) h
-- 280 ClashDayModel.triesRow()V
theorem k280 : mRk 280 = 0 := by decide +kernel
theorem f280_0 : mFetch 280 0 = some (.iconst 0, 1, 0, 0, 0, 0) := by decide +kernel
theorem f280_1 : mFetch 280 1 = some (.istore_n 1, 1, 0, 0, 0, 0) := by decide +kernel
theorem f280_2 : mFetch 280 2 = some (.iconst 0, 1, 0, 0, 0, 0) := by decide +kernel
theorem f280_3 : mFetch 280 3 = some (.istore_n 2, 1, 0, 0, 0, 0) := by decide +kernel
theorem f280_4 : mFetch 280 4 = some (.iconst 0, 1, 0, 0, 0, 0) := by decide +kernel
theorem f280_5 : mFetch 280 5 = some (.istore_n 3, 1, 0, 0, 0, 0) := by decide +kernel
theorem f280_6 : mFetch 280 6 = some (.iload_n 3, 1, 0, 0, 0, 0) := by decide +kernel
theorem f280_7 : mFetch 280 7 = some (.aload_n 0, 1, 0, 0, 0, 0) := by decide +kernel
theorem f280_8 : mFetch 280 8 = some (.getfield 488, 3, 12, 47, 0, 1) := by decide +kernel
theorem f280_11 : mFetch 280 11 = some (.if_icmp .ge 35, 3, 46, 0, 0, 0) := by decide +kernel
theorem f280_14 : mFetch 280 14 = some (.aload_n 0, 1, 0, 0, 0, 0) := by decide +kernel
theorem f280_15 : mFetch 280 15 = some (.aload_n 0, 1, 0, 0, 0, 0) := by decide +kernel
theorem f280_16 : mFetch 280 16 = some (.getfield 85, 3, 12, 45, 2, 1) := by decide +kernel
theorem f280_19 : mFetch 280 19 = some (.iload_n 3, 1, 0, 0, 0, 0) := by decide +kernel
theorem f280_20 : mFetch 280 20 = some (.iaload, 1, 0, 0, 0, 0) := by decide +kernel
theorem f280_21 : mFetch 280 21 = some (.invokevirtual 449, 3, 245, 0, 2, 12) := by decide +kernel
theorem f280_24 : mFetch 280 24 = some (.ifCond .ne 6, 3, 30, 0, 0, 0) := by decide +kernel
theorem f280_27 : mFetch 280 27 = some (.goto 13, 3, 40, 0, 0, 0) := by decide +kernel
theorem f280_30 : mFetch 280 30 = some (.iinc 1 1, 3, 0, 0, 0, 0) := by decide +kernel
theorem f280_33 : mFetch 280 33 = some (.iload_n 2, 1, 0, 0, 0, 0) := by decide +kernel
theorem f280_34 : mFetch 280 34 = some (.aload_n 0, 1, 0, 0, 0, 0) := by decide +kernel
theorem f280_35 : mFetch 280 35 = some (.getfield 399, 3, 12, 30, 0, 1) := by decide +kernel
theorem f280_38 : mFetch 280 38 = some (.iadd, 1, 0, 0, 0, 0) := by decide +kernel
theorem f280_39 : mFetch 280 39 = some (.istore_n 2, 1, 0, 0, 0, 0) := by decide +kernel
theorem f280_40 : mFetch 280 40 = some (.iinc 3 1, 3, 0, 0, 0, 0) := by decide +kernel
theorem f280_43 : mFetch 280 43 = some (.goto (-37), 3, 6, 0, 0, 0) := by decide +kernel
theorem f280_46 : mFetch 280 46 = some (.aload_n 0, 1, 0, 0, 0, 0) := by decide +kernel
theorem f280_47 : mFetch 280 47 = some (.invokevirtual 491, 3, 278, 0, 1, 12) := by decide +kernel
theorem f280_50 : mFetch 280 50 = some (.iload_n 1, 1, 0, 0, 0, 0) := by decide +kernel
theorem f280_51 : mFetch 280 51 = some (.aload_n 0, 1, 0, 0, 0, 0) := by decide +kernel
theorem f280_52 : mFetch 280 52 = some (.getfield 494, 3, 12, 48, 0, 1) := by decide +kernel
theorem f280_55 : mFetch 280 55 = some (.if_icmp .lt 19, 3, 74, 0, 0, 0) := by decide +kernel
theorem f280_58 : mFetch 280 58 = some (.iload_n 1, 1, 0, 0, 0, 0) := by decide +kernel
theorem f280_59 : mFetch 280 59 = some (.aload_n 0, 1, 0, 0, 0, 0) := by decide +kernel
theorem f280_60 : mFetch 280 60 = some (.getfield 494, 3, 12, 48, 0, 1) := by decide +kernel
theorem f280_63 : mFetch 280 63 = some (.if_icmp .ne 12, 3, 75, 0, 0, 0) := by decide +kernel
theorem f280_66 : mFetch 280 66 = some (.iload_n 2, 1, 0, 0, 0, 0) := by decide +kernel
theorem f280_67 : mFetch 280 67 = some (.aload_n 0, 1, 0, 0, 0, 0) := by decide +kernel
theorem f280_68 : mFetch 280 68 = some (.getfield 497, 3, 12, 49, 0, 1) := by decide +kernel
theorem f280_71 : mFetch 280 71 = some (.if_icmp .lt 4, 3, 75, 0, 0, 0) := by decide +kernel
theorem f280_74 : mFetch 280 74 = some (.return_, 1, 0, 0, 0, 0) := by decide +kernel
theorem f280_75 : mFetch 280 75 = some (.aload_n 0, 1, 0, 0, 0, 0) := by decide +kernel
theorem f280_76 : mFetch 280 76 = some (.iload_n 1, 1, 0, 0, 0, 0) := by decide +kernel
theorem f280_77 : mFetch 280 77 = some (.putfield 494, 3, 12, 48, 0, 1) := by decide +kernel
theorem f280_80 : mFetch 280 80 = some (.aload_n 0, 1, 0, 0, 0, 0) := by decide +kernel
theorem f280_81 : mFetch 280 81 = some (.iload_n 2, 1, 0, 0, 0, 0) := by decide +kernel
theorem f280_82 : mFetch 280 82 = some (.putfield 497, 3, 12, 49, 0, 1) := by decide +kernel
theorem f280_85 : mFetch 280 85 = some (.iconst 0, 1, 0, 0, 0, 0) := by decide +kernel
theorem f280_86 : mFetch 280 86 = some (.istore_n 3, 1, 0, 0, 0, 0) := by decide +kernel
theorem f280_87 : mFetch 280 87 = some (.iload_n 3, 1, 0, 0, 0, 0) := by decide +kernel
theorem f280_88 : mFetch 280 88 = some (.aload_n 0, 1, 0, 0, 0, 0) := by decide +kernel
theorem f280_89 : mFetch 280 89 = some (.getfield 488, 3, 12, 47, 0, 1) := by decide +kernel
theorem f280_92 : mFetch 280 92 = some (.if_icmp .ge 21, 3, 113, 0, 0, 0) := by decide +kernel
theorem f280_95 : mFetch 280 95 = some (.aload_n 0, 1, 0, 0, 0, 0) := by decide +kernel
theorem f280_96 : mFetch 280 96 = some (.getfield 88, 3, 12, 46, 2, 1) := by decide +kernel
theorem f280_99 : mFetch 280 99 = some (.iload_n 3, 1, 0, 0, 0, 0) := by decide +kernel
theorem f280_100 : mFetch 280 100 = some (.aload_n 0, 1, 0, 0, 0, 0) := by decide +kernel
theorem f280_101 : mFetch 280 101 = some (.getfield 85, 3, 12, 45, 2, 1) := by decide +kernel
theorem f280_104 : mFetch 280 104 = some (.iload_n 3, 1, 0, 0, 0, 0) := by decide +kernel
theorem f280_105 : mFetch 280 105 = some (.iaload, 1, 0, 0, 0, 0) := by decide +kernel
theorem f280_106 : mFetch 280 106 = some (.iastore, 1, 0, 0, 0, 0) := by decide +kernel
theorem f280_107 : mFetch 280 107 = some (.iinc 3 1, 3, 0, 0, 0, 0) := by decide +kernel
theorem f280_110 : mFetch 280 110 = some (.goto (-23), 3, 87, 0, 0, 0) := by decide +kernel
theorem f280_113 : mFetch 280 113 = some (.return_, 1, 0, 0, 0, 0) := by decide +kernel
theorem b280_0 {X : (Nat → Int) × Nat} {d : Nat} {s : mSt} {Q : mQ} (h_1 : Wp X d 280 6 [some (mR 407), some (mI 0), some (mI 0), some (mI 0)] [] s Q) : Wp X d 280 0 [some (mR 407), none, none, none] [] s Q := Wp_step k280 f280_0 (Wp_step k280 f280_1 (Wp_step k280 f280_2 (Wp_step k280 f280_3 (Wp_step k280 f280_4 (Wp_step k280 f280_5 (h_1))))))
theorem b280_6 {X : (Nat → Int) × Nat} {d : Nat} {s : mSt} {Q : mQ} {x1 : Int} {x2 : Int} {x3 : Int} (h_1 : (s 407 47) ≤ x3 → Wp X d 280 46 [some (mR 407), some (mI x1), some (mI x2), some (mI x3)] [] s Q) (h_2 : ¬ (s 407 47) ≤ x3 → Wp X d 280 14 [some (mR 407), some (mI x1), some (mI x2), some (mI x3)] [] s Q) : Wp X d 280 6 [some (mR 407), some (mI x1), some (mI x2), some (mI x3)] [] s Q := Wp_step k280 f280_6 (Wp_step k280 f280_7 (Wp_step k280 f280_8 ⟨kf_407, Wp_step k280 f280_11 ⟨h_1, h_2⟩⟩))
theorem b280_14 {X : (Nat → Int) × Nat} {d : Nat} {s : mSt} {Q : mQ} {x1 : Int} {x2 : Int} {x3 : Int} (h_1 : 0 ≤ x3 ∧ x3 < 4) (h_2 : Sp X d 245 [mR 407, mI (s 431 x3.toNat)] s (fun r s' => ∃ v : Int, r = some (mI v) ∧ Wp X (d + 1) 280 24 [some (mR 407), some (mI x1), some (mI x2), some (mI x3)] [mI v] s' Q)) : Wp X (d + 1) 280 14 [some (mR 407), some (mI x1), some (mI x2), some (mI x3)] [] s Q := Wp_step k280 f280_14 (Wp_step k280 f280_15 (Wp_step k280 f280_16 ⟨kf_407, 431, rf_407_45, Wp_step k280 f280_19 (Wp_step k280 f280_20 ⟨4, af_431, h_1, Wp_step k280 f280_21 ⟨⟨kf_407, Nat.le_of_ble_eq_true rfl⟩, Nat.le_refl _, _, rfl, Sp_E h_2⟩⟩)⟩))
theorem b280_24 {X : (Nat → Int) × Nat} {d : Nat} {s : mSt} {Q : mQ} {x1 : Int} {x2 : Int} {x3 : Int} {xt0 : Int} (h_1 : ¬ xt0 = 0 → Wp X d 280 30 [some (mR 407), some (mI x1), some (mI x2), some (mI x3)] [] s Q) (h_2 : xt0 = 0 → Wp X d 280 27 [some (mR 407), some (mI x1), some (mI x2), some (mI x3)] [] s Q) : Wp X d 280 24 [some (mR 407), some (mI x1), some (mI x2), some (mI x3)] [mI xt0] s Q := Wp_step k280 f280_24 ⟨h_1, h_2⟩
theorem b280_27 {X : (Nat → Int) × Nat} {d : Nat} {s : mSt} {Q : mQ} {x1 : Int} {x2 : Int} {x3 : Int} (h_1 : Wp X d 280 40 [some (mR 407), some (mI x1), some (mI x2), some (mI x3)] [] s Q) : Wp X d 280 27 [some (mR 407), some (mI x1), some (mI x2), some (mI x3)] [] s Q := Wp_step k280 f280_27 (h_1)
theorem b280_30 {X : (Nat → Int) × Nat} {d : Nat} {s : mSt} {Q : mQ} {x1 : Int} {x2 : Int} {x3 : Int} (h_1 : Wp X d 280 40 [some (mR 407), some (mI (w32 (x1 + 1))), some (mI (w32 (x2 + (s 407 30)))), some (mI x3)] [] s Q) : Wp X d 280 30 [some (mR 407), some (mI x1), some (mI x2), some (mI x3)] [] s Q := Wp_step k280 f280_30 (Wp_step k280 f280_33 (Wp_step k280 f280_34 (Wp_step k280 f280_35 ⟨kf_407, Wp_step k280 f280_38 (Wp_step k280 f280_39 (h_1))⟩)))
theorem b280_40 {X : (Nat → Int) × Nat} {d : Nat} {s : mSt} {Q : mQ} {x1 : Int} {x2 : Int} {x3 : Int} (h_1 : Wp X d 280 6 [some (mR 407), some (mI x1), some (mI x2), some (mI (w32 (x3 + 1)))] [] s Q) : Wp X d 280 40 [some (mR 407), some (mI x1), some (mI x2), some (mI x3)] [] s Q := Wp_step k280 f280_40 (Wp_step k280 f280_43 (h_1))
theorem b280_46 {X : (Nat → Int) × Nat} {d : Nat} {s : mSt} {Q : mQ} {x1 : Int} {x2 : Int} {x3 : Int} (h_1 : Sp X d 278 [mR 407] s (fun r s' => r = none ∧ Wp X (d + 1) 280 50 [some (mR 407), some (mI x1), some (mI x2), some (mI x3)] [] s' Q)) : Wp X (d + 1) 280 46 [some (mR 407), some (mI x1), some (mI x2), some (mI x3)] [] s Q := Wp_step k280 f280_46 (Wp_step k280 f280_47 ⟨⟨kf_407, Nat.le_of_ble_eq_true rfl⟩, Nat.le_refl _, _, rfl, Sp_V h_1⟩)
theorem b280_50 {X : (Nat → Int) × Nat} {d : Nat} {s : mSt} {Q : mQ} {x1 : Int} {x2 : Int} {x3 : Int} (h_1 : x1 < (s 407 48) → Wp X d 280 74 [some (mR 407), some (mI x1), some (mI x2), some (mI x3)] [] s Q) (h_2 : ¬ x1 < (s 407 48) → Wp X d 280 58 [some (mR 407), some (mI x1), some (mI x2), some (mI x3)] [] s Q) : Wp X d 280 50 [some (mR 407), some (mI x1), some (mI x2), some (mI x3)] [] s Q := Wp_step k280 f280_50 (Wp_step k280 f280_51 (Wp_step k280 f280_52 ⟨kf_407, Wp_step k280 f280_55 ⟨h_1, h_2⟩⟩))
theorem b280_58 {X : (Nat → Int) × Nat} {d : Nat} {s : mSt} {Q : mQ} {x1 : Int} {x2 : Int} {x3 : Int} (h_1 : ¬ x1 = (s 407 48) → Wp X d 280 75 [some (mR 407), some (mI x1), some (mI x2), some (mI x3)] [] s Q) (h_2 : x1 = (s 407 48) → Wp X d 280 66 [some (mR 407), some (mI x1), some (mI x2), some (mI x3)] [] s Q) : Wp X d 280 58 [some (mR 407), some (mI x1), some (mI x2), some (mI x3)] [] s Q := Wp_step k280 f280_58 (Wp_step k280 f280_59 (Wp_step k280 f280_60 ⟨kf_407, Wp_step k280 f280_63 ⟨h_1, h_2⟩⟩))
theorem b280_66 {X : (Nat → Int) × Nat} {d : Nat} {s : mSt} {Q : mQ} {x1 : Int} {x2 : Int} {x3 : Int} (h_1 : x2 < (s 407 49) → Wp X d 280 75 [some (mR 407), some (mI x1), some (mI x2), some (mI x3)] [] s Q) (h_2 : ¬ x2 < (s 407 49) → Wp X d 280 74 [some (mR 407), some (mI x1), some (mI x2), some (mI x3)] [] s Q) : Wp X d 280 66 [some (mR 407), some (mI x1), some (mI x2), some (mI x3)] [] s Q := Wp_step k280 f280_66 (Wp_step k280 f280_67 (Wp_step k280 f280_68 ⟨kf_407, Wp_step k280 f280_71 ⟨h_1, h_2⟩⟩))
theorem b280_74 {X : (Nat → Int) × Nat} {d : Nat} {s : mSt} {Q : mQ} {x1 : Int} {x2 : Int} {x3 : Int} (h_1 : Q none s) : Wp X d 280 74 [some (mR 407), some (mI x1), some (mI x2), some (mI x3)] [] s Q := Wp_step k280 f280_74 ⟨⟨rfl, Or.inl rfl⟩, h_1⟩
theorem b280_75 {X : (Nat → Int) × Nat} {d : Nat} {s : mSt} {Q : mQ} {x1 : Int} {x2 : Int} {x3 : Int} (h_1 : Wp X d 280 87 [some (mR 407), some (mI x1), some (mI x2), some (mI 0)] [] (uS (uS s 407 48 x1) 407 49 x2) Q) : Wp X d 280 75 [some (mR 407), some (mI x1), some (mI x2), some (mI x3)] [] s Q := Wp_step k280 f280_75 (Wp_step k280 f280_76 (Wp_step k280 f280_77 ⟨kf_407, Wp_step k280 f280_80 (Wp_step k280 f280_81 (Wp_step k280 f280_82 ⟨kf_407, Wp_step k280 f280_85 (Wp_step k280 f280_86 (h_1))⟩))⟩))
theorem b280_87 {X : (Nat → Int) × Nat} {d : Nat} {s : mSt} {Q : mQ} {x1 : Int} {x2 : Int} {x3 : Int} (h_1 : (s 407 47) ≤ x3 → Wp X d 280 113 [some (mR 407), some (mI x1), some (mI x2), some (mI x3)] [] s Q) (h_2 : ¬ (s 407 47) ≤ x3 → Wp X d 280 95 [some (mR 407), some (mI x1), some (mI x2), some (mI x3)] [] s Q) : Wp X d 280 87 [some (mR 407), some (mI x1), some (mI x2), some (mI x3)] [] s Q := Wp_step k280 f280_87 (Wp_step k280 f280_88 (Wp_step k280 f280_89 ⟨kf_407, Wp_step k280 f280_92 ⟨h_1, h_2⟩⟩))
theorem b280_95 {X : (Nat → Int) × Nat} {d : Nat} {s : mSt} {Q : mQ} {x1 : Int} {x2 : Int} {x3 : Int} (h_1 : 0 ≤ x3 ∧ x3 < 4) (h_2 : 0 ≤ x3 ∧ x3 < 4) (h_3 : Wp X d 280 87 [some (mR 407), some (mI x1), some (mI x2), some (mI (w32 (x3 + 1)))] [] (uS s 432 x3.toNat (s 431 x3.toNat)) Q) : Wp X d 280 95 [some (mR 407), some (mI x1), some (mI x2), some (mI x3)] [] s Q := Wp_step k280 f280_95 (Wp_step k280 f280_96 ⟨kf_407, 432, rf_407_46, Wp_step k280 f280_99 (Wp_step k280 f280_100 (Wp_step k280 f280_101 ⟨kf_407, 431, rf_407_45, Wp_step k280 f280_104 (Wp_step k280 f280_105 ⟨4, af_431, h_1, Wp_step k280 f280_106 ⟨4, af_432, h_2, Wp_step k280 f280_107 (Wp_step k280 f280_110 (h_3))⟩⟩)⟩))⟩)
theorem b280_113 {X : (Nat → Int) × Nat} {d : Nat} {s : mSt} {Q : mQ} {x1 : Int} {x2 : Int} {x3 : Int} (h_1 : Q none s) : Wp X d 280 113 [some (mR 407), some (mI x1), some (mI x2), some (mI x3)] [] s Q := Wp_step k280 f280_113 ⟨⟨rfl, Or.inl rfl⟩, h_1⟩
theorem e280 {X : (Nat → Int) × Nat} {d : Nat} {s : mSt} {Q : mQ} (h : Wp X d 280 0 [some (mR 407), none, none, none] [] s Q) : Sp X d 280 [mR 407] s Q := Sp_of (show mCe 280 = 0 by decide +kernel) (by rw [show mML 280 = 4 by decide +kernel]; rfl) (Nat.le_trans (Nat.le_of_ble_eq_true (show Nat.ble (mArgs _).length 4 = true from rfl)) (show 4 ≤ mML 280 by decide +kernel)) h
-- 281 ClashDayModel.best(I)I
theorem k281 : mRk 281 = 1 := by decide +kernel
theorem f281_0 : mFetch 281 0 = some (.aload_n 0, 1, 0, 0, 0, 0) := by decide +kernel
theorem f281_1 : mFetch 281 1 = some (.invokevirtual 354, 3, 212, 0, 1, 12) := by decide +kernel
theorem f281_4 : mFetch 281 4 = some (.ifCond .eq 15, 3, 19, 0, 0, 0) := by decide +kernel
theorem f281_7 : mFetch 281 7 = some (.iload_n 1, 1, 0, 0, 0, 0) := by decide +kernel
theorem f281_8 : mFetch 281 8 = some (.i2l, 1, 0, 0, 0, 0) := by decide +kernel
theorem f281_9 : mFetch 281 9 = some (.lconst 0, 1, 0, 0, 0, 0) := by decide +kernel
theorem f281_10 : mFetch 281 10 = some (.ldc2_w 500, 3, 5, 0, 0, 0) := by decide +kernel
theorem f281_13 : mFetch 281 13 = some (.invokestatic 151, 3, 167, 0, 3, 99) := by decide +kernel
theorem f281_16 : mFetch 281 16 = some (.ifCond .ne 6, 3, 22, 0, 0, 0) := by decide +kernel
theorem f281_19 : mFetch 281 19 = some (.bipush (-2), 2, 0, 0, 0, 0) := by decide +kernel
theorem f281_21 : mFetch 281 21 = some (.ireturn, 1, 0, 0, 0, 0) := by decide +kernel
theorem f281_22 : mFetch 281 22 = some (.aload_n 0, 1, 0, 0, 0, 0) := by decide +kernel
theorem f281_23 : mFetch 281 23 = some (.iconst 0, 1, 0, 0, 0, 0) := by decide +kernel
theorem f281_24 : mFetch 281 24 = some (.putfield 488, 3, 12, 47, 0, 1) := by decide +kernel
theorem f281_27 : mFetch 281 27 = some (.iconst 0, 1, 0, 0, 0, 0) := by decide +kernel
theorem f281_28 : mFetch 281 28 = some (.istore_n 2, 1, 0, 0, 0, 0) := by decide +kernel
theorem f281_29 : mFetch 281 29 = some (.iload_n 2, 1, 0, 0, 0, 0) := by decide +kernel
theorem f281_30 : mFetch 281 30 = some (.aload_n 0, 1, 0, 0, 0, 0) := by decide +kernel
theorem f281_31 : mFetch 281 31 = some (.getfield 39, 3, 12, 20, 2, 1) := by decide +kernel
theorem f281_34 : mFetch 281 34 = some (.iconst 4, 1, 0, 0, 0, 0) := by decide +kernel
theorem f281_35 : mFetch 281 35 = some (.iaload, 1, 0, 0, 0, 0) := by decide +kernel
theorem f281_36 : mFetch 281 36 = some (.if_icmp .ge 48, 3, 84, 0, 0, 0) := by decide +kernel
theorem f281_39 : mFetch 281 39 = some (.aload_n 0, 1, 0, 0, 0, 0) := by decide +kernel
theorem f281_40 : mFetch 281 40 = some (.getfield 488, 3, 12, 47, 0, 1) := by decide +kernel
theorem f281_43 : mFetch 281 43 = some (.iconst 4, 1, 0, 0, 0, 0) := by decide +kernel
theorem f281_44 : mFetch 281 44 = some (.if_icmp .ge 40, 3, 84, 0, 0, 0) := by decide +kernel
theorem f281_47 : mFetch 281 47 = some (.aload_n 0, 1, 0, 0, 0, 0) := by decide +kernel
theorem f281_48 : mFetch 281 48 = some (.iload_n 2, 1, 0, 0, 0, 0) := by decide +kernel
theorem f281_49 : mFetch 281 49 = some (.invokevirtual 328, 3, 215, 0, 2, 12) := by decide +kernel
theorem f281_52 : mFetch 281 52 = some (.ifCond .ne 6, 3, 58, 0, 0, 0) := by decide +kernel
theorem f281_55 : mFetch 281 55 = some (.goto 23, 3, 78, 0, 0, 0) := by decide +kernel
theorem f281_58 : mFetch 281 58 = some (.aload_n 0, 1, 0, 0, 0, 0) := by decide +kernel
theorem f281_59 : mFetch 281 59 = some (.getfield 82, 3, 12, 44, 2, 1) := by decide +kernel
theorem f281_62 : mFetch 281 62 = some (.aload_n 0, 1, 0, 0, 0, 0) := by decide +kernel
theorem f281_63 : mFetch 281 63 = some (.getfield 488, 3, 12, 47, 0, 1) := by decide +kernel
theorem f281_66 : mFetch 281 66 = some (.iload_n 2, 1, 0, 0, 0, 0) := by decide +kernel
theorem f281_67 : mFetch 281 67 = some (.iastore, 1, 0, 0, 0, 0) := by decide +kernel
theorem f281_68 : mFetch 281 68 = some (.aload_n 0, 1, 0, 0, 0, 0) := by decide +kernel
theorem f281_69 : mFetch 281 69 = some (.dup, 1, 0, 0, 0, 0) := by decide +kernel
theorem f281_70 : mFetch 281 70 = some (.getfield 488, 3, 12, 47, 0, 1) := by decide +kernel
theorem f281_73 : mFetch 281 73 = some (.iconst 1, 1, 0, 0, 0, 0) := by decide +kernel
theorem f281_74 : mFetch 281 74 = some (.iadd, 1, 0, 0, 0, 0) := by decide +kernel
theorem f281_75 : mFetch 281 75 = some (.putfield 488, 3, 12, 47, 0, 1) := by decide +kernel
theorem f281_78 : mFetch 281 78 = some (.iinc 2 1, 3, 0, 0, 0, 0) := by decide +kernel
theorem f281_81 : mFetch 281 81 = some (.goto (-52), 3, 29, 0, 0, 0) := by decide +kernel
theorem f281_84 : mFetch 281 84 = some (.aload_n 0, 1, 0, 0, 0, 0) := by decide +kernel
theorem f281_85 : mFetch 281 85 = some (.iconst (-1), 1, 0, 0, 0, 0) := by decide +kernel
theorem f281_86 : mFetch 281 86 = some (.putfield 494, 3, 12, 48, 0, 1) := by decide +kernel
theorem f281_89 : mFetch 281 89 = some (.aload_n 0, 1, 0, 0, 0, 0) := by decide +kernel
theorem f281_90 : mFetch 281 90 = some (.invokevirtual 502, 3, 277, 0, 1, 12) := by decide +kernel
theorem f281_93 : mFetch 281 93 = some (.iconst 0, 1, 0, 0, 0, 0) := by decide +kernel
theorem f281_94 : mFetch 281 94 = some (.istore_n 2, 1, 0, 0, 0, 0) := by decide +kernel
theorem f281_95 : mFetch 281 95 = some (.iload_n 2, 1, 0, 0, 0, 0) := by decide +kernel
theorem f281_96 : mFetch 281 96 = some (.aload_n 0, 1, 0, 0, 0, 0) := by decide +kernel
theorem f281_97 : mFetch 281 97 = some (.getfield 488, 3, 12, 47, 0, 1) := by decide +kernel
theorem f281_100 : mFetch 281 100 = some (.invokestatic 365, 3, 233, 0, 1, 99) := by decide +kernel
theorem f281_103 : mFetch 281 103 = some (.if_icmp .ge 18, 3, 121, 0, 0, 0) := by decide +kernel
theorem f281_106 : mFetch 281 106 = some (.aload_n 0, 1, 0, 0, 0, 0) := by decide +kernel
theorem f281_107 : mFetch 281 107 = some (.iload_n 2, 1, 0, 0, 0, 0) := by decide +kernel
theorem f281_108 : mFetch 281 108 = some (.invokevirtual 505, 3, 279, 0, 2, 12) := by decide +kernel
theorem f281_111 : mFetch 281 111 = some (.aload_n 0, 1, 0, 0, 0, 0) := by decide +kernel
theorem f281_112 : mFetch 281 112 = some (.invokevirtual 508, 3, 280, 0, 1, 12) := by decide +kernel
theorem f281_115 : mFetch 281 115 = some (.iinc 2 1, 3, 0, 0, 0, 0) := by decide +kernel
theorem f281_118 : mFetch 281 118 = some (.goto (-23), 3, 95, 0, 0, 0) := by decide +kernel
theorem f281_121 : mFetch 281 121 = some (.iload_n 1, 1, 0, 0, 0, 0) := by decide +kernel
theorem f281_122 : mFetch 281 122 = some (.ifCond .ne 8, 3, 130, 0, 0, 0) := by decide +kernel
theorem f281_125 : mFetch 281 125 = some (.aload_n 0, 1, 0, 0, 0, 0) := by decide +kernel
theorem f281_126 : mFetch 281 126 = some (.getfield 494, 3, 12, 48, 0, 1) := by decide +kernel
theorem f281_129 : mFetch 281 129 = some (.ireturn, 1, 0, 0, 0, 0) := by decide +kernel
theorem f281_130 : mFetch 281 130 = some (.iload_n 1, 1, 0, 0, 0, 0) := by decide +kernel
theorem f281_131 : mFetch 281 131 = some (.iconst 1, 1, 0, 0, 0, 0) := by decide +kernel
theorem f281_132 : mFetch 281 132 = some (.if_icmp .ne 8, 3, 140, 0, 0, 0) := by decide +kernel
theorem f281_135 : mFetch 281 135 = some (.aload_n 0, 1, 0, 0, 0, 0) := by decide +kernel
theorem f281_136 : mFetch 281 136 = some (.getfield 497, 3, 12, 49, 0, 1) := by decide +kernel
theorem f281_139 : mFetch 281 139 = some (.ireturn, 1, 0, 0, 0, 0) := by decide +kernel
theorem f281_140 : mFetch 281 140 = some (.iload_n 1, 1, 0, 0, 0, 0) := by decide +kernel
theorem f281_141 : mFetch 281 141 = some (.iconst 2, 1, 0, 0, 0, 0) := by decide +kernel
theorem f281_142 : mFetch 281 142 = some (.isub, 1, 0, 0, 0, 0) := by decide +kernel
theorem f281_143 : mFetch 281 143 = some (.aload_n 0, 1, 0, 0, 0, 0) := by decide +kernel
theorem f281_144 : mFetch 281 144 = some (.getfield 488, 3, 12, 47, 0, 1) := by decide +kernel
theorem f281_147 : mFetch 281 147 = some (.if_icmp .ge 14, 3, 161, 0, 0, 0) := by decide +kernel
theorem f281_150 : mFetch 281 150 = some (.aload_n 0, 1, 0, 0, 0, 0) := by decide +kernel
theorem f281_151 : mFetch 281 151 = some (.getfield 88, 3, 12, 46, 2, 1) := by decide +kernel
theorem f281_154 : mFetch 281 154 = some (.iload_n 1, 1, 0, 0, 0, 0) := by decide +kernel
theorem f281_155 : mFetch 281 155 = some (.iconst 2, 1, 0, 0, 0, 0) := by decide +kernel
theorem f281_156 : mFetch 281 156 = some (.isub, 1, 0, 0, 0, 0) := by decide +kernel
theorem f281_157 : mFetch 281 157 = some (.iaload, 1, 0, 0, 0, 0) := by decide +kernel
theorem f281_158 : mFetch 281 158 = some (.goto 4, 3, 162, 0, 0, 0) := by decide +kernel
theorem f281_161 : mFetch 281 161 = some (.iconst (-1), 1, 0, 0, 0, 0) := by decide +kernel
theorem f281_162 : mFetch 281 162 = some (.ireturn, 1, 0, 0, 0, 0) := by decide +kernel
theorem b281_0 {X : (Nat → Int) × Nat} {d : Nat} {s : mSt} {Q : mQ} {x1 : Int} (h_1 : Sp X d 212 [mR 407] s (fun r s' => ∃ v : Int, r = some (mI v) ∧ Wp X (d + 1) 281 4 [some (mR 407), some (mI x1), none] [mI v] s' Q)) : Wp X (d + 1) 281 0 [some (mR 407), some (mI x1), none] [] s Q := Wp_step k281 f281_0 (Wp_step k281 f281_1 ⟨⟨kf_407, Nat.le_of_ble_eq_true rfl⟩, Nat.le_refl _, _, rfl, Sp_E h_1⟩)
theorem b281_4 {X : (Nat → Int) × Nat} {d : Nat} {s : mSt} {Q : mQ} {x1 : Int} {xt0 : Int} (h_1 : xt0 = 0 → Wp X d 281 19 [some (mR 407), some (mI x1), none] [] s Q) (h_2 : ¬ xt0 = 0 → Wp X d 281 7 [some (mR 407), some (mI x1), none] [] s Q) : Wp X d 281 4 [some (mR 407), some (mI x1), none] [mI xt0] s Q := Wp_step k281 f281_4 ⟨h_1, h_2⟩
theorem b281_7 {X : (Nat → Int) × Nat} {d : Nat} {s : mSt} {Q : mQ} {x1 : Int} (h_1 : Sp X d 167 [mJ x1, mJ 0, mJ 5] s (fun r s' => ∃ v : Int, r = some (mI v) ∧ Wp X (d + 1) 281 16 [some (mR 407), some (mI x1), none] [mI v] s' Q)) : Wp X (d + 1) 281 7 [some (mR 407), some (mI x1), none] [] s Q := Wp_step k281 f281_7 (Wp_step k281 f281_8 (Wp_step k281 f281_9 (Wp_step k281 f281_10 (Wp_step k281 f281_13 ⟨⟨Nat.le_of_ble_eq_true rfl, Nat.le_refl _⟩, _, rfl, Sp_E h_1⟩))))
theorem b281_16 {X : (Nat → Int) × Nat} {d : Nat} {s : mSt} {Q : mQ} {x1 : Int} {xt0 : Int} (h_1 : ¬ xt0 = 0 → Wp X d 281 22 [some (mR 407), some (mI x1), none] [] s Q) (h_2 : xt0 = 0 → Wp X d 281 19 [some (mR 407), some (mI x1), none] [] s Q) : Wp X d 281 16 [some (mR 407), some (mI x1), none] [mI xt0] s Q := Wp_step k281 f281_16 ⟨h_1, h_2⟩
theorem b281_19 {X : (Nat → Int) × Nat} {d : Nat} {s : mSt} {Q : mQ} {x1 : Int} (h_1 : Q (some (mI (-2))) s) : Wp X d 281 19 [some (mR 407), some (mI x1), none] [] s Q := Wp_step k281 f281_19 (Wp_step k281 f281_21 ⟨⟨rfl, trivial⟩, h_1⟩)
theorem b281_22 {X : (Nat → Int) × Nat} {d : Nat} {s : mSt} {Q : mQ} {x1 : Int} (h_1 : Wp X d 281 29 [some (mR 407), some (mI x1), some (mI 0)] [] (uS s 407 47 0) Q) : Wp X d 281 22 [some (mR 407), some (mI x1), none] [] s Q := Wp_step k281 f281_22 (Wp_step k281 f281_23 (Wp_step k281 f281_24 ⟨kf_407, Wp_step k281 f281_27 (Wp_step k281 f281_28 (h_1))⟩))
theorem b281_29 {X : (Nat → Int) × Nat} {d : Nat} {s : mSt} {Q : mQ} {x1 : Int} {x2 : Int} (h_1 : (s 417 4) ≤ x2 → Wp X d 281 84 [some (mR 407), some (mI x1), some (mI x2)] [] s Q) (h_2 : ¬ (s 417 4) ≤ x2 → Wp X d 281 39 [some (mR 407), some (mI x1), some (mI x2)] [] s Q) : Wp X d 281 29 [some (mR 407), some (mI x1), some (mI x2)] [] s Q := Wp_step k281 f281_29 (Wp_step k281 f281_30 (Wp_step k281 f281_31 ⟨kf_407, 417, rf_407_20, Wp_step k281 f281_34 (Wp_step k281 f281_35 ⟨166, af_417, ⟨by decide, by decide⟩, Wp_step k281 f281_36 ⟨h_1, h_2⟩⟩)⟩))
theorem b281_39 {X : (Nat → Int) × Nat} {d : Nat} {s : mSt} {Q : mQ} {x1 : Int} {x2 : Int} (h_1 : 4 ≤ (s 407 47) → Wp X d 281 84 [some (mR 407), some (mI x1), some (mI x2)] [] s Q) (h_2 : ¬ 4 ≤ (s 407 47) → Wp X d 281 47 [some (mR 407), some (mI x1), some (mI x2)] [] s Q) : Wp X d 281 39 [some (mR 407), some (mI x1), some (mI x2)] [] s Q := Wp_step k281 f281_39 (Wp_step k281 f281_40 ⟨kf_407, Wp_step k281 f281_43 (Wp_step k281 f281_44 ⟨h_1, h_2⟩)⟩)
theorem b281_47 {X : (Nat → Int) × Nat} {d : Nat} {s : mSt} {Q : mQ} {x1 : Int} {x2 : Int} (h_1 : Sp X d 215 [mR 407, mI x2] s (fun r s' => ∃ v : Int, r = some (mI v) ∧ Wp X (d + 1) 281 52 [some (mR 407), some (mI x1), some (mI x2)] [mI v] s' Q)) : Wp X (d + 1) 281 47 [some (mR 407), some (mI x1), some (mI x2)] [] s Q := Wp_step k281 f281_47 (Wp_step k281 f281_48 (Wp_step k281 f281_49 ⟨⟨kf_407, Nat.le_of_ble_eq_true rfl⟩, Nat.le_refl _, _, rfl, Sp_E h_1⟩))
theorem b281_52 {X : (Nat → Int) × Nat} {d : Nat} {s : mSt} {Q : mQ} {x1 : Int} {x2 : Int} {xt0 : Int} (h_1 : ¬ xt0 = 0 → Wp X d 281 58 [some (mR 407), some (mI x1), some (mI x2)] [] s Q) (h_2 : xt0 = 0 → Wp X d 281 55 [some (mR 407), some (mI x1), some (mI x2)] [] s Q) : Wp X d 281 52 [some (mR 407), some (mI x1), some (mI x2)] [mI xt0] s Q := Wp_step k281 f281_52 ⟨h_1, h_2⟩
theorem b281_55 {X : (Nat → Int) × Nat} {d : Nat} {s : mSt} {Q : mQ} {x1 : Int} {x2 : Int} (h_1 : Wp X d 281 78 [some (mR 407), some (mI x1), some (mI x2)] [] s Q) : Wp X d 281 55 [some (mR 407), some (mI x1), some (mI x2)] [] s Q := Wp_step k281 f281_55 (h_1)
theorem b281_58 {X : (Nat → Int) × Nat} {d : Nat} {s : mSt} {Q : mQ} {x1 : Int} {x2 : Int} (h_1 : 0 ≤ (s 407 47) ∧ (s 407 47) < 4) (h_2 : Wp X d 281 78 [some (mR 407), some (mI x1), some (mI x2)] [] (uS (uS s 430 ((s 407 47).toNat) x2) 407 47 (w32 (((uS s 430 ((s 407 47).toNat) x2) 407 47) + 1))) Q) : Wp X d 281 58 [some (mR 407), some (mI x1), some (mI x2)] [] s Q := Wp_step k281 f281_58 (Wp_step k281 f281_59 ⟨kf_407, 430, rf_407_44, Wp_step k281 f281_62 (Wp_step k281 f281_63 ⟨kf_407, Wp_step k281 f281_66 (Wp_step k281 f281_67 ⟨4, af_430, h_1, Wp_step k281 f281_68 (Wp_step k281 f281_69 (Wp_step k281 f281_70 ⟨kf_407, Wp_step k281 f281_73 (Wp_step k281 f281_74 (Wp_step k281 f281_75 ⟨kf_407, h_2⟩))⟩))⟩)⟩)⟩)
theorem b281_78 {X : (Nat → Int) × Nat} {d : Nat} {s : mSt} {Q : mQ} {x1 : Int} {x2 : Int} (h_1 : Wp X d 281 29 [some (mR 407), some (mI x1), some (mI (w32 (x2 + 1)))] [] s Q) : Wp X d 281 78 [some (mR 407), some (mI x1), some (mI x2)] [] s Q := Wp_step k281 f281_78 (Wp_step k281 f281_81 (h_1))
theorem b281_84 {X : (Nat → Int) × Nat} {d : Nat} {s : mSt} {Q : mQ} {x1 : Int} {x2 : Int} (h_1 : Sp X d 277 [mR 407] (uS s 407 48 (-1)) (fun r s' => r = none ∧ Wp X (d + 1) 281 93 [some (mR 407), some (mI x1), some (mI x2)] [] s' Q)) : Wp X (d + 1) 281 84 [some (mR 407), some (mI x1), some (mI x2)] [] s Q := Wp_step k281 f281_84 (Wp_step k281 f281_85 (Wp_step k281 f281_86 ⟨kf_407, Wp_step k281 f281_89 (Wp_step k281 f281_90 ⟨⟨kf_407, Nat.le_of_ble_eq_true rfl⟩, Nat.le_refl _, _, rfl, Sp_V h_1⟩)⟩))
theorem b281_93 {X : (Nat → Int) × Nat} {d : Nat} {s : mSt} {Q : mQ} {x1 : Int} {x2 : Int} (h_1 : Wp X d 281 95 [some (mR 407), some (mI x1), some (mI 0)] [] s Q) : Wp X d 281 93 [some (mR 407), some (mI x1), some (mI x2)] [] s Q := Wp_step k281 f281_93 (Wp_step k281 f281_94 (h_1))
theorem b281_95 {X : (Nat → Int) × Nat} {d : Nat} {s : mSt} {Q : mQ} {x1 : Int} {x2 : Int} (h_1 : Sp X d 233 [mI (s 407 47)] s (fun r s' => ∃ v : Int, r = some (mI v) ∧ Wp X (d + 1) 281 103 [some (mR 407), some (mI x1), some (mI x2)] [mI v, mI x2] s' Q)) : Wp X (d + 1) 281 95 [some (mR 407), some (mI x1), some (mI x2)] [] s Q := Wp_step k281 f281_95 (Wp_step k281 f281_96 (Wp_step k281 f281_97 ⟨kf_407, Wp_step k281 f281_100 ⟨⟨Nat.le_of_ble_eq_true rfl, Nat.le_refl _⟩, _, rfl, Sp_E h_1⟩⟩))
theorem b281_103 {X : (Nat → Int) × Nat} {d : Nat} {s : mSt} {Q : mQ} {x1 : Int} {x2 : Int} {xt0 : Int} {xt1 : Int} (h_1 : xt1 ≤ xt0 → Wp X d 281 121 [some (mR 407), some (mI x1), some (mI x2)] [] s Q) (h_2 : ¬ xt1 ≤ xt0 → Wp X d 281 106 [some (mR 407), some (mI x1), some (mI x2)] [] s Q) : Wp X d 281 103 [some (mR 407), some (mI x1), some (mI x2)] [mI xt1, mI xt0] s Q := Wp_step k281 f281_103 ⟨h_1, h_2⟩
theorem b281_106 {X : (Nat → Int) × Nat} {d : Nat} {s : mSt} {Q : mQ} {x1 : Int} {x2 : Int} (h_1 : Sp X d 279 [mR 407, mI x2] s (fun r s' => r = none ∧ Wp X (d + 1) 281 111 [some (mR 407), some (mI x1), some (mI x2)] [] s' Q)) : Wp X (d + 1) 281 106 [some (mR 407), some (mI x1), some (mI x2)] [] s Q := Wp_step k281 f281_106 (Wp_step k281 f281_107 (Wp_step k281 f281_108 ⟨⟨kf_407, Nat.le_of_ble_eq_true rfl⟩, Nat.le_refl _, _, rfl, Sp_V h_1⟩))
theorem b281_111 {X : (Nat → Int) × Nat} {d : Nat} {s : mSt} {Q : mQ} {x1 : Int} {x2 : Int} (h_1 : Sp X d 280 [mR 407] s (fun r s' => r = none ∧ Wp X (d + 1) 281 115 [some (mR 407), some (mI x1), some (mI x2)] [] s' Q)) : Wp X (d + 1) 281 111 [some (mR 407), some (mI x1), some (mI x2)] [] s Q := Wp_step k281 f281_111 (Wp_step k281 f281_112 ⟨⟨kf_407, Nat.le_of_ble_eq_true rfl⟩, Nat.le_refl _, _, rfl, Sp_V h_1⟩)
theorem b281_115 {X : (Nat → Int) × Nat} {d : Nat} {s : mSt} {Q : mQ} {x1 : Int} {x2 : Int} (h_1 : Wp X d 281 95 [some (mR 407), some (mI x1), some (mI (w32 (x2 + 1)))] [] s Q) : Wp X d 281 115 [some (mR 407), some (mI x1), some (mI x2)] [] s Q := Wp_step k281 f281_115 (Wp_step k281 f281_118 (h_1))
theorem b281_121 {X : (Nat → Int) × Nat} {d : Nat} {s : mSt} {Q : mQ} {x1 : Int} {x2 : Int} (h_1 : ¬ x1 = 0 → Wp X d 281 130 [some (mR 407), some (mI x1), some (mI x2)] [] s Q) (h_2 : x1 = 0 → Wp X d 281 125 [some (mR 407), some (mI x1), some (mI x2)] [] s Q) : Wp X d 281 121 [some (mR 407), some (mI x1), some (mI x2)] [] s Q := Wp_step k281 f281_121 (Wp_step k281 f281_122 ⟨h_1, h_2⟩)
theorem b281_125 {X : (Nat → Int) × Nat} {d : Nat} {s : mSt} {Q : mQ} {x1 : Int} {x2 : Int} (h_1 : Q (some (mI (s 407 48))) s) : Wp X d 281 125 [some (mR 407), some (mI x1), some (mI x2)] [] s Q := Wp_step k281 f281_125 (Wp_step k281 f281_126 ⟨kf_407, Wp_step k281 f281_129 ⟨⟨rfl, trivial⟩, h_1⟩⟩)
theorem b281_130 {X : (Nat → Int) × Nat} {d : Nat} {s : mSt} {Q : mQ} {x1 : Int} {x2 : Int} (h_1 : ¬ x1 = 1 → Wp X d 281 140 [some (mR 407), some (mI x1), some (mI x2)] [] s Q) (h_2 : x1 = 1 → Wp X d 281 135 [some (mR 407), some (mI x1), some (mI x2)] [] s Q) : Wp X d 281 130 [some (mR 407), some (mI x1), some (mI x2)] [] s Q := Wp_step k281 f281_130 (Wp_step k281 f281_131 (Wp_step k281 f281_132 ⟨h_1, h_2⟩))
theorem b281_135 {X : (Nat → Int) × Nat} {d : Nat} {s : mSt} {Q : mQ} {x1 : Int} {x2 : Int} (h_1 : Q (some (mI (s 407 49))) s) : Wp X d 281 135 [some (mR 407), some (mI x1), some (mI x2)] [] s Q := Wp_step k281 f281_135 (Wp_step k281 f281_136 ⟨kf_407, Wp_step k281 f281_139 ⟨⟨rfl, trivial⟩, h_1⟩⟩)
theorem b281_140 {X : (Nat → Int) × Nat} {d : Nat} {s : mSt} {Q : mQ} {x1 : Int} {x2 : Int} (h_1 : (s 407 47) ≤ (w32 (x1 - 2)) → Wp X d 281 161 [some (mR 407), some (mI x1), some (mI x2)] [] s Q) (h_2 : ¬ (s 407 47) ≤ (w32 (x1 - 2)) → Wp X d 281 150 [some (mR 407), some (mI x1), some (mI x2)] [] s Q) : Wp X d 281 140 [some (mR 407), some (mI x1), some (mI x2)] [] s Q := Wp_step k281 f281_140 (Wp_step k281 f281_141 (Wp_step k281 f281_142 (Wp_step k281 f281_143 (Wp_step k281 f281_144 ⟨kf_407, Wp_step k281 f281_147 ⟨h_1, h_2⟩⟩))))
theorem b281_150 {X : (Nat → Int) × Nat} {d : Nat} {s : mSt} {Q : mQ} {x1 : Int} {x2 : Int} (h_1 : 0 ≤ (w32 (x1 - 2)) ∧ (w32 (x1 - 2)) < 4) (h_2 : Wp X d 281 162 [some (mR 407), some (mI x1), some (mI x2)] [mI (s 432 (w32 (x1 - 2)).toNat)] s Q) : Wp X d 281 150 [some (mR 407), some (mI x1), some (mI x2)] [] s Q := Wp_step k281 f281_150 (Wp_step k281 f281_151 ⟨kf_407, 432, rf_407_46, Wp_step k281 f281_154 (Wp_step k281 f281_155 (Wp_step k281 f281_156 (Wp_step k281 f281_157 ⟨4, af_432, h_1, Wp_step k281 f281_158 (h_2)⟩)))⟩)
theorem b281_161 {X : (Nat → Int) × Nat} {d : Nat} {s : mSt} {Q : mQ} {x1 : Int} {x2 : Int} (h_1 : Wp X d 281 162 [some (mR 407), some (mI x1), some (mI x2)] [mI (-1)] s Q) : Wp X d 281 161 [some (mR 407), some (mI x1), some (mI x2)] [] s Q := Wp_step k281 f281_161 (h_1)
theorem b281_162 {X : (Nat → Int) × Nat} {d : Nat} {s : mSt} {Q : mQ} {x1 : Int} {x2 : Int} {xt0 : Int} (h_1 : Q (some (mI xt0)) s) : Wp X d 281 162 [some (mR 407), some (mI x1), some (mI x2)] [mI xt0] s Q := Wp_step k281 f281_162 ⟨⟨rfl, trivial⟩, h_1⟩
theorem e281 {X : (Nat → Int) × Nat} {d : Nat} {s : mSt} {Q : mQ} {x1 : Int} (h : Wp X d 281 0 [some (mR 407), some (mI x1), none] [] s Q) : Sp X d 281 [mR 407, mI x1] s Q := Sp_of (show mCe 281 = 0 by decide +kernel) (by rw [show mML 281 = 3 by decide +kernel]; rfl) (Nat.le_trans (Nat.le_of_ble_eq_true (show Nat.ble (mArgs _).length 3 = true from rfl)) (show 3 ≤ mML 281 by decide +kernel)) h
-- 282 ClashDayModel.stuckMany()I
theorem k282 : mRk 282 = 1 := by decide +kernel
theorem f282_0 : mFetch 282 0 = some (.iconst 0, 1, 0, 0, 0, 0) := by decide +kernel
theorem f282_1 : mFetch 282 1 = some (.istore_n 1, 1, 0, 0, 0, 0) := by decide +kernel
theorem f282_2 : mFetch 282 2 = some (.iconst 0, 1, 0, 0, 0, 0) := by decide +kernel
theorem f282_3 : mFetch 282 3 = some (.istore_n 2, 1, 0, 0, 0, 0) := by decide +kernel
theorem f282_4 : mFetch 282 4 = some (.iload_n 2, 1, 0, 0, 0, 0) := by decide +kernel
theorem f282_5 : mFetch 282 5 = some (.aload_n 0, 1, 0, 0, 0, 0) := by decide +kernel
theorem f282_6 : mFetch 282 6 = some (.getfield 39, 3, 12, 20, 2, 1) := by decide +kernel
theorem f282_9 : mFetch 282 9 = some (.iconst 4, 1, 0, 0, 0, 0) := by decide +kernel
theorem f282_10 : mFetch 282 10 = some (.iaload, 1, 0, 0, 0, 0) := by decide +kernel
theorem f282_11 : mFetch 282 11 = some (.if_icmp .ge 33, 3, 44, 0, 0, 0) := by decide +kernel
theorem f282_14 : mFetch 282 14 = some (.iload_n 1, 1, 0, 0, 0, 0) := by decide +kernel
theorem f282_15 : mFetch 282 15 = some (.aload_n 0, 1, 0, 0, 0, 0) := by decide +kernel
theorem f282_16 : mFetch 282 16 = some (.iload_n 2, 1, 0, 0, 0, 0) := by decide +kernel
theorem f282_17 : mFetch 282 17 = some (.invokevirtual 328, 3, 215, 0, 2, 12) := by decide +kernel
theorem f282_20 : mFetch 282 20 = some (.ifCond .eq 15, 3, 35, 0, 0, 0) := by decide +kernel
theorem f282_23 : mFetch 282 23 = some (.aload_n 0, 1, 0, 0, 0, 0) := by decide +kernel
theorem f282_24 : mFetch 282 24 = some (.iload_n 2, 1, 0, 0, 0, 0) := by decide +kernel
theorem f282_25 : mFetch 282 25 = some (.invokevirtual 420, 3, 244, 0, 2, 12) := by decide +kernel
theorem f282_28 : mFetch 282 28 = some (.ifCond .ne 7, 3, 35, 0, 0, 0) := by decide +kernel
theorem f282_31 : mFetch 282 31 = some (.iconst 1, 1, 0, 0, 0, 0) := by decide +kernel
theorem f282_32 : mFetch 282 32 = some (.goto 4, 3, 36, 0, 0, 0) := by decide +kernel
theorem f282_35 : mFetch 282 35 = some (.iconst 0, 1, 0, 0, 0, 0) := by decide +kernel
theorem f282_36 : mFetch 282 36 = some (.iadd, 1, 0, 0, 0, 0) := by decide +kernel
theorem f282_37 : mFetch 282 37 = some (.istore_n 1, 1, 0, 0, 0, 0) := by decide +kernel
theorem f282_38 : mFetch 282 38 = some (.iinc 2 1, 3, 0, 0, 0, 0) := by decide +kernel
theorem f282_41 : mFetch 282 41 = some (.goto (-37), 3, 4, 0, 0, 0) := by decide +kernel
theorem f282_44 : mFetch 282 44 = some (.iload_n 1, 1, 0, 0, 0, 0) := by decide +kernel
theorem f282_45 : mFetch 282 45 = some (.ireturn, 1, 0, 0, 0, 0) := by decide +kernel
theorem b282_0 {X : (Nat → Int) × Nat} {d : Nat} {s : mSt} {Q : mQ} (h_1 : Wp X d 282 4 [some (mR 407), some (mI 0), some (mI 0)] [] s Q) : Wp X d 282 0 [some (mR 407), none, none] [] s Q := Wp_step k282 f282_0 (Wp_step k282 f282_1 (Wp_step k282 f282_2 (Wp_step k282 f282_3 (h_1))))
theorem b282_4 {X : (Nat → Int) × Nat} {d : Nat} {s : mSt} {Q : mQ} {x1 : Int} {x2 : Int} (h_1 : (s 417 4) ≤ x2 → Wp X d 282 44 [some (mR 407), some (mI x1), some (mI x2)] [] s Q) (h_2 : ¬ (s 417 4) ≤ x2 → Wp X d 282 14 [some (mR 407), some (mI x1), some (mI x2)] [] s Q) : Wp X d 282 4 [some (mR 407), some (mI x1), some (mI x2)] [] s Q := Wp_step k282 f282_4 (Wp_step k282 f282_5 (Wp_step k282 f282_6 ⟨kf_407, 417, rf_407_20, Wp_step k282 f282_9 (Wp_step k282 f282_10 ⟨166, af_417, ⟨by decide, by decide⟩, Wp_step k282 f282_11 ⟨h_1, h_2⟩⟩)⟩))
theorem b282_14 {X : (Nat → Int) × Nat} {d : Nat} {s : mSt} {Q : mQ} {x1 : Int} {x2 : Int} (h_1 : Sp X d 215 [mR 407, mI x2] s (fun r s' => ∃ v : Int, r = some (mI v) ∧ Wp X (d + 1) 282 20 [some (mR 407), some (mI x1), some (mI x2)] [mI v, mI x1] s' Q)) : Wp X (d + 1) 282 14 [some (mR 407), some (mI x1), some (mI x2)] [] s Q := Wp_step k282 f282_14 (Wp_step k282 f282_15 (Wp_step k282 f282_16 (Wp_step k282 f282_17 ⟨⟨kf_407, Nat.le_of_ble_eq_true rfl⟩, Nat.le_refl _, _, rfl, Sp_E h_1⟩)))
theorem b282_20 {X : (Nat → Int) × Nat} {d : Nat} {s : mSt} {Q : mQ} {x1 : Int} {x2 : Int} {xt0 : Int} {xt1 : Int} (h_1 : xt1 = 0 → Wp X d 282 35 [some (mR 407), some (mI x1), some (mI x2)] [mI xt0] s Q) (h_2 : ¬ xt1 = 0 → Wp X d 282 23 [some (mR 407), some (mI x1), some (mI x2)] [mI xt0] s Q) : Wp X d 282 20 [some (mR 407), some (mI x1), some (mI x2)] [mI xt1, mI xt0] s Q := Wp_step k282 f282_20 ⟨h_1, h_2⟩
theorem b282_23 {X : (Nat → Int) × Nat} {d : Nat} {s : mSt} {Q : mQ} {x1 : Int} {x2 : Int} {xt0 : Int} (h_1 : Sp X d 244 [mR 407, mI x2] s (fun r s' => ∃ v : Int, r = some (mI v) ∧ Wp X (d + 1) 282 28 [some (mR 407), some (mI x1), some (mI x2)] [mI v, mI xt0] s' Q)) : Wp X (d + 1) 282 23 [some (mR 407), some (mI x1), some (mI x2)] [mI xt0] s Q := Wp_step k282 f282_23 (Wp_step k282 f282_24 (Wp_step k282 f282_25 ⟨⟨kf_407, Nat.le_of_ble_eq_true rfl⟩, Nat.le_refl _, _, rfl, Sp_E h_1⟩))
theorem b282_28 {X : (Nat → Int) × Nat} {d : Nat} {s : mSt} {Q : mQ} {x1 : Int} {x2 : Int} {xt0 : Int} {xt1 : Int} (h_1 : ¬ xt1 = 0 → Wp X d 282 35 [some (mR 407), some (mI x1), some (mI x2)] [mI xt0] s Q) (h_2 : xt1 = 0 → Wp X d 282 31 [some (mR 407), some (mI x1), some (mI x2)] [mI xt0] s Q) : Wp X d 282 28 [some (mR 407), some (mI x1), some (mI x2)] [mI xt1, mI xt0] s Q := Wp_step k282 f282_28 ⟨h_1, h_2⟩
theorem b282_31 {X : (Nat → Int) × Nat} {d : Nat} {s : mSt} {Q : mQ} {x1 : Int} {x2 : Int} {xt0 : Int} (h_1 : Wp X d 282 36 [some (mR 407), some (mI x1), some (mI x2)] [mI 1, mI xt0] s Q) : Wp X d 282 31 [some (mR 407), some (mI x1), some (mI x2)] [mI xt0] s Q := Wp_step k282 f282_31 (Wp_step k282 f282_32 (h_1))
theorem b282_35 {X : (Nat → Int) × Nat} {d : Nat} {s : mSt} {Q : mQ} {x1 : Int} {x2 : Int} {xt0 : Int} (h_1 : Wp X d 282 36 [some (mR 407), some (mI x1), some (mI x2)] [mI 0, mI xt0] s Q) : Wp X d 282 35 [some (mR 407), some (mI x1), some (mI x2)] [mI xt0] s Q := Wp_step k282 f282_35 (h_1)
theorem b282_36 {X : (Nat → Int) × Nat} {d : Nat} {s : mSt} {Q : mQ} {x1 : Int} {x2 : Int} {xt0 : Int} {xt1 : Int} (h_1 : Wp X d 282 4 [some (mR 407), some (mI (w32 (xt0 + xt1))), some (mI (w32 (x2 + 1)))] [] s Q) : Wp X d 282 36 [some (mR 407), some (mI x1), some (mI x2)] [mI xt1, mI xt0] s Q := Wp_step k282 f282_36 (Wp_step k282 f282_37 (Wp_step k282 f282_38 (Wp_step k282 f282_41 (h_1))))
theorem b282_44 {X : (Nat → Int) × Nat} {d : Nat} {s : mSt} {Q : mQ} {x1 : Int} {x2 : Int} (h_1 : Q (some (mI x1)) s) : Wp X d 282 44 [some (mR 407), some (mI x1), some (mI x2)] [] s Q := Wp_step k282 f282_44 (Wp_step k282 f282_45 ⟨⟨rfl, trivial⟩, h_1⟩)
theorem e282 {X : (Nat → Int) × Nat} {d : Nat} {s : mSt} {Q : mQ} (h : Wp X d 282 0 [some (mR 407), none, none] [] s Q) : Sp X d 282 [mR 407] s Q := Sp_of (show mCe 282 = 0 by decide +kernel) (by rw [show mML 282 = 3 by decide +kernel]; rfl) (Nat.le_trans (Nat.le_of_ble_eq_true (show Nat.ble (mArgs _).length 3 = true from rfl)) (show 3 ≤ mML 282 by decide +kernel)) h
-- 283 ClashDayModel.harm(II)I
theorem k283 : mRk 283 = 1 := by decide +kernel
theorem f283_0 : mFetch 283 0 = some (.aload_n 0, 1, 0, 0, 0, 0) := by decide +kernel
theorem f283_1 : mFetch 283 1 = some (.invokevirtual 354, 3, 212, 0, 1, 12) := by decide +kernel
theorem f283_4 : mFetch 283 4 = some (.ifCond .eq 25, 3, 29, 0, 0, 0) := by decide +kernel
theorem f283_7 : mFetch 283 7 = some (.iload_n 1, 1, 0, 0, 0, 0) := by decide +kernel
theorem f283_8 : mFetch 283 8 = some (.i2l, 1, 0, 0, 0, 0) := by decide +kernel
theorem f283_9 : mFetch 283 9 = some (.lconst 1, 1, 0, 0, 0, 0) := by decide +kernel
theorem f283_10 : mFetch 283 10 = some (.ldc2_w 461, 3, 9, 0, 0, 0) := by decide +kernel
theorem f283_13 : mFetch 283 13 = some (.invokestatic 151, 3, 167, 0, 3, 99) := by decide +kernel
theorem f283_16 : mFetch 283 16 = some (.ifCond .eq 13, 3, 29, 0, 0, 0) := by decide +kernel
theorem f283_19 : mFetch 283 19 = some (.iload_n 2, 1, 0, 0, 0, 0) := by decide +kernel
theorem f283_20 : mFetch 283 20 = some (.i2l, 1, 0, 0, 0, 0) := by decide +kernel
theorem f283_21 : mFetch 283 21 = some (.lconst 0, 1, 0, 0, 0, 0) := by decide +kernel
theorem f283_22 : mFetch 283 22 = some (.lconst 1, 1, 0, 0, 0, 0) := by decide +kernel
theorem f283_23 : mFetch 283 23 = some (.invokestatic 151, 3, 167, 0, 3, 99) := by decide +kernel
theorem f283_26 : mFetch 283 26 = some (.ifCond .ne 5, 3, 31, 0, 0, 0) := by decide +kernel
theorem f283_29 : mFetch 283 29 = some (.iconst (-1), 1, 0, 0, 0, 0) := by decide +kernel
theorem f283_30 : mFetch 283 30 = some (.ireturn, 1, 0, 0, 0, 0) := by decide +kernel
theorem f283_31 : mFetch 283 31 = some (.bipush (-2), 2, 0, 0, 0, 0) := by decide +kernel
theorem f283_33 : mFetch 283 33 = some (.istore_n 3, 1, 0, 0, 0, 0) := by decide +kernel
theorem f283_34 : mFetch 283 34 = some (.bipush (-2), 2, 0, 0, 0, 0) := by decide +kernel
theorem f283_36 : mFetch 283 36 = some (.istore 4, 2, 0, 0, 0, 0) := by decide +kernel
theorem f283_38 : mFetch 283 38 = some (.aload_n 0, 1, 0, 0, 0, 0) := by decide +kernel
theorem f283_39 : mFetch 283 39 = some (.invokevirtual 502, 3, 277, 0, 1, 12) := by decide +kernel
theorem f283_42 : mFetch 283 42 = some (.iconst 0, 1, 0, 0, 0, 0) := by decide +kernel
theorem f283_43 : mFetch 283 43 = some (.istore 5, 2, 0, 0, 0, 0) := by decide +kernel
theorem f283_45 : mFetch 283 45 = some (.iload 5, 2, 0, 0, 0, 0) := by decide +kernel
theorem f283_47 : mFetch 283 47 = some (.aload_n 0, 1, 0, 0, 0, 0) := by decide +kernel
theorem f283_48 : mFetch 283 48 = some (.getfield 39, 3, 12, 20, 2, 1) := by decide +kernel
theorem f283_51 : mFetch 283 51 = some (.iconst 3, 1, 0, 0, 0, 0) := by decide +kernel
theorem f283_52 : mFetch 283 52 = some (.iaload, 1, 0, 0, 0, 0) := by decide +kernel
theorem f283_53 : mFetch 283 53 = some (.if_icmp .ge 61, 3, 114, 0, 0, 0) := by decide +kernel
theorem f283_56 : mFetch 283 56 = some (.aload_n 0, 1, 0, 0, 0, 0) := by decide +kernel
theorem f283_57 : mFetch 283 57 = some (.getfield 39, 3, 12, 20, 2, 1) := by decide +kernel
theorem f283_60 : mFetch 283 60 = some (.bipush 6, 2, 0, 0, 0, 0) := by decide +kernel
theorem f283_62 : mFetch 283 62 = some (.iload 5, 2, 0, 0, 0, 0) := by decide +kernel
theorem f283_64 : mFetch 283 64 = some (.iadd, 1, 0, 0, 0, 0) := by decide +kernel
theorem f283_65 : mFetch 283 65 = some (.iaload, 1, 0, 0, 0, 0) := by decide +kernel
theorem f283_66 : mFetch 283 66 = some (.bipush 15, 2, 0, 0, 0, 0) := by decide +kernel
theorem f283_68 : mFetch 283 68 = some (.if_icmp .ne 6, 3, 74, 0, 0, 0) := by decide +kernel
theorem f283_71 : mFetch 283 71 = some (.goto 37, 3, 108, 0, 0, 0) := by decide +kernel
theorem f283_74 : mFetch 283 74 = some (.aload_n 0, 1, 0, 0, 0, 0) := by decide +kernel
theorem f283_75 : mFetch 283 75 = some (.iload 5, 2, 0, 0, 0, 0) := by decide +kernel
theorem f283_77 : mFetch 283 77 = some (.iload_n 1, 1, 0, 0, 0, 0) := by decide +kernel
theorem f283_78 : mFetch 283 78 = some (.invokevirtual 463, 3, 258, 0, 3, 12) := by decide +kernel
theorem f283_81 : mFetch 283 81 = some (.aload_n 0, 1, 0, 0, 0, 0) := by decide +kernel
theorem f283_82 : mFetch 283 82 = some (.invokevirtual 511, 3, 282, 0, 1, 12) := by decide +kernel
theorem f283_85 : mFetch 283 85 = some (.istore 6, 2, 0, 0, 0, 0) := by decide +kernel
theorem f283_87 : mFetch 283 87 = some (.aload_n 0, 1, 0, 0, 0, 0) := by decide +kernel
theorem f283_88 : mFetch 283 88 = some (.invokevirtual 491, 3, 278, 0, 1, 12) := by decide +kernel
theorem f283_91 : mFetch 283 91 = some (.iload 6, 2, 0, 0, 0, 0) := by decide +kernel
theorem f283_93 : mFetch 283 93 = some (.iload 4, 2, 0, 0, 0, 0) := by decide +kernel
theorem f283_95 : mFetch 283 95 = some (.if_icmp .gt 6, 3, 101, 0, 0, 0) := by decide +kernel
theorem f283_98 : mFetch 283 98 = some (.goto 10, 3, 108, 0, 0, 0) := by decide +kernel
theorem f283_101 : mFetch 283 101 = some (.iload 5, 2, 0, 0, 0, 0) := by decide +kernel
theorem f283_103 : mFetch 283 103 = some (.istore_n 3, 1, 0, 0, 0, 0) := by decide +kernel
theorem f283_104 : mFetch 283 104 = some (.iload 6, 2, 0, 0, 0, 0) := by decide +kernel
theorem f283_106 : mFetch 283 106 = some (.istore 4, 2, 0, 0, 0, 0) := by decide +kernel
theorem f283_108 : mFetch 283 108 = some (.iinc 5 1, 3, 0, 0, 0, 0) := by decide +kernel
theorem f283_111 : mFetch 283 111 = some (.goto (-66), 3, 45, 0, 0, 0) := by decide +kernel
theorem f283_114 : mFetch 283 114 = some (.iload_n 2, 1, 0, 0, 0, 0) := by decide +kernel
theorem f283_115 : mFetch 283 115 = some (.ifCond .ne 7, 3, 122, 0, 0, 0) := by decide +kernel
theorem f283_118 : mFetch 283 118 = some (.iload_n 3, 1, 0, 0, 0, 0) := by decide +kernel
theorem f283_119 : mFetch 283 119 = some (.goto 5, 3, 124, 0, 0, 0) := by decide +kernel
theorem f283_122 : mFetch 283 122 = some (.iload 4, 2, 0, 0, 0, 0) := by decide +kernel
theorem f283_124 : mFetch 283 124 = some (.ireturn, 1, 0, 0, 0, 0) := by decide +kernel
theorem b283_0 {X : (Nat → Int) × Nat} {d : Nat} {s : mSt} {Q : mQ} {x1 : Int} {x2 : Int} (h_1 : Sp X d 212 [mR 407] s (fun r s' => ∃ v : Int, r = some (mI v) ∧ Wp X (d + 1) 283 4 [some (mR 407), some (mI x1), some (mI x2), none, none, none, none] [mI v] s' Q)) : Wp X (d + 1) 283 0 [some (mR 407), some (mI x1), some (mI x2), none, none, none, none] [] s Q := Wp_step k283 f283_0 (Wp_step k283 f283_1 ⟨⟨kf_407, Nat.le_of_ble_eq_true rfl⟩, Nat.le_refl _, _, rfl, Sp_E h_1⟩)
theorem b283_4 {X : (Nat → Int) × Nat} {d : Nat} {s : mSt} {Q : mQ} {x1 : Int} {x2 : Int} {xt0 : Int} (h_1 : xt0 = 0 → Wp X d 283 29 [some (mR 407), some (mI x1), some (mI x2), none, none, none, none] [] s Q) (h_2 : ¬ xt0 = 0 → Wp X d 283 7 [some (mR 407), some (mI x1), some (mI x2), none, none, none, none] [] s Q) : Wp X d 283 4 [some (mR 407), some (mI x1), some (mI x2), none, none, none, none] [mI xt0] s Q := Wp_step k283 f283_4 ⟨h_1, h_2⟩
theorem b283_7 {X : (Nat → Int) × Nat} {d : Nat} {s : mSt} {Q : mQ} {x1 : Int} {x2 : Int} (h_1 : Sp X d 167 [mJ x1, mJ 1, mJ 9] s (fun r s' => ∃ v : Int, r = some (mI v) ∧ Wp X (d + 1) 283 16 [some (mR 407), some (mI x1), some (mI x2), none, none, none, none] [mI v] s' Q)) : Wp X (d + 1) 283 7 [some (mR 407), some (mI x1), some (mI x2), none, none, none, none] [] s Q := Wp_step k283 f283_7 (Wp_step k283 f283_8 (Wp_step k283 f283_9 (Wp_step k283 f283_10 (Wp_step k283 f283_13 ⟨⟨Nat.le_of_ble_eq_true rfl, Nat.le_refl _⟩, _, rfl, Sp_E h_1⟩))))
theorem b283_16 {X : (Nat → Int) × Nat} {d : Nat} {s : mSt} {Q : mQ} {x1 : Int} {x2 : Int} {xt0 : Int} (h_1 : xt0 = 0 → Wp X d 283 29 [some (mR 407), some (mI x1), some (mI x2), none, none, none, none] [] s Q) (h_2 : ¬ xt0 = 0 → Wp X d 283 19 [some (mR 407), some (mI x1), some (mI x2), none, none, none, none] [] s Q) : Wp X d 283 16 [some (mR 407), some (mI x1), some (mI x2), none, none, none, none] [mI xt0] s Q := Wp_step k283 f283_16 ⟨h_1, h_2⟩
theorem b283_19 {X : (Nat → Int) × Nat} {d : Nat} {s : mSt} {Q : mQ} {x1 : Int} {x2 : Int} (h_1 : Sp X d 167 [mJ x2, mJ 0, mJ 1] s (fun r s' => ∃ v : Int, r = some (mI v) ∧ Wp X (d + 1) 283 26 [some (mR 407), some (mI x1), some (mI x2), none, none, none, none] [mI v] s' Q)) : Wp X (d + 1) 283 19 [some (mR 407), some (mI x1), some (mI x2), none, none, none, none] [] s Q := Wp_step k283 f283_19 (Wp_step k283 f283_20 (Wp_step k283 f283_21 (Wp_step k283 f283_22 (Wp_step k283 f283_23 ⟨⟨Nat.le_of_ble_eq_true rfl, Nat.le_refl _⟩, _, rfl, Sp_E h_1⟩))))
theorem b283_26 {X : (Nat → Int) × Nat} {d : Nat} {s : mSt} {Q : mQ} {x1 : Int} {x2 : Int} {xt0 : Int} (h_1 : ¬ xt0 = 0 → Wp X d 283 31 [some (mR 407), some (mI x1), some (mI x2), none, none, none, none] [] s Q) (h_2 : xt0 = 0 → Wp X d 283 29 [some (mR 407), some (mI x1), some (mI x2), none, none, none, none] [] s Q) : Wp X d 283 26 [some (mR 407), some (mI x1), some (mI x2), none, none, none, none] [mI xt0] s Q := Wp_step k283 f283_26 ⟨h_1, h_2⟩
theorem b283_29 {X : (Nat → Int) × Nat} {d : Nat} {s : mSt} {Q : mQ} {x1 : Int} {x2 : Int} (h_1 : Q (some (mI (-1))) s) : Wp X d 283 29 [some (mR 407), some (mI x1), some (mI x2), none, none, none, none] [] s Q := Wp_step k283 f283_29 (Wp_step k283 f283_30 ⟨⟨rfl, trivial⟩, h_1⟩)
theorem b283_31 {X : (Nat → Int) × Nat} {d : Nat} {s : mSt} {Q : mQ} {x1 : Int} {x2 : Int} (h_1 : Sp X d 277 [mR 407] s (fun r s' => r = none ∧ Wp X (d + 1) 283 42 [some (mR 407), some (mI x1), some (mI x2), some (mI (-2)), some (mI (-2)), none, none] [] s' Q)) : Wp X (d + 1) 283 31 [some (mR 407), some (mI x1), some (mI x2), none, none, none, none] [] s Q := Wp_step k283 f283_31 (Wp_step k283 f283_33 (Wp_step k283 f283_34 (Wp_step k283 f283_36 (Wp_step k283 f283_38 (Wp_step k283 f283_39 ⟨⟨kf_407, Nat.le_of_ble_eq_true rfl⟩, Nat.le_refl _, _, rfl, Sp_V h_1⟩)))))
theorem b283_42 {X : (Nat → Int) × Nat} {d : Nat} {s : mSt} {Q : mQ} {x1 : Int} {x2 : Int} {x3 : Int} {x4 : Int} (h_1 : Wp X d 283 45 [some (mR 407), some (mI x1), some (mI x2), some (mI x3), some (mI x4), some (mI 0), none] [] s Q) : Wp X d 283 42 [some (mR 407), some (mI x1), some (mI x2), some (mI x3), some (mI x4), none, none] [] s Q := Wp_step k283 f283_42 (Wp_step k283 f283_43 (h_1))
theorem b283_45 {X : (Nat → Int) × Nat} {d : Nat} {s : mSt} {Q : mQ} {x1 : Int} {x2 : Int} {x3 : Int} {x4 : Int} {x5 : Int} (h_1 : (s 417 3) ≤ x5 → Wp X d 283 114 [some (mR 407), some (mI x1), some (mI x2), some (mI x3), some (mI x4), some (mI x5), none] [] s Q) (h_2 : ¬ (s 417 3) ≤ x5 → Wp X d 283 56 [some (mR 407), some (mI x1), some (mI x2), some (mI x3), some (mI x4), some (mI x5), none] [] s Q) : Wp X d 283 45 [some (mR 407), some (mI x1), some (mI x2), some (mI x3), some (mI x4), some (mI x5), none] [] s Q := Wp_step k283 f283_45 (Wp_step k283 f283_47 (Wp_step k283 f283_48 ⟨kf_407, 417, rf_407_20, Wp_step k283 f283_51 (Wp_step k283 f283_52 ⟨166, af_417, ⟨by decide, by decide⟩, Wp_step k283 f283_53 ⟨h_1, h_2⟩⟩)⟩))
theorem b283_56 {X : (Nat → Int) × Nat} {d : Nat} {s : mSt} {Q : mQ} {x1 : Int} {x2 : Int} {x3 : Int} {x4 : Int} {x5 : Int} (h_1 : 0 ≤ (w32 (6 + x5)) ∧ (w32 (6 + x5)) < 166) (h_2 : ¬ (s 417 (w32 (6 + x5)).toNat) = 15 → Wp X d 283 74 [some (mR 407), some (mI x1), some (mI x2), some (mI x3), some (mI x4), some (mI x5), none] [] s Q) (h_3 : (s 417 (w32 (6 + x5)).toNat) = 15 → Wp X d 283 71 [some (mR 407), some (mI x1), some (mI x2), some (mI x3), some (mI x4), some (mI x5), none] [] s Q) : Wp X d 283 56 [some (mR 407), some (mI x1), some (mI x2), some (mI x3), some (mI x4), some (mI x5), none] [] s Q := Wp_step k283 f283_56 (Wp_step k283 f283_57 ⟨kf_407, 417, rf_407_20, Wp_step k283 f283_60 (Wp_step k283 f283_62 (Wp_step k283 f283_64 (Wp_step k283 f283_65 ⟨166, af_417, h_1, Wp_step k283 f283_66 (Wp_step k283 f283_68 ⟨h_2, h_3⟩)⟩)))⟩)
theorem b283_71 {X : (Nat → Int) × Nat} {d : Nat} {s : mSt} {Q : mQ} {x1 : Int} {x2 : Int} {x3 : Int} {x4 : Int} {x5 : Int} (h_1 : Wp X d 283 108 [some (mR 407), some (mI x1), some (mI x2), some (mI x3), some (mI x4), some (mI x5), none] [] s Q) : Wp X d 283 71 [some (mR 407), some (mI x1), some (mI x2), some (mI x3), some (mI x4), some (mI x5), none] [] s Q := Wp_step k283 f283_71 (h_1)
theorem b283_74 {X : (Nat → Int) × Nat} {d : Nat} {s : mSt} {Q : mQ} {x1 : Int} {x2 : Int} {x3 : Int} {x4 : Int} {x5 : Int} (h_1 : Sp X d 258 [mR 407, mI x5, mI x1] s (fun r s' => r = none ∧ Wp X (d + 1) 283 81 [some (mR 407), some (mI x1), some (mI x2), some (mI x3), some (mI x4), some (mI x5), none] [] s' Q)) : Wp X (d + 1) 283 74 [some (mR 407), some (mI x1), some (mI x2), some (mI x3), some (mI x4), some (mI x5), none] [] s Q := Wp_step k283 f283_74 (Wp_step k283 f283_75 (Wp_step k283 f283_77 (Wp_step k283 f283_78 ⟨⟨kf_407, Nat.le_of_ble_eq_true rfl⟩, Nat.le_refl _, _, rfl, Sp_V h_1⟩)))
theorem b283_81 {X : (Nat → Int) × Nat} {d : Nat} {s : mSt} {Q : mQ} {x1 : Int} {x2 : Int} {x3 : Int} {x4 : Int} {x5 : Int} (h_1 : Sp X d 282 [mR 407] s (fun r s' => ∃ v : Int, r = some (mI v) ∧ Wp X (d + 1) 283 85 [some (mR 407), some (mI x1), some (mI x2), some (mI x3), some (mI x4), some (mI x5), none] [mI v] s' Q)) : Wp X (d + 1) 283 81 [some (mR 407), some (mI x1), some (mI x2), some (mI x3), some (mI x4), some (mI x5), none] [] s Q := Wp_step k283 f283_81 (Wp_step k283 f283_82 ⟨⟨kf_407, Nat.le_of_ble_eq_true rfl⟩, Nat.le_refl _, _, rfl, Sp_E h_1⟩)
theorem b283_85 {X : (Nat → Int) × Nat} {d : Nat} {s : mSt} {Q : mQ} {x1 : Int} {x2 : Int} {x3 : Int} {x4 : Int} {x5 : Int} {xt0 : Int} (h_1 : Sp X d 278 [mR 407] s (fun r s' => r = none ∧ Wp X (d + 1) 283 91 [some (mR 407), some (mI x1), some (mI x2), some (mI x3), some (mI x4), some (mI x5), some (mI xt0)] [] s' Q)) : Wp X (d + 1) 283 85 [some (mR 407), some (mI x1), some (mI x2), some (mI x3), some (mI x4), some (mI x5), none] [mI xt0] s Q := Wp_step k283 f283_85 (Wp_step k283 f283_87 (Wp_step k283 f283_88 ⟨⟨kf_407, Nat.le_of_ble_eq_true rfl⟩, Nat.le_refl _, _, rfl, Sp_V h_1⟩))
theorem b283_91 {X : (Nat → Int) × Nat} {d : Nat} {s : mSt} {Q : mQ} {x1 : Int} {x2 : Int} {x3 : Int} {x4 : Int} {x5 : Int} {x6 : Int} (h_1 : x4 < x6 → Wp X d 283 101 [some (mR 407), some (mI x1), some (mI x2), some (mI x3), some (mI x4), some (mI x5), some (mI x6)] [] s Q) (h_2 : ¬ x4 < x6 → Wp X d 283 98 [some (mR 407), some (mI x1), some (mI x2), some (mI x3), some (mI x4), some (mI x5), some (mI x6)] [] s Q) : Wp X d 283 91 [some (mR 407), some (mI x1), some (mI x2), some (mI x3), some (mI x4), some (mI x5), some (mI x6)] [] s Q := Wp_step k283 f283_91 (Wp_step k283 f283_93 (Wp_step k283 f283_95 ⟨h_1, h_2⟩))
theorem b283_98 {X : (Nat → Int) × Nat} {d : Nat} {s : mSt} {Q : mQ} {x1 : Int} {x2 : Int} {x3 : Int} {x4 : Int} {x5 : Int} {x6 : Int} (h_1 : Wp X d 283 108 [some (mR 407), some (mI x1), some (mI x2), some (mI x3), some (mI x4), some (mI x5), some (mI x6)] [] s Q) : Wp X d 283 98 [some (mR 407), some (mI x1), some (mI x2), some (mI x3), some (mI x4), some (mI x5), some (mI x6)] [] s Q := Wp_step k283 f283_98 (h_1)
theorem b283_101 {X : (Nat → Int) × Nat} {d : Nat} {s : mSt} {Q : mQ} {x1 : Int} {x2 : Int} {x3 : Int} {x4 : Int} {x5 : Int} {x6 : Int} (h_1 : Wp X d 283 108 [some (mR 407), some (mI x1), some (mI x2), some (mI x5), some (mI x6), some (mI x5), some (mI x6)] [] s Q) : Wp X d 283 101 [some (mR 407), some (mI x1), some (mI x2), some (mI x3), some (mI x4), some (mI x5), some (mI x6)] [] s Q := Wp_step k283 f283_101 (Wp_step k283 f283_103 (Wp_step k283 f283_104 (Wp_step k283 f283_106 (h_1))))
theorem b283_108 {X : (Nat → Int) × Nat} {d : Nat} {s : mSt} {Q : mQ} {x1 : Int} {x2 : Int} {x3 : Int} {x4 : Int} {x5 : Int} (h_1 : Wp X d 283 45 [some (mR 407), some (mI x1), some (mI x2), some (mI x3), some (mI x4), some (mI (w32 (x5 + 1))), none] [] s Q) : Wp X d 283 108 [some (mR 407), some (mI x1), some (mI x2), some (mI x3), some (mI x4), some (mI x5), none] [] s Q := Wp_step k283 f283_108 (Wp_step k283 f283_111 (h_1))
theorem b283_114 {X : (Nat → Int) × Nat} {d : Nat} {s : mSt} {Q : mQ} {x1 : Int} {x2 : Int} {x3 : Int} {x4 : Int} {x5 : Int} (h_1 : ¬ x2 = 0 → Wp X d 283 122 [some (mR 407), some (mI x1), some (mI x2), some (mI x3), some (mI x4), some (mI x5), none] [] s Q) (h_2 : x2 = 0 → Wp X d 283 118 [some (mR 407), some (mI x1), some (mI x2), some (mI x3), some (mI x4), some (mI x5), none] [] s Q) : Wp X d 283 114 [some (mR 407), some (mI x1), some (mI x2), some (mI x3), some (mI x4), some (mI x5), none] [] s Q := Wp_step k283 f283_114 (Wp_step k283 f283_115 ⟨h_1, h_2⟩)
theorem b283_118 {X : (Nat → Int) × Nat} {d : Nat} {s : mSt} {Q : mQ} {x1 : Int} {x2 : Int} {x3 : Int} {x4 : Int} {x5 : Int} (h_1 : Wp X d 283 124 [some (mR 407), some (mI x1), some (mI x2), some (mI x3), some (mI x4), some (mI x5), none] [mI x3] s Q) : Wp X d 283 118 [some (mR 407), some (mI x1), some (mI x2), some (mI x3), some (mI x4), some (mI x5), none] [] s Q := Wp_step k283 f283_118 (Wp_step k283 f283_119 (h_1))
theorem b283_122 {X : (Nat → Int) × Nat} {d : Nat} {s : mSt} {Q : mQ} {x1 : Int} {x2 : Int} {x3 : Int} {x4 : Int} {x5 : Int} (h_1 : Wp X d 283 124 [some (mR 407), some (mI x1), some (mI x2), some (mI x3), some (mI x4), some (mI x5), none] [mI x4] s Q) : Wp X d 283 122 [some (mR 407), some (mI x1), some (mI x2), some (mI x3), some (mI x4), some (mI x5), none] [] s Q := Wp_step k283 f283_122 (h_1)
theorem b283_124 {X : (Nat → Int) × Nat} {d : Nat} {s : mSt} {Q : mQ} {x1 : Int} {x2 : Int} {x3 : Int} {x4 : Int} {x5 : Int} {xt0 : Int} (h_1 : Q (some (mI xt0)) s) : Wp X d 283 124 [some (mR 407), some (mI x1), some (mI x2), some (mI x3), some (mI x4), some (mI x5), none] [mI xt0] s Q := Wp_step k283 f283_124 ⟨⟨rfl, trivial⟩, h_1⟩
theorem e283 {X : (Nat → Int) × Nat} {d : Nat} {s : mSt} {Q : mQ} {x1 : Int} {x2 : Int} (h : Wp X d 283 0 [some (mR 407), some (mI x1), some (mI x2), none, none, none, none] [] s Q) : Sp X d 283 [mR 407, mI x1, mI x2] s Q := Sp_of (show mCe 283 = 0 by decide +kernel) (by rw [show mML 283 = 7 by decide +kernel]; rfl) (Nat.le_trans (Nat.le_of_ble_eq_true (show Nat.ble (mArgs _).length 7 = true from rfl)) (show 7 ≤ mML 283 by decide +kernel)) h
-- 284 ClashDayModel.fullSlots()I
theorem k284 : mRk 284 = 1 := by decide +kernel
theorem f284_0 : mFetch 284 0 = some (.iconst 0, 1, 0, 0, 0, 0) := by decide +kernel
theorem f284_1 : mFetch 284 1 = some (.istore_n 1, 1, 0, 0, 0, 0) := by decide +kernel
theorem f284_2 : mFetch 284 2 = some (.iconst 0, 1, 0, 0, 0, 0) := by decide +kernel
theorem f284_3 : mFetch 284 3 = some (.istore_n 2, 1, 0, 0, 0, 0) := by decide +kernel
theorem f284_4 : mFetch 284 4 = some (.iload_n 2, 1, 0, 0, 0, 0) := by decide +kernel
theorem f284_5 : mFetch 284 5 = some (.bipush 30, 2, 0, 0, 0, 0) := by decide +kernel
theorem f284_7 : mFetch 284 7 = some (.if_icmp .ge 27, 3, 34, 0, 0, 0) := by decide +kernel
theorem f284_10 : mFetch 284 10 = some (.iload_n 1, 1, 0, 0, 0, 0) := by decide +kernel
theorem f284_11 : mFetch 284 11 = some (.aload_n 0, 1, 0, 0, 0, 0) := by decide +kernel
theorem f284_12 : mFetch 284 12 = some (.iload_n 2, 1, 0, 0, 0, 0) := by decide +kernel
theorem f284_13 : mFetch 284 13 = some (.invokevirtual 359, 3, 223, 0, 2, 12) := by decide +kernel
theorem f284_16 : mFetch 284 16 = some (.ifCond .ne 9, 3, 25, 0, 0, 0) := by decide +kernel
theorem f284_19 : mFetch 284 19 = some (.iconst 1, 1, 0, 0, 0, 0) := by decide +kernel
theorem f284_20 : mFetch 284 20 = some (.iload_n 2, 1, 0, 0, 0, 0) := by decide +kernel
theorem f284_21 : mFetch 284 21 = some (.ishl, 1, 0, 0, 0, 0) := by decide +kernel
theorem f284_22 : mFetch 284 22 = some (.goto 4, 3, 26, 0, 0, 0) := by decide +kernel
theorem f284_25 : mFetch 284 25 = some (.iconst 0, 1, 0, 0, 0, 0) := by decide +kernel
theorem f284_26 : mFetch 284 26 = some (.ior, 1, 0, 0, 0, 0) := by decide +kernel
theorem f284_27 : mFetch 284 27 = some (.istore_n 1, 1, 0, 0, 0, 0) := by decide +kernel
theorem f284_28 : mFetch 284 28 = some (.iinc 2 1, 3, 0, 0, 0, 0) := by decide +kernel
theorem f284_31 : mFetch 284 31 = some (.goto (-27), 3, 4, 0, 0, 0) := by decide +kernel
theorem f284_34 : mFetch 284 34 = some (.iload_n 1, 1, 0, 0, 0, 0) := by decide +kernel
theorem f284_35 : mFetch 284 35 = some (.ireturn, 1, 0, 0, 0, 0) := by decide +kernel
theorem b284_0 {X : (Nat → Int) × Nat} {d : Nat} {s : mSt} {Q : mQ} (h_1 : Wp X d 284 4 [some (mR 407), some (mI 0), some (mI 0)] [] s Q) : Wp X d 284 0 [some (mR 407), none, none] [] s Q := Wp_step k284 f284_0 (Wp_step k284 f284_1 (Wp_step k284 f284_2 (Wp_step k284 f284_3 (h_1))))
theorem b284_4 {X : (Nat → Int) × Nat} {d : Nat} {s : mSt} {Q : mQ} {x1 : Int} {x2 : Int} (h_1 : 30 ≤ x2 → Wp X d 284 34 [some (mR 407), some (mI x1), some (mI x2)] [] s Q) (h_2 : ¬ 30 ≤ x2 → Wp X d 284 10 [some (mR 407), some (mI x1), some (mI x2)] [] s Q) : Wp X d 284 4 [some (mR 407), some (mI x1), some (mI x2)] [] s Q := Wp_step k284 f284_4 (Wp_step k284 f284_5 (Wp_step k284 f284_7 ⟨h_1, h_2⟩))
theorem b284_10 {X : (Nat → Int) × Nat} {d : Nat} {s : mSt} {Q : mQ} {x1 : Int} {x2 : Int} (h_1 : Sp X d 223 [mR 407, mI x2] s (fun r s' => ∃ v : Int, r = some (mI v) ∧ Wp X (d + 1) 284 16 [some (mR 407), some (mI x1), some (mI x2)] [mI v, mI x1] s' Q)) : Wp X (d + 1) 284 10 [some (mR 407), some (mI x1), some (mI x2)] [] s Q := Wp_step k284 f284_10 (Wp_step k284 f284_11 (Wp_step k284 f284_12 (Wp_step k284 f284_13 ⟨⟨kf_407, Nat.le_of_ble_eq_true rfl⟩, Nat.le_refl _, _, rfl, Sp_E h_1⟩)))
theorem b284_16 {X : (Nat → Int) × Nat} {d : Nat} {s : mSt} {Q : mQ} {x1 : Int} {x2 : Int} {xt0 : Int} {xt1 : Int} (h_1 : ¬ xt1 = 0 → Wp X d 284 25 [some (mR 407), some (mI x1), some (mI x2)] [mI xt0] s Q) (h_2 : xt1 = 0 → Wp X d 284 19 [some (mR 407), some (mI x1), some (mI x2)] [mI xt0] s Q) : Wp X d 284 16 [some (mR 407), some (mI x1), some (mI x2)] [mI xt1, mI xt0] s Q := Wp_step k284 f284_16 ⟨h_1, h_2⟩
theorem b284_19 {X : (Nat → Int) × Nat} {d : Nat} {s : mSt} {Q : mQ} {x1 : Int} {x2 : Int} {xt0 : Int} (h_1 : Wp X d 284 26 [some (mR 407), some (mI x1), some (mI x2)] [mI (iShl 1 x2), mI xt0] s Q) : Wp X d 284 19 [some (mR 407), some (mI x1), some (mI x2)] [mI xt0] s Q := Wp_step k284 f284_19 (Wp_step k284 f284_20 (Wp_step k284 f284_21 (Wp_step k284 f284_22 (h_1))))
theorem b284_25 {X : (Nat → Int) × Nat} {d : Nat} {s : mSt} {Q : mQ} {x1 : Int} {x2 : Int} {xt0 : Int} (h_1 : Wp X d 284 26 [some (mR 407), some (mI x1), some (mI x2)] [mI 0, mI xt0] s Q) : Wp X d 284 25 [some (mR 407), some (mI x1), some (mI x2)] [mI xt0] s Q := Wp_step k284 f284_25 (h_1)
theorem b284_26 {X : (Nat → Int) × Nat} {d : Nat} {s : mSt} {Q : mQ} {x1 : Int} {x2 : Int} {xt0 : Int} {xt1 : Int} (h_1 : Wp X d 284 4 [some (mR 407), some (mI (iOr xt0 xt1)), some (mI (w32 (x2 + 1)))] [] s Q) : Wp X d 284 26 [some (mR 407), some (mI x1), some (mI x2)] [mI xt1, mI xt0] s Q := Wp_step k284 f284_26 (Wp_step k284 f284_27 (Wp_step k284 f284_28 (Wp_step k284 f284_31 (h_1))))
theorem b284_34 {X : (Nat → Int) × Nat} {d : Nat} {s : mSt} {Q : mQ} {x1 : Int} {x2 : Int} (h_1 : Q (some (mI x1)) s) : Wp X d 284 34 [some (mR 407), some (mI x1), some (mI x2)] [] s Q := Wp_step k284 f284_34 (Wp_step k284 f284_35 ⟨⟨rfl, trivial⟩, h_1⟩)
theorem e284 {X : (Nat → Int) × Nat} {d : Nat} {s : mSt} {Q : mQ} (h : Wp X d 284 0 [some (mR 407), none, none] [] s Q) : Sp X d 284 [mR 407] s Q := Sp_of (show mCe 284 = 0 by decide +kernel) (by rw [show mML 284 = 3 by decide +kernel]; rfl) (Nat.le_trans (Nat.le_of_ble_eq_true (show Nat.ble (mArgs _).length 3 = true from rfl)) (show 3 ≤ mML 284 by decide +kernel)) h
-- 285 ClashDayModel.plannedMany()I
theorem k285 : mRk 285 = 1 := by decide +kernel
theorem f285_0 : mFetch 285 0 = some (.aload_n 0, 1, 0, 0, 0, 0) := by decide +kernel
theorem f285_1 : mFetch 285 1 = some (.getfield 39, 3, 12, 20, 2, 1) := by decide +kernel
theorem f285_4 : mFetch 285 4 = some (.iconst 4, 1, 0, 0, 0, 0) := by decide +kernel
theorem f285_5 : mFetch 285 5 = some (.iaload, 1, 0, 0, 0, 0) := by decide +kernel
theorem f285_6 : mFetch 285 6 = some (.aload_n 0, 1, 0, 0, 0, 0) := by decide +kernel
theorem f285_7 : mFetch 285 7 = some (.invokevirtual 436, 3, 221, 0, 1, 12) := by decide +kernel
theorem f285_10 : mFetch 285 10 = some (.invokestatic 427, 3, 169, 0, 1, 99) := by decide +kernel
theorem f285_13 : mFetch 285 13 = some (.isub, 1, 0, 0, 0, 0) := by decide +kernel
theorem f285_14 : mFetch 285 14 = some (.ireturn, 1, 0, 0, 0, 0) := by decide +kernel
theorem b285_0 {X : (Nat → Int) × Nat} {d : Nat} {s : mSt} {Q : mQ} (h_1 : Sp X d 221 [mR 407] s (fun r s' => ∃ v : Int, r = some (mI v) ∧ Wp X (d + 1) 285 10 [some (mR 407)] [mI v, mI (s 417 4)] s' Q)) : Wp X (d + 1) 285 0 [some (mR 407)] [] s Q := Wp_step k285 f285_0 (Wp_step k285 f285_1 ⟨kf_407, 417, rf_407_20, Wp_step k285 f285_4 (Wp_step k285 f285_5 ⟨166, af_417, ⟨by decide, by decide⟩, Wp_step k285 f285_6 (Wp_step k285 f285_7 ⟨⟨kf_407, Nat.le_of_ble_eq_true rfl⟩, Nat.le_refl _, _, rfl, Sp_E h_1⟩)⟩)⟩)
theorem b285_10 {X : (Nat → Int) × Nat} {d : Nat} {s : mSt} {Q : mQ} {xt0 : Int} {xt1 : Int} (h_1 : Sp X d 169 [mI xt1] s (fun r s' => ∃ v : Int, r = some (mI v) ∧ Wp X (d + 1) 285 13 [some (mR 407)] [mI v, mI xt0] s' Q)) : Wp X (d + 1) 285 10 [some (mR 407)] [mI xt1, mI xt0] s Q := Wp_step k285 f285_10 ⟨⟨Nat.le_of_ble_eq_true rfl, Nat.le_refl _⟩, _, rfl, Sp_E h_1⟩
theorem b285_13 {X : (Nat → Int) × Nat} {d : Nat} {s : mSt} {Q : mQ} {xt0 : Int} {xt1 : Int} (h_1 : Q (some (mI (w32 (xt0 - xt1)))) s) : Wp X d 285 13 [some (mR 407)] [mI xt1, mI xt0] s Q := Wp_step k285 f285_13 (Wp_step k285 f285_14 ⟨⟨rfl, trivial⟩, h_1⟩)
theorem e285 {X : (Nat → Int) × Nat} {d : Nat} {s : mSt} {Q : mQ} (h : Wp X d 285 0 [some (mR 407)] [] s Q) : Sp X d 285 [mR 407] s Q := Sp_of (show mCe 285 = 0 by decide +kernel) (by rw [show mML 285 = 1 by decide +kernel]; rfl) (Nat.le_trans (Nat.le_of_ble_eq_true (show Nat.ble (mArgs _).length 1 = true from rfl)) (show 1 ≤ mML 285 by decide +kernel)) h
