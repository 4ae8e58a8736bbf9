-- 167 ClashDayModel.in(JJJ)Z
theorem k167 : mRk 167 = 2 := by decide +kernel
theorem f167_0 : mFetch 167 0 = some (.lload_n 0, 1, 0, 0, 0, 0) := by decide +kernel
theorem f167_1 : mFetch 167 1 = some (.lload_n 2, 1, 0, 0, 0, 0) := by decide +kernel
theorem f167_2 : mFetch 167 2 = some (.lcmp, 1, 0, 0, 0, 0) := by decide +kernel
theorem f167_3 : mFetch 167 3 = some (.ifCond .lt 14, 3, 17, 0, 0, 0) := by decide +kernel
theorem f167_6 : mFetch 167 6 = some (.lload_n 0, 1, 0, 0, 0, 0) := by decide +kernel
theorem f167_7 : mFetch 167 7 = some (.lload 4, 2, 0, 0, 0, 0) := by decide +kernel
theorem f167_9 : mFetch 167 9 = some (.lcmp, 1, 0, 0, 0, 0) := by decide +kernel
theorem f167_10 : mFetch 167 10 = some (.ifCond .gt 7, 3, 17, 0, 0, 0) := by decide +kernel
theorem f167_13 : mFetch 167 13 = some (.iconst 1, 1, 0, 0, 0, 0) := by decide +kernel
theorem f167_14 : mFetch 167 14 = some (.goto 4, 3, 18, 0, 0, 0) := by decide +kernel
theorem f167_17 : mFetch 167 17 = some (.iconst 0, 1, 0, 0, 0, 0) := by decide +kernel
theorem f167_18 : mFetch 167 18 = some (.ireturn, 1, 0, 0, 0, 0) := by decide +kernel
theorem b167_0 {X : (Nat → Int) × Nat} {d : Nat} {s : mSt} {Q : mQ} {x0 : Int} {l1 : Option mV} {x2 : Int} {l3 : Option mV} {x4 : Int} {l5 : Option mV} (h_1 : (lCmp x0 x2) < 0 → Wp X d 167 17 [some (mJ x0), l1, some (mJ x2), l3, some (mJ x4), l5] [] s Q) (h_2 : ¬ (lCmp x0 x2) < 0 → Wp X d 167 6 [some (mJ x0), l1, some (mJ x2), l3, some (mJ x4), l5] [] s Q) : Wp X d 167 0 [some (mJ x0), l1, some (mJ x2), l3, some (mJ x4), l5] [] s Q := Wp_step k167 f167_0 (Wp_step k167 f167_1 (Wp_step k167 f167_2 (Wp_step k167 f167_3 ⟨h_1, h_2⟩)))
theorem b167_6 {X : (Nat → Int) × Nat} {d : Nat} {s : mSt} {Q : mQ} {x0 : Int} {l1 : Option mV} {x2 : Int} {l3 : Option mV} {x4 : Int} {l5 : Option mV} (h_1 : 0 < (lCmp x0 x4) → Wp X d 167 17 [some (mJ x0), l1, some (mJ x2), l3, some (mJ x4), l5] [] s Q) (h_2 : ¬ 0 < (lCmp x0 x4) → Wp X d 167 13 [some (mJ x0), l1, some (mJ x2), l3, some (mJ x4), l5] [] s Q) : Wp X d 167 6 [some (mJ x0), l1, some (mJ x2), l3, some (mJ x4), l5] [] s Q := Wp_step k167 f167_6 (Wp_step k167 f167_7 (Wp_step k167 f167_9 (Wp_step k167 f167_10 ⟨h_1, h_2⟩)))
theorem b167_13 {X : (Nat → Int) × Nat} {d : Nat} {s : mSt} {Q : mQ} {x0 : Int} {l1 : Option mV} {x2 : Int} {l3 : Option mV} {x4 : Int} {l5 : Option mV} (h_1 : Wp X d 167 18 [some (mJ x0), l1, some (mJ x2), l3, some (mJ x4), l5] [mI 1] s Q) : Wp X d 167 13 [some (mJ x0), l1, some (mJ x2), l3, some (mJ x4), l5] [] s Q := Wp_step k167 f167_13 (Wp_step k167 f167_14 (h_1))
theorem b167_17 {X : (Nat → Int) × Nat} {d : Nat} {s : mSt} {Q : mQ} {x0 : Int} {l1 : Option mV} {x2 : Int} {l3 : Option mV} {x4 : Int} {l5 : Option mV} (h_1 : Wp X d 167 18 [some (mJ x0), l1, some (mJ x2), l3, some (mJ x4), l5] [mI 0] s Q) : Wp X d 167 17 [some (mJ x0), l1, some (mJ x2), l3, some (mJ x4), l5] [] s Q := Wp_step k167 f167_17 (h_1)
theorem b167_18 {X : (Nat → Int) × Nat} {d : Nat} {s : mSt} {Q : mQ} {x0 : Int} {l1 : Option mV} {x2 : Int} {l3 : Option mV} {x4 : Int} {l5 : Option mV} {xt0 : Int} (h_1 : Q (some (mI xt0)) s) (h_2 : xt0 = 0 ∨ xt0 = 1) : Wp X d 167 18 [some (mJ x0), l1, some (mJ x2), l3, some (mJ x4), l5] [mI xt0] s Q := Wp_step k167 f167_18 ⟨⟨rfl, h_2⟩, h_1⟩
theorem e167 {X : (Nat → Int) × Nat} {d : Nat} {s : mSt} {Q : mQ} {x0 : Int} {x2 : Int} {x4 : Int} (h : Wp X d 167 0 [some (mJ x0), none, some (mJ x2), none, some (mJ x4), none] [] s Q) : Sp X d 167 [mJ x0, mJ x2, mJ x4] s Q := Sp_of (show mCe 167 = 0 by decide +kernel) (by rw [show mML 167 = 6 by decide +kernel]; rfl) (Nat.le_trans (Nat.le_of_ble_eq_true (show Nat.ble (mArgs _).length 6 = true from rfl)) (show 6 ≤ mML 167 by decide +kernel)) h
-- 168 ClashDayModel.isOf(II)Z
theorem k168 : mRk 168 = 2 := by decide +kernel
theorem f168_0 : mFetch 168 0 = some (.iload_n 0, 1, 0, 0, 0, 0) := by decide +kernel
theorem f168_1 : mFetch 168 1 = some (.iload_n 1, 1, 0, 0, 0, 0) := by decide +kernel
theorem f168_2 : mFetch 168 2 = some (.ishr, 1, 0, 0, 0, 0) := by decide +kernel
theorem f168_3 : mFetch 168 3 = some (.iconst 1, 1, 0, 0, 0, 0) := by decide +kernel
theorem f168_4 : mFetch 168 4 = some (.iand, 1, 0, 0, 0, 0) := by decide +kernel
theorem f168_5 : mFetch 168 5 = some (.iconst 1, 1, 0, 0, 0, 0) := by decide +kernel
theorem f168_6 : mFetch 168 6 = some (.if_icmp .ne 7, 3, 13, 0, 0, 0) := by decide +kernel
theorem f168_9 : mFetch 168 9 = some (.iconst 1, 1, 0, 0, 0, 0) := by decide +kernel
theorem f168_10 : mFetch 168 10 = some (.goto 4, 3, 14, 0, 0, 0) := by decide +kernel
theorem f168_13 : mFetch 168 13 = some (.iconst 0, 1, 0, 0, 0, 0) := by decide +kernel
theorem f168_14 : mFetch 168 14 = some (.ireturn, 1, 0, 0, 0, 0) := by decide +kernel
theorem b168_0 {X : (Nat → Int) × Nat} {d : Nat} {s : mSt} {Q : mQ} {x0 : Int} {x1 : Int} (h_1 : ¬ (iAnd (iShr x0 x1) 1) = 1 → Wp X d 168 13 [some (mI x0), some (mI x1)] [] s Q) (h_2 : (iAnd (iShr x0 x1) 1) = 1 → Wp X d 168 9 [some (mI x0), some (mI x1)] [] s Q) : Wp X d 168 0 [some (mI x0), some (mI x1)] [] s Q := Wp_step k168 f168_0 (Wp_step k168 f168_1 (Wp_step k168 f168_2 (Wp_step k168 f168_3 (Wp_step k168 f168_4 (Wp_step k168 f168_5 (Wp_step k168 f168_6 ⟨h_1, h_2⟩))))))
theorem b168_9 {X : (Nat → Int) × Nat} {d : Nat} {s : mSt} {Q : mQ} {x0 : Int} {x1 : Int} (h_1 : Wp X d 168 14 [some (mI x0), some (mI x1)] [mI 1] s Q) : Wp X d 168 9 [some (mI x0), some (mI x1)] [] s Q := Wp_step k168 f168_9 (Wp_step k168 f168_10 (h_1))
theorem b168_13 {X : (Nat → Int) × Nat} {d : Nat} {s : mSt} {Q : mQ} {x0 : Int} {x1 : Int} (h_1 : Wp X d 168 14 [some (mI x0), some (mI x1)] [mI 0] s Q) : Wp X d 168 13 [some (mI x0), some (mI x1)] [] s Q := Wp_step k168 f168_13 (h_1)
theorem b168_14 {X : (Nat → Int) × Nat} {d : Nat} {s : mSt} {Q : mQ} {x0 : Int} {x1 : Int} {xt0 : Int} (h_1 : Q (some (mI xt0)) s) (h_2 : xt0 = 0 ∨ xt0 = 1) : Wp X d 168 14 [some (mI x0), some (mI x1)] [mI xt0] s Q := Wp_step k168 f168_14 ⟨⟨rfl, h_2⟩, h_1⟩
theorem e168 {X : (Nat → Int) × Nat} {d : Nat} {s : mSt} {Q : mQ} {x0 : Int} {x1 : Int} (h : Wp X d 168 0 [some (mI x0), some (mI x1)] [] s Q) : Sp X d 168 [mI x0, mI x1] s Q := Sp_of (show mCe 168 = 0 by decide +kernel) (by rw [show mML 168 = 2 by decide +kernel]; rfl) (Nat.le_trans (Nat.le_of_ble_eq_true (show Nat.ble (mArgs _).length 2 = true from rfl)) (show 2 ≤ mML 168 by decide +kernel)) h
-- 169 ClashDayModel.bits(I)I
theorem k169 : mRk 169 = 1 := by decide +kernel
theorem f169_0 : mFetch 169 0 = some (.iconst 0, 1, 0, 0, 0, 0) := by decide +kernel
theorem f169_1 : mFetch 169 1 = some (.istore_n 1, 1, 0, 0, 0, 0) := by decide +kernel
theorem f169_2 : mFetch 169 2 = some (.iload_n 0, 1, 0, 0, 0, 0) := by decide +kernel
theorem f169_3 : mFetch 169 3 = some (.istore_n 2, 1, 0, 0, 0, 0) := by decide +kernel
theorem f169_4 : mFetch 169 4 = some (.iload_n 2, 1, 0, 0, 0, 0) := by decide +kernel
theorem f169_5 : mFetch 169 5 = some (.ifCond .eq 15, 3, 20, 0, 0, 0) := by decide +kernel
theorem f169_8 : mFetch 169 8 = some (.iinc 1 1, 3, 0, 0, 0, 0) := by decide +kernel
theorem f169_11 : mFetch 169 11 = some (.iload_n 2, 1, 0, 0, 0, 0) := by decide +kernel
theorem f169_12 : mFetch 169 12 = some (.iload_n 2, 1, 0, 0, 0, 0) := by decide +kernel
theorem f169_13 : mFetch 169 13 = some (.iconst 1, 1, 0, 0, 0, 0) := by decide +kernel
theorem f169_14 : mFetch 169 14 = some (.isub, 1, 0, 0, 0, 0) := by decide +kernel
theorem f169_15 : mFetch 169 15 = some (.iand, 1, 0, 0, 0, 0) := by decide +kernel
theorem f169_16 : mFetch 169 16 = some (.istore_n 2, 1, 0, 0, 0, 0) := by decide +kernel
theorem f169_17 : mFetch 169 17 = some (.goto (-13), 3, 4, 0, 0, 0) := by decide +kernel
theorem f169_20 : mFetch 169 20 = some (.iload_n 1, 1, 0, 0, 0, 0) := by decide +kernel
theorem f169_21 : mFetch 169 21 = some (.ireturn, 1, 0, 0, 0, 0) := by decide +kernel
theorem b169_0 {X : (Nat → Int) × Nat} {d : Nat} {s : mSt} {Q : mQ} {x0 : Int} {l1 : Option mV} {l2 : Option mV} (h_1 : Wp X d 169 4 [some (mI x0), some (mI 0), some (mI x0)] [] s Q) : Wp X d 169 0 [some (mI x0), l1, l2] [] s Q := Wp_step k169 f169_0 (Wp_step k169 f169_1 (Wp_step k169 f169_2 (Wp_step k169 f169_3 (h_1))))
theorem b169_4 {X : (Nat → Int) × Nat} {d : Nat} {s : mSt} {Q : mQ} {x0 : Int} {x1 : Int} {x2 : Int} (h_1 : x2 = 0 → Wp X d 169 20 [some (mI x0), some (mI x1), some (mI x2)] [] s Q) (h_2 : ¬ x2 = 0 → Wp X d 169 8 [some (mI x0), some (mI x1), some (mI x2)] [] s Q) : Wp X d 169 4 [some (mI x0), some (mI x1), some (mI x2)] [] s Q := Wp_step k169 f169_4 (Wp_step k169 f169_5 ⟨h_1, h_2⟩)
theorem b169_8 {X : (Nat → Int) × Nat} {d : Nat} {s : mSt} {Q : mQ} {x0 : Int} {x1 : Int} {x2 : Int} (h_1 : Wp X d 169 4 [some (mI x0), some (mI (w32 (x1 + 1))), some (mI (iAnd x2 (w32 (x2 - 1))))] [] s Q) : Wp X d 169 8 [some (mI x0), some (mI x1), some (mI x2)] [] s Q := Wp_step k169 f169_8 (Wp_step k169 f169_11 (Wp_step k169 f169_12 (Wp_step k169 f169_13 (Wp_step k169 f169_14 (Wp_step k169 f169_15 (Wp_step k169 f169_16 (Wp_step k169 f169_17 (h_1))))))))
theorem b169_20 {X : (Nat → Int) × Nat} {d : Nat} {s : mSt} {Q : mQ} {x0 : Int} {x1 : Int} {x2 : Int} (h_1 : Q (some (mI x1)) s) : Wp X d 169 20 [some (mI x0), some (mI x1), some (mI x2)] [] s Q := Wp_step k169 f169_20 (Wp_step k169 f169_21 ⟨⟨rfl, trivial⟩, h_1⟩)
theorem e169 {X : (Nat → Int) × Nat} {d : Nat} {s : mSt} {Q : mQ} {x0 : Int} (h : Wp X d 169 0 [some (mI x0), none, none] [] s Q) : Sp X d 169 [mI x0] s Q := Sp_of (show mCe 169 = 0 by decide +kernel) (by rw [show mML 169 = 3 by decide +kernel]; rfl) (Nat.le_trans (Nat.le_of_ble_eq_true (show Nat.ble (mArgs _).length 3 = true from rfl)) (show 3 ≤ mML 169 by decide +kernel)) h
-- 170 ClashDayModel.four(I)V
theorem k170 : mRk 170 = 0 := by decide +kernel
theorem f170_0 : mFetch 170 0 = some (.bipush 24, 2, 0, 0, 0, 0) := by decide +kernel
theorem f170_2 : mFetch 170 2 = some (.istore_n 2, 1, 0, 0, 0, 0) := by decide +kernel
theorem f170_3 : mFetch 170 3 = some (.iload_n 2, 1, 0, 0, 0, 0) := by decide +kernel
theorem f170_4 : mFetch 170 4 = some (.ifCond .lt 32, 3, 36, 0, 0, 0) := by decide +kernel
theorem f170_7 : mFetch 170 7 = some (.aload_n 0, 1, 0, 0, 0, 0) := by decide +kernel
theorem f170_8 : mFetch 170 8 = some (.getfield 7, 3, 12, 0, 2, 1) := by decide +kernel
theorem f170_11 : mFetch 170 11 = some (.aload_n 0, 1, 0, 0, 0, 0) := by decide +kernel
theorem f170_12 : mFetch 170 12 = some (.getfield 113, 3, 12, 1, 0, 1) := by decide +kernel
theorem f170_15 : mFetch 170 15 = some (.iload_n 1, 1, 0, 0, 0, 0) := by decide +kernel
theorem f170_16 : mFetch 170 16 = some (.iload_n 2, 1, 0, 0, 0, 0) := by decide +kernel
theorem f170_17 : mFetch 170 17 = some (.ishr, 1, 0, 0, 0, 0) := by decide +kernel
theorem f170_18 : mFetch 170 18 = some (.i2b, 1, 0, 0, 0, 0) := by decide +kernel
theorem f170_19 : mFetch 170 19 = some (.bastore, 1, 0, 0, 0, 0) := by decide +kernel
theorem f170_20 : mFetch 170 20 = some (.aload_n 0, 1, 0, 0, 0, 0) := by decide +kernel
theorem f170_21 : mFetch 170 21 = some (.dup, 1, 0, 0, 0, 0) := by decide +kernel
theorem f170_22 : mFetch 170 22 = some (.getfield 113, 3, 12, 1, 0, 1) := by decide +kernel
theorem f170_25 : mFetch 170 25 = some (.iconst 1, 1, 0, 0, 0, 0) := by decide +kernel
theorem f170_26 : mFetch 170 26 = some (.iadd, 1, 0, 0, 0, 0) := by decide +kernel
theorem f170_27 : mFetch 170 27 = some (.putfield 113, 3, 12, 1, 0, 1) := by decide +kernel
theorem f170_30 : mFetch 170 30 = some (.iinc 2 (-8), 3, 0, 0, 0, 0) := by decide +kernel
theorem f170_33 : mFetch 170 33 = some (.goto (-30), 3, 3, 0, 0, 0) := by decide +kernel
theorem f170_36 : mFetch 170 36 = some (.return_, 1, 0, 0, 0, 0) := by decide +kernel
theorem b170_0 {X : (Nat → Int) × Nat} {d : Nat} {s : mSt} {Q : mQ} {x1 : Int} {l2 : Option mV} (h_1 : Wp X d 170 3 [some (mR 407), some (mI x1), some (mI 24)] [] s Q) : Wp X d 170 0 [some (mR 407), some (mI x1), l2] [] s Q := Wp_step k170 f170_0 (Wp_step k170 f170_2 (h_1))
theorem b170_3 {X : (Nat → Int) × Nat} {d : Nat} {s : mSt} {Q : mQ} {x1 : Int} {x2 : Int} (h_1 : x2 < 0 → Wp X d 170 36 [some (mR 407), some (mI x1), some (mI x2)] [] s Q) (h_2 : ¬ x2 < 0 → Wp X d 170 7 [some (mR 407), some (mI x1), some (mI x2)] [] s Q) : Wp X d 170 3 [some (mR 407), some (mI x1), some (mI x2)] [] s Q := Wp_step k170 f170_3 (Wp_step k170 f170_4 ⟨h_1, h_2⟩)
theorem b170_7 {X : (Nat → Int) × Nat} {d : Nat} {s : mSt} {Q : mQ} {x1 : Int} {x2 : Int} (h_1 : 0 ≤ (s 407 1) ∧ (s 407 1) < 400) (h_2 : -128 ≤ (w8 (iShr x1 x2)) ∧ (w8 (iShr x1 x2)) < 128) (h_3 : Wp X d 170 3 [some (mR 407), some (mI x1), some (mI (w32 (x2 + (-8))))] [] (uS (uS s 408 ((s 407 1).toNat) (w8 (iShr x1 x2))) 407 1 (w32 (((uS s 408 ((s 407 1).toNat) (w8 (iShr x1 x2))) 407 1) + 1))) Q) : Wp X d 170 7 [some (mR 407), some (mI x1), some (mI x2)] [] s Q := Wp_step k170 f170_7 (Wp_step k170 f170_8 ⟨kf_407, 408, rf_407_0, Wp_step k170 f170_11 (Wp_step k170 f170_12 ⟨kf_407, Wp_step k170 f170_15 (Wp_step k170 f170_16 (Wp_step k170 f170_17 (Wp_step k170 f170_18 (Wp_step k170 f170_19 ⟨20, 400, af_408, Or.inl ⟨rfl, h_2⟩, h_1, Wp_step k170 f170_20 (Wp_step k170 f170_21 (Wp_step k170 f170_22 ⟨kf_407, Wp_step k170 f170_25 (Wp_step k170 f170_26 (Wp_step k170 f170_27 ⟨kf_407, Wp_step k170 f170_30 (Wp_step k170 f170_33 (h_3))⟩))⟩))⟩))))⟩)⟩)
theorem b170_36 {X : (Nat → Int) × Nat} {d : Nat} {s : mSt} {Q : mQ} {x1 : Int} {x2 : Int} (h_1 : Q none s) : Wp X d 170 36 [some (mR 407), some (mI x1), some (mI x2)] [] s Q := Wp_step k170 f170_36 ⟨⟨rfl, Or.inl rfl⟩, h_1⟩
theorem e170 {X : (Nat → Int) × Nat} {d : Nat} {s : mSt} {Q : mQ} {x1 : Int} (h : Wp X d 170 0 [some (mR 407), some (mI x1), none] [] s Q) : Sp X d 170 [mR 407, mI x1] s Q := Sp_of (show mCe 170 = 0 by decide +kernel) (by rw [show mML 170 = 3 by decide +kernel]; rfl) (Nat.le_trans (Nat.le_of_ble_eq_true (show Nat.ble (mArgs _).length 3 = true from rfl)) (show 3 ≤ mML 170 by decide +kernel)) h
-- 171 ClashDayModel.feed(IIIII)I
theorem k171 : mRk 171 = 1 := by decide +kernel
theorem f171_0 : mFetch 171 0 = some (.aload_n 0, 1, 0, 0, 0, 0) := by decide +kernel
theorem f171_1 : mFetch 171 1 = some (.getfield 113, 3, 12, 1, 0, 1) := by decide +kernel
theorem f171_4 : mFetch 171 4 = some (.bipush 20, 2, 0, 0, 0, 0) := by decide +kernel
theorem f171_6 : mFetch 171 6 = some (.iadd, 1, 0, 0, 0, 0) := by decide +kernel
theorem f171_7 : mFetch 171 7 = some (.sipush 400, 3, 0, 0, 0, 0) := by decide +kernel
theorem f171_10 : mFetch 171 10 = some (.if_icmp .le 5, 3, 15, 0, 0, 0) := by decide +kernel
theorem f171_13 : mFetch 171 13 = some (.iconst (-1), 1, 0, 0, 0, 0) := by decide +kernel
theorem f171_14 : mFetch 171 14 = some (.ireturn, 1, 0, 0, 0, 0) := by decide +kernel
theorem f171_15 : mFetch 171 15 = some (.aload_n 0, 1, 0, 0, 0, 0) := by decide +kernel
theorem f171_16 : mFetch 171 16 = some (.iload_n 1, 1, 0, 0, 0, 0) := by decide +kernel
theorem f171_17 : mFetch 171 17 = some (.invokevirtual 116, 3, 170, 0, 2, 12) := by decide +kernel
theorem f171_20 : mFetch 171 20 = some (.aload_n 0, 1, 0, 0, 0, 0) := by decide +kernel
theorem f171_21 : mFetch 171 21 = some (.iload_n 2, 1, 0, 0, 0, 0) := by decide +kernel
theorem f171_22 : mFetch 171 22 = some (.invokevirtual 116, 3, 170, 0, 2, 12) := by decide +kernel
theorem f171_25 : mFetch 171 25 = some (.aload_n 0, 1, 0, 0, 0, 0) := by decide +kernel
theorem f171_26 : mFetch 171 26 = some (.iload_n 3, 1, 0, 0, 0, 0) := by decide +kernel
theorem f171_27 : mFetch 171 27 = some (.invokevirtual 116, 3, 170, 0, 2, 12) := by decide +kernel
theorem f171_30 : mFetch 171 30 = some (.aload_n 0, 1, 0, 0, 0, 0) := by decide +kernel
theorem f171_31 : mFetch 171 31 = some (.iload 4, 2, 0, 0, 0, 0) := by decide +kernel
theorem f171_33 : mFetch 171 33 = some (.invokevirtual 116, 3, 170, 0, 2, 12) := by decide +kernel
theorem f171_36 : mFetch 171 36 = some (.aload_n 0, 1, 0, 0, 0, 0) := by decide +kernel
theorem f171_37 : mFetch 171 37 = some (.iload 5, 2, 0, 0, 0, 0) := by decide +kernel
theorem f171_39 : mFetch 171 39 = some (.invokevirtual 116, 3, 170, 0, 2, 12) := by decide +kernel
theorem f171_42 : mFetch 171 42 = some (.aload_n 0, 1, 0, 0, 0, 0) := by decide +kernel
theorem f171_43 : mFetch 171 43 = some (.getfield 113, 3, 12, 1, 0, 1) := by decide +kernel
theorem f171_46 : mFetch 171 46 = some (.ireturn, 1, 0, 0, 0, 0) := by decide +kernel
theorem b171_0 {X : (Nat → Int) × Nat} {d : Nat} {s : mSt} {Q : mQ} {x1 : Int} {x2 : Int} {x3 : Int} {x4 : Int} {x5 : Int} (h_1 : (w32 ((s 407 1) + 20)) ≤ 400 → Wp X d 171 15 [some (mR 407), some (mI x1), some (mI x2), some (mI x3), some (mI x4), some (mI x5)] [] s Q) (h_2 : ¬ (w32 ((s 407 1) + 20)) ≤ 400 → Wp X d 171 13 [some (mR 407), some (mI x1), some (mI x2), some (mI x3), some (mI x4), some (mI x5)] [] s Q) : Wp X d 171 0 [some (mR 407), some (mI x1), some (mI x2), some (mI x3), some (mI x4), some (mI x5)] [] s Q := Wp_step k171 f171_0 (Wp_step k171 f171_1 ⟨kf_407, Wp_step k171 f171_4 (Wp_step k171 f171_6 (Wp_step k171 f171_7 (Wp_step k171 f171_10 ⟨h_1, h_2⟩)))⟩)
theorem b171_13 {X : (Nat → Int) × Nat} {d : Nat} {s : mSt} {Q : mQ} {x1 : Int} {x2 : Int} {x3 : Int} {x4 : Int} {x5 : Int} (h_1 : Q (some (mI (-1))) s) : Wp X d 171 13 [some (mR 407), some (mI x1), some (mI x2), some (mI x3), some (mI x4), some (mI x5)] [] s Q := Wp_step k171 f171_13 (Wp_step k171 f171_14 ⟨⟨rfl, trivial⟩, h_1⟩)
theorem b171_15 {X : (Nat → Int) × Nat} {d : Nat} {s : mSt} {Q : mQ} {x1 : Int} {x2 : Int} {x3 : Int} {x4 : Int} {x5 : Int} (h_1 : Sp X d 170 [mR 407, mI x1] s (fun r s' => r = none ∧ Wp X (d + 1) 171 20 [some (mR 407), some (mI x1), some (mI x2), some (mI x3), some (mI x4), some (mI x5)] [] s' Q)) : Wp X (d + 1) 171 15 [some (mR 407), some (mI x1), some (mI x2), some (mI x3), some (mI x4), some (mI x5)] [] s Q := Wp_step k171 f171_15 (Wp_step k171 f171_16 (Wp_step k171 f171_17 ⟨⟨kf_407, Nat.le_of_ble_eq_true rfl⟩, Nat.le_refl _, _, rfl, Sp_V h_1⟩))
theorem b171_20 {X : (Nat → Int) × Nat} {d : Nat} {s : mSt} {Q : mQ} {x1 : Int} {x2 : Int} {x3 : Int} {x4 : Int} {x5 : Int} (h_1 : Sp X d 170 [mR 407, mI x2] s (fun r s' => r = none ∧ Wp X (d + 1) 171 25 [some (mR 407), some (mI x1), some (mI x2), some (mI x3), some (mI x4), some (mI x5)] [] s' Q)) : Wp X (d + 1) 171 20 [some (mR 407), some (mI x1), some (mI x2), some (mI x3), some (mI x4), some (mI x5)] [] s Q := Wp_step k171 f171_20 (Wp_step k171 f171_21 (Wp_step k171 f171_22 ⟨⟨kf_407, Nat.le_of_ble_eq_true rfl⟩, Nat.le_refl _, _, rfl, Sp_V h_1⟩))
theorem b171_25 {X : (Nat → Int) × Nat} {d : Nat} {s : mSt} {Q : mQ} {x1 : Int} {x2 : Int} {x3 : Int} {x4 : Int} {x5 : Int} (h_1 : Sp X d 170 [mR 407, mI x3] s (fun r s' => r = none ∧ Wp X (d + 1) 171 30 [some (mR 407), some (mI x1), some (mI x2), some (mI x3), some (mI x4), some (mI x5)] [] s' Q)) : Wp X (d + 1) 171 25 [some (mR 407), some (mI x1), some (mI x2), some (mI x3), some (mI x4), some (mI x5)] [] s Q := Wp_step k171 f171_25 (Wp_step k171 f171_26 (Wp_step k171 f171_27 ⟨⟨kf_407, Nat.le_of_ble_eq_true rfl⟩, Nat.le_refl _, _, rfl, Sp_V h_1⟩))
theorem b171_30 {X : (Nat → Int) × Nat} {d : Nat} {s : mSt} {Q : mQ} {x1 : Int} {x2 : Int} {x3 : Int} {x4 : Int} {x5 : Int} (h_1 : Sp X d 170 [mR 407, mI x4] s (fun r s' => r = none ∧ Wp X (d + 1) 171 36 [some (mR 407), some (mI x1), some (mI x2), some (mI x3), some (mI x4), some (mI x5)] [] s' Q)) : Wp X (d + 1) 171 30 [some (mR 407), some (mI x1), some (mI x2), some (mI x3), some (mI x4), some (mI x5)] [] s Q := Wp_step k171 f171_30 (Wp_step k171 f171_31 (Wp_step k171 f171_33 ⟨⟨kf_407, Nat.le_of_ble_eq_true rfl⟩, Nat.le_refl _, _, rfl, Sp_V h_1⟩))
theorem b171_36 {X : (Nat → Int) × Nat} {d : Nat} {s : mSt} {Q : mQ} {x1 : Int} {x2 : Int} {x3 : Int} {x4 : Int} {x5 : Int} (h_1 : Sp X d 170 [mR 407, mI x5] s (fun r s' => r = none ∧ Wp X (d + 1) 171 42 [some (mR 407), some (mI x1), some (mI x2), some (mI x3), some (mI x4), some (mI x5)] [] s' Q)) : Wp X (d + 1) 171 36 [some (mR 407), some (mI x1), some (mI x2), some (mI x3), some (mI x4), some (mI x5)] [] s Q := Wp_step k171 f171_36 (Wp_step k171 f171_37 (Wp_step k171 f171_39 ⟨⟨kf_407, Nat.le_of_ble_eq_true rfl⟩, Nat.le_refl _, _, rfl, Sp_V h_1⟩))
theorem b171_42 {X : (Nat → Int) × Nat} {d : Nat} {s : mSt} {Q : mQ} {x1 : Int} {x2 : Int} {x3 : Int} {x4 : Int} {x5 : Int} (h_1 : Q (some (mI (s 407 1))) s) : Wp X d 171 42 [some (mR 407), some (mI x1), some (mI x2), some (mI x3), some (mI x4), some (mI x5)] [] s Q := Wp_step k171 f171_42 (Wp_step k171 f171_43 ⟨kf_407, Wp_step k171 f171_46 ⟨⟨rfl, trivial⟩, h_1⟩⟩)
theorem e171 {X : (Nat → Int) × Nat} {d : Nat} {s : mSt} {Q : mQ} {x1 : Int} {x2 : Int} {x3 : Int} {x4 : Int} {x5 : Int} (h : Wp X d 171 0 [some (mR 407), some (mI x1), some (mI x2), some (mI x3), some (mI x4), some (mI x5)] [] s Q) : Sp X d 171 [mR 407, mI x1, mI x2, mI x3, mI x4, mI x5] s Q := Sp_of (show mCe 171 = 0 by decide +kernel) (by rw [show mML 171 = 6 by decide +kernel]; rfl) (Nat.le_trans (Nat.le_of_ble_eq_true (show Nat.ble (mArgs _).length 6 = true from rfl)) (show 6 ≤ mML 171 by decide +kernel)) h
-- 172 ClashDayModel.end(I)I
theorem k172 : mRk 172 = 1 := by decide +kernel
theorem f172_0 : mFetch 172 0 = some (.iload_n 1, 1, 0, 0, 0, 0) := by decide +kernel
theorem f172_1 : mFetch 172 1 = some (.ifCond .lt 11, 3, 12, 0, 0, 0) := by decide +kernel
theorem f172_4 : mFetch 172 4 = some (.iload_n 1, 1, 0, 0, 0, 0) := by decide +kernel
theorem f172_5 : mFetch 172 5 = some (.aload_n 0, 1, 0, 0, 0, 0) := by decide +kernel
theorem f172_6 : mFetch 172 6 = some (.getfield 113, 3, 12, 1, 0, 1) := by decide +kernel
theorem f172_9 : mFetch 172 9 = some (.if_icmp .le 5, 3, 14, 0, 0, 0) := by decide +kernel
theorem f172_12 : mFetch 172 12 = some (.iconst (-1), 1, 0, 0, 0, 0) := by decide +kernel
theorem f172_13 : mFetch 172 13 = some (.ireturn, 1, 0, 0, 0, 0) := by decide +kernel
theorem f172_14 : mFetch 172 14 = some (.aload_n 0, 1, 0, 0, 0, 0) := by decide +kernel
theorem f172_15 : mFetch 172 15 = some (.iload_n 1, 1, 0, 0, 0, 0) := by decide +kernel
theorem f172_16 : mFetch 172 16 = some (.putfield 113, 3, 12, 1, 0, 1) := by decide +kernel
theorem f172_19 : mFetch 172 19 = some (.iload_n 1, 1, 0, 0, 0, 0) := by decide +kernel
theorem f172_20 : mFetch 172 20 = some (.ireturn, 1, 0, 0, 0, 0) := by decide +kernel
theorem b172_0 {X : (Nat → Int) × Nat} {d : Nat} {s : mSt} {Q : mQ} {x1 : Int} (h_1 : x1 < 0 → Wp X d 172 12 [some (mR 407), some (mI x1)] [] s Q) (h_2 : ¬ x1 < 0 → Wp X d 172 4 [some (mR 407), some (mI x1)] [] s Q) : Wp X d 172 0 [some (mR 407), some (mI x1)] [] s Q := Wp_step k172 f172_0 (Wp_step k172 f172_1 ⟨h_1, h_2⟩)
theorem b172_4 {X : (Nat → Int) × Nat} {d : Nat} {s : mSt} {Q : mQ} {x1 : Int} (h_1 : x1 ≤ (s 407 1) → Wp X d 172 14 [some (mR 407), some (mI x1)] [] s Q) (h_2 : ¬ x1 ≤ (s 407 1) → Wp X d 172 12 [some (mR 407), some (mI x1)] [] s Q) : Wp X d 172 4 [some (mR 407), some (mI x1)] [] s Q := Wp_step k172 f172_4 (Wp_step k172 f172_5 (Wp_step k172 f172_6 ⟨kf_407, Wp_step k172 f172_9 ⟨h_1, h_2⟩⟩))
theorem b172_12 {X : (Nat → Int) × Nat} {d : Nat} {s : mSt} {Q : mQ} {x1 : Int} (h_1 : Q (some (mI (-1))) s) : Wp X d 172 12 [some (mR 407), some (mI x1)] [] s Q := Wp_step k172 f172_12 (Wp_step k172 f172_13 ⟨⟨rfl, trivial⟩, h_1⟩)
theorem b172_14 {X : (Nat → Int) × Nat} {d : Nat} {s : mSt} {Q : mQ} {x1 : Int} (h_1 : Q (some (mI x1)) (uS s 407 1 x1)) : Wp X d 172 14 [some (mR 407), some (mI x1)] [] s Q := Wp_step k172 f172_14 (Wp_step k172 f172_15 (Wp_step k172 f172_16 ⟨kf_407, Wp_step k172 f172_19 (Wp_step k172 f172_20 ⟨⟨rfl, trivial⟩, h_1⟩)⟩))
theorem e172 {X : (Nat → Int) × Nat} {d : Nat} {s : mSt} {Q : mQ} {x1 : Int} (h : Wp X d 172 0 [some (mR 407), some (mI x1)] [] s Q) : Sp X d 172 [mR 407, mI x1] s Q := Sp_of (show mCe 172 = 0 by decide +kernel) (by rw [show mML 172 = 2 by decide +kernel]; rfl) (Nat.le_trans (Nat.le_of_ble_eq_true (show Nat.ble (mArgs _).length 2 = true from rfl)) (show 2 ≤ mML 172 by decide +kernel)) h
-- 173 ClashDayModel.fails(II)Z
theorem k173 : mRk 173 = 2 := by decide +kernel
theorem f173_0 : mFetch 173 0 = some (.aload_n 0, 1, 0, 0, 0, 0) := by decide +kernel
theorem f173_1 : mFetch 173 1 = some (.getfield 120, 3, 12, 9, 0, 1) := by decide +kernel
theorem f173_4 : mFetch 173 4 = some (.ifCond .ne 15, 3, 19, 0, 0, 0) := by decide +kernel
theorem f173_7 : mFetch 173 7 = some (.aload_n 0, 1, 0, 0, 0, 0) := by decide +kernel
theorem f173_8 : mFetch 173 8 = some (.iconst 1, 1, 0, 0, 0, 0) := by decide +kernel
theorem f173_9 : mFetch 173 9 = some (.bipush 8, 2, 0, 0, 0, 0) := by decide +kernel
theorem f173_11 : mFetch 173 11 = some (.iload_n 2, 1, 0, 0, 0, 0) := by decide +kernel
theorem f173_12 : mFetch 173 12 = some (.imul, 1, 0, 0, 0, 0) := by decide +kernel
theorem f173_13 : mFetch 173 13 = some (.iadd, 1, 0, 0, 0, 0) := by decide +kernel
theorem f173_14 : mFetch 173 14 = some (.iload_n 1, 1, 0, 0, 0, 0) := by decide +kernel
theorem f173_15 : mFetch 173 15 = some (.iadd, 1, 0, 0, 0, 0) := by decide +kernel
theorem f173_16 : mFetch 173 16 = some (.putfield 120, 3, 12, 9, 0, 1) := by decide +kernel
theorem f173_19 : mFetch 173 19 = some (.iconst 0, 1, 0, 0, 0, 0) := by decide +kernel
theorem f173_20 : mFetch 173 20 = some (.ireturn, 1, 0, 0, 0, 0) := by decide +kernel
theorem b173_0 {X : (Nat → Int) × Nat} {d : Nat} {s : mSt} {Q : mQ} {x1 : Int} {x2 : Int} (h_1 : ¬ (s 407 9) = 0 → Wp X d 173 19 [some (mR 407), some (mI x1), some (mI x2)] [] s Q) (h_2 : (s 407 9) = 0 → Wp X d 173 7 [some (mR 407), some (mI x1), some (mI x2)] [] s Q) : Wp X d 173 0 [some (mR 407), some (mI x1), some (mI x2)] [] s Q := Wp_step k173 f173_0 (Wp_step k173 f173_1 ⟨kf_407, Wp_step k173 f173_4 ⟨h_1, h_2⟩⟩)
theorem b173_7 {X : (Nat → Int) × Nat} {d : Nat} {s : mSt} {Q : mQ} {x1 : Int} {x2 : Int} (h_1 : Wp X d 173 19 [some (mR 407), some (mI x1), some (mI x2)] [] (uS s 407 9 (w32 ((w32 (1 + (w32 (8 * x2)))) + x1))) Q) : Wp X d 173 7 [some (mR 407), some (mI x1), some (mI x2)] [] s Q := Wp_step k173 f173_7 (Wp_step k173 f173_8 (Wp_step k173 f173_9 (Wp_step k173 f173_11 (Wp_step k173 f173_12 (Wp_step k173 f173_13 (Wp_step k173 f173_14 (Wp_step k173 f173_15 (Wp_step k173 f173_16 ⟨kf_407, h_1⟩))))))))
theorem b173_19 {X : (Nat → Int) × Nat} {d : Nat} {s : mSt} {Q : mQ} {x1 : Int} {x2 : Int} (h_1 : Q (some (mI 0)) s) : Wp X d 173 19 [some (mR 407), some (mI x1), some (mI x2)] [] s Q := Wp_step k173 f173_19 (Wp_step k173 f173_20 ⟨⟨rfl, (Or.inl rfl)⟩, h_1⟩)
theorem e173 {X : (Nat → Int) × Nat} {d : Nat} {s : mSt} {Q : mQ} {x1 : Int} {x2 : Int} (h : Wp X d 173 0 [some (mR 407), some (mI x1), some (mI x2)] [] s Q) : Sp X d 173 [mR 407, mI x1, mI x2] s Q := Sp_of (show mCe 173 = 0 by decide +kernel) (by rw [show mML 173 = 3 by decide +kernel]; rfl) (Nat.le_trans (Nat.le_of_ble_eq_true (show Nat.ble (mArgs _).length 3 = true from rfl)) (show 3 ≤ mML 173 by decide +kernel)) h
-- 174 ClashDayModel.see()I
theorem k174 : mRk 174 = 1 := by decide +kernel
theorem f174_0 : mFetch 174 0 = some (.aload_n 0, 1, 0, 0, 0, 0) := by decide +kernel
theorem f174_1 : mFetch 174 1 = some (.getfield 123, 3, 12, 8, 0, 1) := by decide +kernel
theorem f174_4 : mFetch 174 4 = some (.aload_n 0, 1, 0, 0, 0, 0) := by decide +kernel
theorem f174_5 : mFetch 174 5 = some (.getfield 113, 3, 12, 1, 0, 1) := by decide +kernel
theorem f174_8 : mFetch 174 8 = some (.if_icmp .ge 30, 3, 38, 0, 0, 0) := by decide +kernel
theorem f174_11 : mFetch 174 11 = some (.aload_n 0, 1, 0, 0, 0, 0) := by decide +kernel
theorem f174_12 : mFetch 174 12 = some (.getfield 7, 3, 12, 0, 2, 1) := by decide +kernel
theorem f174_15 : mFetch 174 15 = some (.aload_n 0, 1, 0, 0, 0, 0) := by decide +kernel
theorem f174_16 : mFetch 174 16 = some (.getfield 123, 3, 12, 8, 0, 1) := by decide +kernel
theorem f174_19 : mFetch 174 19 = some (.baload, 1, 0, 0, 0, 0) := by decide +kernel
theorem f174_20 : mFetch 174 20 = some (.bipush 32, 2, 0, 0, 0, 0) := by decide +kernel
theorem f174_22 : mFetch 174 22 = some (.if_icmp .ne 16, 3, 38, 0, 0, 0) := by decide +kernel
theorem f174_25 : mFetch 174 25 = some (.aload_n 0, 1, 0, 0, 0, 0) := by decide +kernel
theorem f174_26 : mFetch 174 26 = some (.dup, 1, 0, 0, 0, 0) := by decide +kernel
theorem f174_27 : mFetch 174 27 = some (.getfield 123, 3, 12, 8, 0, 1) := by decide +kernel
theorem f174_30 : mFetch 174 30 = some (.iconst 1, 1, 0, 0, 0, 0) := by decide +kernel
theorem f174_31 : mFetch 174 31 = some (.iadd, 1, 0, 0, 0, 0) := by decide +kernel
theorem f174_32 : mFetch 174 32 = some (.putfield 123, 3, 12, 8, 0, 1) := by decide +kernel
theorem f174_35 : mFetch 174 35 = some (.goto (-35), 3, 0, 0, 0, 0) := by decide +kernel
theorem f174_38 : mFetch 174 38 = some (.aload_n 0, 1, 0, 0, 0, 0) := by decide +kernel
theorem f174_39 : mFetch 174 39 = some (.getfield 123, 3, 12, 8, 0, 1) := by decide +kernel
theorem f174_42 : mFetch 174 42 = some (.aload_n 0, 1, 0, 0, 0, 0) := by decide +kernel
theorem f174_43 : mFetch 174 43 = some (.getfield 113, 3, 12, 1, 0, 1) := by decide +kernel
theorem f174_46 : mFetch 174 46 = some (.if_icmp .ge 19, 3, 65, 0, 0, 0) := by decide +kernel
theorem f174_49 : mFetch 174 49 = some (.aload_n 0, 1, 0, 0, 0, 0) := by decide +kernel
theorem f174_50 : mFetch 174 50 = some (.getfield 7, 3, 12, 0, 2, 1) := by decide +kernel
theorem f174_53 : mFetch 174 53 = some (.aload_n 0, 1, 0, 0, 0, 0) := by decide +kernel
theorem f174_54 : mFetch 174 54 = some (.getfield 123, 3, 12, 8, 0, 1) := by decide +kernel
theorem f174_57 : mFetch 174 57 = some (.baload, 1, 0, 0, 0, 0) := by decide +kernel
theorem f174_58 : mFetch 174 58 = some (.sipush 255, 3, 0, 0, 0, 0) := by decide +kernel
theorem f174_61 : mFetch 174 61 = some (.iand, 1, 0, 0, 0, 0) := by decide +kernel
theorem f174_62 : mFetch 174 62 = some (.goto 4, 3, 66, 0, 0, 0) := by decide +kernel
theorem f174_65 : mFetch 174 65 = some (.iconst (-1), 1, 0, 0, 0, 0) := by decide +kernel
theorem f174_66 : mFetch 174 66 = some (.ireturn, 1, 0, 0, 0, 0) := by decide +kernel
theorem b174_0 {X : (Nat → Int) × Nat} {d : Nat} {s : mSt} {Q : mQ} (h_1 : (s 407 1) ≤ (s 407 8) → Wp X d 174 38 [some (mR 407)] [] s Q) (h_2 : ¬ (s 407 1) ≤ (s 407 8) → Wp X d 174 11 [some (mR 407)] [] s Q) : Wp X d 174 0 [some (mR 407)] [] s Q := Wp_step k174 f174_0 (Wp_step k174 f174_1 ⟨kf_407, Wp_step k174 f174_4 (Wp_step k174 f174_5 ⟨kf_407, Wp_step k174 f174_8 ⟨h_1, h_2⟩⟩)⟩)
theorem b174_11 {X : (Nat → Int) × Nat} {d : Nat} {s : mSt} {Q : mQ} (h_1 : 0 ≤ (s 407 8) ∧ (s 407 8) < 400) (h_2 : ¬ (s 408 (s 407 8).toNat) = 32 → Wp X d 174 38 [some (mR 407)] [] s Q) (h_3 : (s 408 (s 407 8).toNat) = 32 → Wp X d 174 25 [some (mR 407)] [] s Q) : Wp X d 174 11 [some (mR 407)] [] s Q := Wp_step k174 f174_11 (Wp_step k174 f174_12 ⟨kf_407, 408, rf_407_0, Wp_step k174 f174_15 (Wp_step k174 f174_16 ⟨kf_407, Wp_step k174 f174_19 ⟨20, 400, af_408, (Or.inl rfl), h_1, Wp_step k174 f174_20 (Wp_step k174 f174_22 ⟨h_2, h_3⟩)⟩⟩)⟩)
theorem b174_25 {X : (Nat → Int) × Nat} {d : Nat} {s : mSt} {Q : mQ} (h_1 : Wp X d 174 0 [some (mR 407)] [] (uS s 407 8 (w32 ((s 407 8) + 1))) Q) : Wp X d 174 25 [some (mR 407)] [] s Q := Wp_step k174 f174_25 (Wp_step k174 f174_26 (Wp_step k174 f174_27 ⟨kf_407, Wp_step k174 f174_30 (Wp_step k174 f174_31 (Wp_step k174 f174_32 ⟨kf_407, Wp_step k174 f174_35 (h_1)⟩))⟩))
theorem b174_38 {X : (Nat → Int) × Nat} {d : Nat} {s : mSt} {Q : mQ} (h_1 : (s 407 1) ≤ (s 407 8) → Wp X d 174 65 [some (mR 407)] [] s Q) (h_2 : ¬ (s 407 1) ≤ (s 407 8) → Wp X d 174 49 [some (mR 407)] [] s Q) : Wp X d 174 38 [some (mR 407)] [] s Q := Wp_step k174 f174_38 (Wp_step k174 f174_39 ⟨kf_407, Wp_step k174 f174_42 (Wp_step k174 f174_43 ⟨kf_407, Wp_step k174 f174_46 ⟨h_1, h_2⟩⟩)⟩)
theorem b174_49 {X : (Nat → Int) × Nat} {d : Nat} {s : mSt} {Q : mQ} (h_1 : 0 ≤ (s 407 8) ∧ (s 407 8) < 400) (h_2 : Wp X d 174 66 [some (mR 407)] [mI (iAnd (s 408 (s 407 8).toNat) 255)] s Q) : Wp X d 174 49 [some (mR 407)] [] s Q := Wp_step k174 f174_49 (Wp_step k174 f174_50 ⟨kf_407, 408, rf_407_0, Wp_step k174 f174_53 (Wp_step k174 f174_54 ⟨kf_407, Wp_step k174 f174_57 ⟨20, 400, af_408, (Or.inl rfl), h_1, Wp_step k174 f174_58 (Wp_step k174 f174_61 (Wp_step k174 f174_62 (h_2)))⟩⟩)⟩)
theorem b174_65 {X : (Nat → Int) × Nat} {d : Nat} {s : mSt} {Q : mQ} (h_1 : Wp X d 174 66 [some (mR 407)] [mI (-1)] s Q) : Wp X d 174 65 [some (mR 407)] [] s Q := Wp_step k174 f174_65 (h_1)
theorem b174_66 {X : (Nat → Int) × Nat} {d : Nat} {s : mSt} {Q : mQ} {xt0 : Int} (h_1 : Q (some (mI xt0)) s) : Wp X d 174 66 [some (mR 407)] [mI xt0] s Q := Wp_step k174 f174_66 ⟨⟨rfl, trivial⟩, h_1⟩
theorem e174 {X : (Nat → Int) × Nat} {d : Nat} {s : mSt} {Q : mQ} (h : Wp X d 174 0 [some (mR 407)] [] s Q) : Sp X d 174 [mR 407] s Q := Sp_of (show mCe 174 = 0 by decide +kernel) (by rw [show mML 174 = 1 by decide +kernel]; rfl) (Nat.le_trans (Nat.le_of_ble_eq_true (show Nat.ble (mArgs _).length 1 = true from rfl)) (show 1 ≤ mML 174 by decide +kernel)) h
-- 175 ClashDayModel.isDigit(I)Z
theorem k175 : mRk 175 = 2 := by decide +kernel
theorem f175_0 : mFetch 175 0 = some (.iload_n 1, 1, 0, 0, 0, 0) := by decide +kernel
theorem f175_1 : mFetch 175 1 = some (.aload_n 0, 1, 0, 0, 0, 0) := by decide +kernel
theorem f175_2 : mFetch 175 2 = some (.getfield 113, 3, 12, 1, 0, 1) := by decide +kernel
theorem f175_5 : mFetch 175 5 = some (.if_icmp .ge 29, 3, 34, 0, 0, 0) := by decide +kernel
theorem f175_8 : mFetch 175 8 = some (.aload_n 0, 1, 0, 0, 0, 0) := by decide +kernel
theorem f175_9 : mFetch 175 9 = some (.getfield 7, 3, 12, 0, 2, 1) := by decide +kernel
theorem f175_12 : mFetch 175 12 = some (.iload_n 1, 1, 0, 0, 0, 0) := by decide +kernel
theorem f175_13 : mFetch 175 13 = some (.baload, 1, 0, 0, 0, 0) := by decide +kernel
theorem f175_14 : mFetch 175 14 = some (.bipush 48, 2, 0, 0, 0, 0) := by decide +kernel
theorem f175_16 : mFetch 175 16 = some (.if_icmp .lt 18, 3, 34, 0, 0, 0) := by decide +kernel
theorem f175_19 : mFetch 175 19 = some (.aload_n 0, 1, 0, 0, 0, 0) := by decide +kernel
theorem f175_20 : mFetch 175 20 = some (.getfield 7, 3, 12, 0, 2, 1) := by decide +kernel
theorem f175_23 : mFetch 175 23 = some (.iload_n 1, 1, 0, 0, 0, 0) := by decide +kernel
theorem f175_24 : mFetch 175 24 = some (.baload, 1, 0, 0, 0, 0) := by decide +kernel
theorem f175_25 : mFetch 175 25 = some (.bipush 57, 2, 0, 0, 0, 0) := by decide +kernel
theorem f175_27 : mFetch 175 27 = some (.if_icmp .gt 7, 3, 34, 0, 0, 0) := by decide +kernel
theorem f175_30 : mFetch 175 30 = some (.iconst 1, 1, 0, 0, 0, 0) := by decide +kernel
theorem f175_31 : mFetch 175 31 = some (.goto 4, 3, 35, 0, 0, 0) := by decide +kernel
theorem f175_34 : mFetch 175 34 = some (.iconst 0, 1, 0, 0, 0, 0) := by decide +kernel
theorem f175_35 : mFetch 175 35 = some (.ireturn, 1, 0, 0, 0, 0) := by decide +kernel
theorem b175_0 {X : (Nat → Int) × Nat} {d : Nat} {s : mSt} {Q : mQ} {x1 : Int} (h_1 : (s 407 1) ≤ x1 → Wp X d 175 34 [some (mR 407), some (mI x1)] [] s Q) (h_2 : ¬ (s 407 1) ≤ x1 → Wp X d 175 8 [some (mR 407), some (mI x1)] [] s Q) : Wp X d 175 0 [some (mR 407), some (mI x1)] [] s Q := Wp_step k175 f175_0 (Wp_step k175 f175_1 (Wp_step k175 f175_2 ⟨kf_407, Wp_step k175 f175_5 ⟨h_1, h_2⟩⟩))
theorem b175_8 {X : (Nat → Int) × Nat} {d : Nat} {s : mSt} {Q : mQ} {x1 : Int} (h_1 : 0 ≤ x1 ∧ x1 < 400) (h_2 : (s 408 x1.toNat) < 48 → Wp X d 175 34 [some (mR 407), some (mI x1)] [] s Q) (h_3 : ¬ (s 408 x1.toNat) < 48 → Wp X d 175 19 [some (mR 407), some (mI x1)] [] s Q) : Wp X d 175 8 [some (mR 407), some (mI x1)] [] s Q := Wp_step k175 f175_8 (Wp_step k175 f175_9 ⟨kf_407, 408, rf_407_0, Wp_step k175 f175_12 (Wp_step k175 f175_13 ⟨20, 400, af_408, (Or.inl rfl), h_1, Wp_step k175 f175_14 (Wp_step k175 f175_16 ⟨h_2, h_3⟩)⟩)⟩)
theorem b175_19 {X : (Nat → Int) × Nat} {d : Nat} {s : mSt} {Q : mQ} {x1 : Int} (h_1 : 0 ≤ x1 ∧ x1 < 400) (h_2 : 57 < (s 408 x1.toNat) → Wp X d 175 34 [some (mR 407), some (mI x1)] [] s Q) (h_3 : ¬ 57 < (s 408 x1.toNat) → Wp X d 175 30 [some (mR 407), some (mI x1)] [] s Q) : Wp X d 175 19 [some (mR 407), some (mI x1)] [] s Q := Wp_step k175 f175_19 (Wp_step k175 f175_20 ⟨kf_407, 408, rf_407_0, Wp_step k175 f175_23 (Wp_step k175 f175_24 ⟨20, 400, af_408, (Or.inl rfl), h_1, Wp_step k175 f175_25 (Wp_step k175 f175_27 ⟨h_2, h_3⟩)⟩)⟩)
theorem b175_30 {X : (Nat → Int) × Nat} {d : Nat} {s : mSt} {Q : mQ} {x1 : Int} (h_1 : Wp X d 175 35 [some (mR 407), some (mI x1)] [mI 1] s Q) : Wp X d 175 30 [some (mR 407), some (mI x1)] [] s Q := Wp_step k175 f175_30 (Wp_step k175 f175_31 (h_1))
theorem b175_34 {X : (Nat → Int) × Nat} {d : Nat} {s : mSt} {Q : mQ} {x1 : Int} (h_1 : Wp X d 175 35 [some (mR 407), some (mI x1)] [mI 0] s Q) : Wp X d 175 34 [some (mR 407), some (mI x1)] [] s Q := Wp_step k175 f175_34 (h_1)
theorem b175_35 {X : (Nat → Int) × Nat} {d : Nat} {s : mSt} {Q : mQ} {x1 : Int} {xt0 : Int} (h_1 : Q (some (mI xt0)) s) (h_2 : xt0 = 0 ∨ xt0 = 1) : Wp X d 175 35 [some (mR 407), some (mI x1)] [mI xt0] s Q := Wp_step k175 f175_35 ⟨⟨rfl, h_2⟩, h_1⟩
theorem e175 {X : (Nat → Int) × Nat} {d : Nat} {s : mSt} {Q : mQ} {x1 : Int} (h : Wp X d 175 0 [some (mR 407), some (mI x1)] [] s Q) : Sp X d 175 [mR 407, mI x1] s Q := Sp_of (show mCe 175 = 0 by decide +kernel) (by rw [show mML 175 = 2 by decide +kernel]; rfl) (Nat.le_trans (Nat.le_of_ble_eq_true (show Nat.ble (mArgs _).length 2 = true from rfl)) (show 2 ≤ mML 175 by decide +kernel)) h
-- 176 ClashDayModel.isLetter(I)Z
theorem k176 : mRk 176 = 2 := by decide +kernel
theorem f176_0 : mFetch 176 0 = some (.iload_n 1, 1, 0, 0, 0, 0) := by decide +kernel
theorem f176_1 : mFetch 176 1 = some (.aload_n 0, 1, 0, 0, 0, 0) := by decide +kernel
theorem f176_2 : mFetch 176 2 = some (.getfield 113, 3, 12, 1, 0, 1) := by decide +kernel
theorem f176_5 : mFetch 176 5 = some (.if_icmp .ge 29, 3, 34, 0, 0, 0) := by decide +kernel
theorem f176_8 : mFetch 176 8 = some (.aload_n 0, 1, 0, 0, 0, 0) := by decide +kernel
theorem f176_9 : mFetch 176 9 = some (.getfield 7, 3, 12, 0, 2, 1) := by decide +kernel
theorem f176_12 : mFetch 176 12 = some (.iload_n 1, 1, 0, 0, 0, 0) := by decide +kernel
theorem f176_13 : mFetch 176 13 = some (.baload, 1, 0, 0, 0, 0) := by decide +kernel
theorem f176_14 : mFetch 176 14 = some (.bipush 97, 2, 0, 0, 0, 0) := by decide +kernel
theorem f176_16 : mFetch 176 16 = some (.if_icmp .lt 18, 3, 34, 0, 0, 0) := by decide +kernel
theorem f176_19 : mFetch 176 19 = some (.aload_n 0, 1, 0, 0, 0, 0) := by decide +kernel
theorem f176_20 : mFetch 176 20 = some (.getfield 7, 3, 12, 0, 2, 1) := by decide +kernel
theorem f176_23 : mFetch 176 23 = some (.iload_n 1, 1, 0, 0, 0, 0) := by decide +kernel
theorem f176_24 : mFetch 176 24 = some (.baload, 1, 0, 0, 0, 0) := by decide +kernel
theorem f176_25 : mFetch 176 25 = some (.bipush 122, 2, 0, 0, 0, 0) := by decide +kernel
theorem f176_27 : mFetch 176 27 = some (.if_icmp .gt 7, 3, 34, 0, 0, 0) := by decide +kernel
theorem f176_30 : mFetch 176 30 = some (.iconst 1, 1, 0, 0, 0, 0) := by decide +kernel
theorem f176_31 : mFetch 176 31 = some (.goto 4, 3, 35, 0, 0, 0) := by decide +kernel
theorem f176_34 : mFetch 176 34 = some (.iconst 0, 1, 0, 0, 0, 0) := by decide +kernel
theorem f176_35 : mFetch 176 35 = some (.ireturn, 1, 0, 0, 0, 0) := by decide +kernel
theorem b176_0 {X : (Nat → Int) × Nat} {d : Nat} {s : mSt} {Q : mQ} {x1 : Int} (h_1 : (s 407 1) ≤ x1 → Wp X d 176 34 [some (mR 407), some (mI x1)] [] s Q) (h_2 : ¬ (s 407 1) ≤ x1 → Wp X d 176 8 [some (mR 407), some (mI x1)] [] s Q) : Wp X d 176 0 [some (mR 407), some (mI x1)] [] s Q := Wp_step k176 f176_0 (Wp_step k176 f176_1 (Wp_step k176 f176_2 ⟨kf_407, Wp_step k176 f176_5 ⟨h_1, h_2⟩⟩))
theorem b176_8 {X : (Nat → Int) × Nat} {d : Nat} {s : mSt} {Q : mQ} {x1 : Int} (h_1 : 0 ≤ x1 ∧ x1 < 400) (h_2 : (s 408 x1.toNat) < 97 → Wp X d 176 34 [some (mR 407), some (mI x1)] [] s Q) (h_3 : ¬ (s 408 x1.toNat) < 97 → Wp X d 176 19 [some (mR 407), some (mI x1)] [] s Q) : Wp X d 176 8 [some (mR 407), some (mI x1)] [] s Q := Wp_step k176 f176_8 (Wp_step k176 f176_9 ⟨kf_407, 408, rf_407_0, Wp_step k176 f176_12 (Wp_step k176 f176_13 ⟨20, 400, af_408, (Or.inl rfl), h_1, Wp_step k176 f176_14 (Wp_step k176 f176_16 ⟨h_2, h_3⟩)⟩)⟩)
theorem b176_19 {X : (Nat → Int) × Nat} {d : Nat} {s : mSt} {Q : mQ} {x1 : Int} (h_1 : 0 ≤ x1 ∧ x1 < 400) (h_2 : 122 < (s 408 x1.toNat) → Wp X d 176 34 [some (mR 407), some (mI x1)] [] s Q) (h_3 : ¬ 122 < (s 408 x1.toNat) → Wp X d 176 30 [some (mR 407), some (mI x1)] [] s Q) : Wp X d 176 19 [some (mR 407), some (mI x1)] [] s Q := Wp_step k176 f176_19 (Wp_step k176 f176_20 ⟨kf_407, 408, rf_407_0, Wp_step k176 f176_23 (Wp_step k176 f176_24 ⟨20, 400, af_408, (Or.inl rfl), h_1, Wp_step k176 f176_25 (Wp_step k176 f176_27 ⟨h_2, h_3⟩)⟩)⟩)
theorem b176_30 {X : (Nat → Int) × Nat} {d : Nat} {s : mSt} {Q : mQ} {x1 : Int} (h_1 : Wp X d 176 35 [some (mR 407), some (mI x1)] [mI 1] s Q) : Wp X d 176 30 [some (mR 407), some (mI x1)] [] s Q := Wp_step k176 f176_30 (Wp_step k176 f176_31 (h_1))
theorem b176_34 {X : (Nat → Int) × Nat} {d : Nat} {s : mSt} {Q : mQ} {x1 : Int} (h_1 : Wp X d 176 35 [some (mR 407), some (mI x1)] [mI 0] s Q) : Wp X d 176 34 [some (mR 407), some (mI x1)] [] s Q := Wp_step k176 f176_34 (h_1)
theorem b176_35 {X : (Nat → Int) × Nat} {d : Nat} {s : mSt} {Q : mQ} {x1 : Int} {xt0 : Int} (h_1 : Q (some (mI xt0)) s) (h_2 : xt0 = 0 ∨ xt0 = 1) : Wp X d 176 35 [some (mR 407), some (mI x1)] [mI xt0] s Q := Wp_step k176 f176_35 ⟨⟨rfl, h_2⟩, h_1⟩
theorem e176 {X : (Nat → Int) × Nat} {d : Nat} {s : mSt} {Q : mQ} {x1 : Int} (h : Wp X d 176 0 [some (mR 407), some (mI x1)] [] s Q) : Sp X d 176 [mR 407, mI x1] s Q := Sp_of (show mCe 176 = 0 by decide +kernel) (by rw [show mML 176 = 2 by decide +kernel]; rfl) (Nat.le_trans (Nat.le_of_ble_eq_true (show Nat.ble (mArgs _).length 2 = true from rfl)) (show 2 ≤ mML 176 by decide +kernel)) h
-- 177 ClashDayModel.isWord(J)Z
theorem k177 : mRk 177 = 2 := by decide +kernel
theorem f177_0 : mFetch 177 0 = some (.aload_n 0, 1, 0, 0, 0, 0) := by decide +kernel
theorem f177_1 : mFetch 177 1 = some (.invokevirtual 126, 3, 174, 0, 1, 12) := by decide +kernel
theorem f177_4 : mFetch 177 4 = some (.pop, 1, 0, 0, 0, 0) := by decide +kernel
theorem f177_5 : mFetch 177 5 = some (.lconst 0, 1, 0, 0, 0, 0) := by decide +kernel
theorem f177_6 : mFetch 177 6 = some (.lstore_n 3, 1, 0, 0, 0, 0) := by decide +kernel
theorem f177_7 : mFetch 177 7 = some (.iconst 0, 1, 0, 0, 0, 0) := by decide +kernel
theorem f177_8 : mFetch 177 8 = some (.istore 5, 2, 0, 0, 0, 0) := by decide +kernel
theorem f177_10 : mFetch 177 10 = some (.aload_n 0, 1, 0, 0, 0, 0) := by decide +kernel
theorem f177_11 : mFetch 177 11 = some (.aload_n 0, 1, 0, 0, 0, 0) := by decide +kernel
theorem f177_12 : mFetch 177 12 = some (.getfield 123, 3, 12, 8, 0, 1) := by decide +kernel
theorem f177_15 : mFetch 177 15 = some (.iload 5, 2, 0, 0, 0, 0) := by decide +kernel
theorem f177_17 : mFetch 177 17 = some (.iadd, 1, 0, 0, 0, 0) := by decide +kernel
theorem f177_18 : mFetch 177 18 = some (.invokevirtual 130, 3, 176, 0, 2, 12) := by decide +kernel
theorem f177_21 : mFetch 177 21 = some (.ifCond .eq 37, 3, 58, 0, 0, 0) := by decide +kernel
theorem f177_24 : mFetch 177 24 = some (.iload 5, 2, 0, 0, 0, 0) := by decide +kernel
theorem f177_26 : mFetch 177 26 = some (.bipush 12, 2, 0, 0, 0, 0) := by decide +kernel
theorem f177_28 : mFetch 177 28 = some (.if_icmp .ge 24, 3, 52, 0, 0, 0) := by decide +kernel
theorem f177_31 : mFetch 177 31 = some (.lload_n 3, 1, 0, 0, 0, 0) := by decide +kernel
theorem f177_32 : mFetch 177 32 = some (.iconst 5, 1, 0, 0, 0, 0) := by decide +kernel
theorem f177_33 : mFetch 177 33 = some (.lshl, 1, 0, 0, 0, 0) := by decide +kernel
theorem f177_34 : mFetch 177 34 = some (.aload_n 0, 1, 0, 0, 0, 0) := by decide +kernel
theorem f177_35 : mFetch 177 35 = some (.getfield 7, 3, 12, 0, 2, 1) := by decide +kernel
theorem f177_38 : mFetch 177 38 = some (.aload_n 0, 1, 0, 0, 0, 0) := by decide +kernel
theorem f177_39 : mFetch 177 39 = some (.getfield 123, 3, 12, 8, 0, 1) := by decide +kernel
theorem f177_42 : mFetch 177 42 = some (.iload 5, 2, 0, 0, 0, 0) := by decide +kernel
theorem f177_44 : mFetch 177 44 = some (.iadd, 1, 0, 0, 0, 0) := by decide +kernel
theorem f177_45 : mFetch 177 45 = some (.baload, 1, 0, 0, 0, 0) := by decide +kernel
theorem f177_46 : mFetch 177 46 = some (.bipush 31, 2, 0, 0, 0, 0) := by decide +kernel
theorem f177_48 : mFetch 177 48 = some (.iand, 1, 0, 0, 0, 0) := by decide +kernel
theorem f177_49 : mFetch 177 49 = some (.i2l, 1, 0, 0, 0, 0) := by decide +kernel
theorem f177_50 : mFetch 177 50 = some (.lor, 1, 0, 0, 0, 0) := by decide +kernel
theorem f177_51 : mFetch 177 51 = some (.lstore_n 3, 1, 0, 0, 0, 0) := by decide +kernel
theorem f177_52 : mFetch 177 52 = some (.iinc 5 1, 3, 0, 0, 0, 0) := by decide +kernel
theorem f177_55 : mFetch 177 55 = some (.goto (-45), 3, 10, 0, 0, 0) := by decide +kernel
theorem f177_58 : mFetch 177 58 = some (.iload 5, 2, 0, 0, 0, 0) := by decide +kernel
theorem f177_60 : mFetch 177 60 = some (.ifCond .le 20, 3, 80, 0, 0, 0) := by decide +kernel
theorem f177_63 : mFetch 177 63 = some (.iload 5, 2, 0, 0, 0, 0) := by decide +kernel
theorem f177_65 : mFetch 177 65 = some (.bipush 13, 2, 0, 0, 0, 0) := by decide +kernel
theorem f177_67 : mFetch 177 67 = some (.if_icmp .ge 13, 3, 80, 0, 0, 0) := by decide +kernel
theorem f177_70 : mFetch 177 70 = some (.lload_n 3, 1, 0, 0, 0, 0) := by decide +kernel
theorem f177_71 : mFetch 177 71 = some (.lload_n 1, 1, 0, 0, 0, 0) := by decide +kernel
theorem f177_72 : mFetch 177 72 = some (.lcmp, 1, 0, 0, 0, 0) := by decide +kernel
theorem f177_73 : mFetch 177 73 = some (.ifCond .ne 7, 3, 80, 0, 0, 0) := by decide +kernel
theorem f177_76 : mFetch 177 76 = some (.iconst 1, 1, 0, 0, 0, 0) := by decide +kernel
theorem f177_77 : mFetch 177 77 = some (.goto 4, 3, 81, 0, 0, 0) := by decide +kernel
theorem f177_80 : mFetch 177 80 = some (.iconst 0, 1, 0, 0, 0, 0) := by decide +kernel
theorem f177_81 : mFetch 177 81 = some (.ireturn, 1, 0, 0, 0, 0) := by decide +kernel
theorem b177_0 {X : (Nat → Int) × Nat} {d : Nat} {s : mSt} {Q : mQ} {x1 : Int} {l2 : Option mV} {l3 : Option mV} {l4 : Option mV} {l5 : Option mV} (h_1 : Sp X d 174 [mR 407] s (fun r s' => ∃ v : Int, r = some (mI v) ∧ Wp X (d + 1) 177 4 [some (mR 407), some (mJ x1), l2, l3, l4, l5] [mI v] s' Q)) : Wp X (d + 1) 177 0 [some (mR 407), some (mJ x1), l2, l3, l4, l5] [] s Q := Wp_step k177 f177_0 (Wp_step k177 f177_1 ⟨⟨kf_407, Nat.le_of_ble_eq_true rfl⟩, Nat.le_refl _, _, rfl, Sp_E h_1⟩)
theorem b177_4 {X : (Nat → Int) × Nat} {d : Nat} {s : mSt} {Q : mQ} {x1 : Int} {l2 : Option mV} {l3 : Option mV} {l4 : Option mV} {l5 : Option mV} {xt0 : Int} (h_1 : Wp X d 177 10 [some (mR 407), some (mJ x1), kL 0 l2, some (mJ 0), none, some (mI 0)] [] s Q) : Wp X d 177 4 [some (mR 407), some (mJ x1), l2, l3, l4, l5] [mI xt0] s Q := Wp_step k177 f177_4 (Wp_step k177 f177_5 (Wp_step k177 f177_6 (Wp_step k177 f177_7 (Wp_step k177 f177_8 (h_1)))))
theorem b177_10 {X : (Nat → Int) × Nat} {d : Nat} {s : mSt} {Q : mQ} {x1 : Int} {l2 : Option mV} {x3 : Int} {l4 : Option mV} {x5 : Int} (h_1 : Sp X d 176 [mR 407, mI (w32 ((s 407 8) + x5))] s (fun r s' => ∃ v : Int, r = some (mI v) ∧ Wp X (d + 1) 177 21 [some (mR 407), some (mJ x1), l2, some (mJ x3), l4, some (mI x5)] [mI v] s' Q)) : Wp X (d + 1) 177 10 [some (mR 407), some (mJ x1), l2, some (mJ x3), l4, some (mI x5)] [] s Q := Wp_step k177 f177_10 (Wp_step k177 f177_11 (Wp_step k177 f177_12 ⟨kf_407, Wp_step k177 f177_15 (Wp_step k177 f177_17 (Wp_step k177 f177_18 ⟨⟨kf_407, Nat.le_of_ble_eq_true rfl⟩, Nat.le_refl _, _, rfl, Sp_E h_1⟩))⟩))
theorem b177_21 {X : (Nat → Int) × Nat} {d : Nat} {s : mSt} {Q : mQ} {x1 : Int} {l2 : Option mV} {x3 : Int} {l4 : Option mV} {x5 : Int} {xt0 : Int} (h_1 : xt0 = 0 → Wp X d 177 58 [some (mR 407), some (mJ x1), l2, some (mJ x3), l4, some (mI x5)] [] s Q) (h_2 : ¬ xt0 = 0 → Wp X d 177 24 [some (mR 407), some (mJ x1), l2, some (mJ x3), l4, some (mI x5)] [] s Q) : Wp X d 177 21 [some (mR 407), some (mJ x1), l2, some (mJ x3), l4, some (mI x5)] [mI xt0] s Q := Wp_step k177 f177_21 ⟨h_1, h_2⟩
theorem b177_24 {X : (Nat → Int) × Nat} {d : Nat} {s : mSt} {Q : mQ} {x1 : Int} {l2 : Option mV} {x3 : Int} {l4 : Option mV} {x5 : Int} (h_1 : 12 ≤ x5 → Wp X d 177 52 [some (mR 407), some (mJ x1), l2, some (mJ x3), l4, some (mI x5)] [] s Q) (h_2 : ¬ 12 ≤ x5 → Wp X d 177 31 [some (mR 407), some (mJ x1), l2, some (mJ x3), l4, some (mI x5)] [] s Q) : Wp X d 177 24 [some (mR 407), some (mJ x1), l2, some (mJ x3), l4, some (mI x5)] [] s Q := Wp_step k177 f177_24 (Wp_step k177 f177_26 (Wp_step k177 f177_28 ⟨h_1, h_2⟩))
theorem b177_31 {X : (Nat → Int) × Nat} {d : Nat} {s : mSt} {Q : mQ} {x1 : Int} {l2 : Option mV} {x3 : Int} {l4 : Option mV} {x5 : Int} (h_1 : 0 ≤ (w32 ((s 407 8) + x5)) ∧ (w32 ((s 407 8) + x5)) < 400) (h_2 : Wp X d 177 52 [some (mR 407), some (mJ x1), kL 0 l2, some (mJ (lOr (lShl x3 5) (iAnd (s 408 (w32 ((s 407 8) + x5)).toNat) 31))), none, some (mI x5)] [] s Q) : Wp X d 177 31 [some (mR 407), some (mJ x1), l2, some (mJ x3), l4, some (mI x5)] [] s Q := Wp_step k177 f177_31 (Wp_step k177 f177_32 (Wp_step k177 f177_33 (Wp_step k177 f177_34 (Wp_step k177 f177_35 ⟨kf_407, 408, rf_407_0, Wp_step k177 f177_38 (Wp_step k177 f177_39 ⟨kf_407, Wp_step k177 f177_42 (Wp_step k177 f177_44 (Wp_step k177 f177_45 ⟨20, 400, af_408, (Or.inl rfl), h_1, Wp_step k177 f177_46 (Wp_step k177 f177_48 (Wp_step k177 f177_49 (Wp_step k177 f177_50 (Wp_step k177 f177_51 (h_2)))))⟩))⟩)⟩))))
theorem b177_52 {X : (Nat → Int) × Nat} {d : Nat} {s : mSt} {Q : mQ} {x1 : Int} {l2 : Option mV} {x3 : Int} {l4 : Option mV} {x5 : Int} (h_1 : Wp X d 177 10 [some (mR 407), some (mJ x1), l2, some (mJ x3), kL 0 l4, some (mI (w32 (x5 + 1)))] [] s Q) : Wp X d 177 52 [some (mR 407), some (mJ x1), l2, some (mJ x3), l4, some (mI x5)] [] s Q := Wp_step k177 f177_52 (Wp_step k177 f177_55 (h_1))
theorem b177_58 {X : (Nat → Int) × Nat} {d : Nat} {s : mSt} {Q : mQ} {x1 : Int} {l2 : Option mV} {x3 : Int} {l4 : Option mV} {x5 : Int} (h_1 : x5 ≤ 0 → Wp X d 177 80 [some (mR 407), some (mJ x1), l2, some (mJ x3), l4, some (mI x5)] [] s Q) (h_2 : ¬ x5 ≤ 0 → Wp X d 177 63 [some (mR 407), some (mJ x1), l2, some (mJ x3), l4, some (mI x5)] [] s Q) : Wp X d 177 58 [some (mR 407), some (mJ x1), l2, some (mJ x3), l4, some (mI x5)] [] s Q := Wp_step k177 f177_58 (Wp_step k177 f177_60 ⟨h_1, h_2⟩)
theorem b177_63 {X : (Nat → Int) × Nat} {d : Nat} {s : mSt} {Q : mQ} {x1 : Int} {l2 : Option mV} {x3 : Int} {l4 : Option mV} {x5 : Int} (h_1 : 13 ≤ x5 → Wp X d 177 80 [some (mR 407), some (mJ x1), l2, some (mJ x3), l4, some (mI x5)] [] s Q) (h_2 : ¬ 13 ≤ x5 → Wp X d 177 70 [some (mR 407), some (mJ x1), l2, some (mJ x3), l4, some (mI x5)] [] s Q) : Wp X d 177 63 [some (mR 407), some (mJ x1), l2, some (mJ x3), l4, some (mI x5)] [] s Q := Wp_step k177 f177_63 (Wp_step k177 f177_65 (Wp_step k177 f177_67 ⟨h_1, h_2⟩))
theorem b177_70 {X : (Nat → Int) × Nat} {d : Nat} {s : mSt} {Q : mQ} {x1 : Int} {l2 : Option mV} {x3 : Int} {l4 : Option mV} {x5 : Int} (h_1 : ¬ (lCmp x3 x1) = 0 → Wp X d 177 80 [some (mR 407), some (mJ x1), l2, some (mJ x3), l4, some (mI x5)] [] s Q) (h_2 : (lCmp x3 x1) = 0 → Wp X d 177 76 [some (mR 407), some (mJ x1), l2, some (mJ x3), l4, some (mI x5)] [] s Q) : Wp X d 177 70 [some (mR 407), some (mJ x1), l2, some (mJ x3), l4, some (mI x5)] [] s Q := Wp_step k177 f177_70 (Wp_step k177 f177_71 (Wp_step k177 f177_72 (Wp_step k177 f177_73 ⟨h_1, h_2⟩)))
theorem b177_76 {X : (Nat → Int) × Nat} {d : Nat} {s : mSt} {Q : mQ} {x1 : Int} {l2 : Option mV} {x3 : Int} {l4 : Option mV} {x5 : Int} (h_1 : Wp X d 177 81 [some (mR 407), some (mJ x1), l2, some (mJ x3), l4, some (mI x5)] [mI 1] s Q) : Wp X d 177 76 [some (mR 407), some (mJ x1), l2, some (mJ x3), l4, some (mI x5)] [] s Q := Wp_step k177 f177_76 (Wp_step k177 f177_77 (h_1))
theorem b177_80 {X : (Nat → Int) × Nat} {d : Nat} {s : mSt} {Q : mQ} {x1 : Int} {l2 : Option mV} {x3 : Int} {l4 : Option mV} {x5 : Int} (h_1 : Wp X d 177 81 [some (mR 407), some (mJ x1), l2, some (mJ x3), l4, some (mI x5)] [mI 0] s Q) : Wp X d 177 80 [some (mR 407), some (mJ x1), l2, some (mJ x3), l4, some (mI x5)] [] s Q := Wp_step k177 f177_80 (h_1)
theorem b177_81 {X : (Nat → Int) × Nat} {d : Nat} {s : mSt} {Q : mQ} {x1 : Int} {l2 : Option mV} {x3 : Int} {l4 : Option mV} {x5 : Int} {xt0 : Int} (h_1 : Q (some (mI xt0)) s) (h_2 : xt0 = 0 ∨ xt0 = 1) : Wp X d 177 81 [some (mR 407), some (mJ x1), l2, some (mJ x3), l4, some (mI x5)] [mI xt0] s Q := Wp_step k177 f177_81 ⟨⟨rfl, h_2⟩, h_1⟩
theorem e177 {X : (Nat → Int) × Nat} {d : Nat} {s : mSt} {Q : mQ} {x1 : Int} (h : Wp X d 177 0 [some (mR 407), some (mJ x1), none, none, none, none] [] s Q) : Sp X d 177 [mR 407, mJ x1] s Q := Sp_of (show mCe 177 = 0 by decide +kernel) (by rw [show mML 177 = 6 by decide +kernel]; rfl) (Nat.le_trans (Nat.le_of_ble_eq_true (show Nat.ble (mArgs _).length 6 = true from rfl)) (show 6 ≤ mML 177 by decide +kernel)) h
-- 178 ClashDayModel.passWord()V
theorem k178 : mRk 178 = 0 := by decide +kernel
theorem f178_0 : mFetch 178 0 = some (.aload_n 0, 1, 0, 0, 0, 0) := by decide +kernel
theorem f178_1 : mFetch 178 1 = some (.aload_n 0, 1, 0, 0, 0, 0) := by decide +kernel
theorem f178_2 : mFetch 178 2 = some (.getfield 123, 3, 12, 8, 0, 1) := by decide +kernel
theorem f178_5 : mFetch 178 5 = some (.invokevirtual 130, 3, 176, 0, 2, 12) := by decide +kernel
theorem f178_8 : mFetch 178 8 = some (.ifCond .eq 16, 3, 24, 0, 0, 0) := by decide +kernel
theorem f178_11 : mFetch 178 11 = some (.aload_n 0, 1, 0, 0, 0, 0) := by decide +kernel
theorem f178_12 : mFetch 178 12 = some (.dup, 1, 0, 0, 0, 0) := by decide +kernel
theorem f178_13 : mFetch 178 13 = some (.getfield 123, 3, 12, 8, 0, 1) := by decide +kernel
theorem f178_16 : mFetch 178 16 = some (.iconst 1, 1, 0, 0, 0, 0) := by decide +kernel
theorem f178_17 : mFetch 178 17 = some (.iadd, 1, 0, 0, 0, 0) := by decide +kernel
theorem f178_18 : mFetch 178 18 = some (.putfield 123, 3, 12, 8, 0, 1) := by decide +kernel
theorem f178_21 : mFetch 178 21 = some (.goto (-21), 3, 0, 0, 0, 0) := by decide +kernel
theorem f178_24 : mFetch 178 24 = some (.return_, 1, 0, 0, 0, 0) := by decide +kernel
theorem b178_0 {X : (Nat → Int) × Nat} {d : Nat} {s : mSt} {Q : mQ} (h_1 : Sp X d 176 [mR 407, mI (s 407 8)] s (fun r s' => ∃ v : Int, r = some (mI v) ∧ Wp X (d + 1) 178 8 [some (mR 407)] [mI v] s' Q)) : Wp X (d + 1) 178 0 [some (mR 407)] [] s Q := Wp_step k178 f178_0 (Wp_step k178 f178_1 (Wp_step k178 f178_2 ⟨kf_407, Wp_step k178 f178_5 ⟨⟨kf_407, Nat.le_of_ble_eq_true rfl⟩, Nat.le_refl _, _, rfl, Sp_E h_1⟩⟩))
theorem b178_8 {X : (Nat → Int) × Nat} {d : Nat} {s : mSt} {Q : mQ} {xt0 : Int} (h_1 : xt0 = 0 → Wp X d 178 24 [some (mR 407)] [] s Q) (h_2 : ¬ xt0 = 0 → Wp X d 178 11 [some (mR 407)] [] s Q) : Wp X d 178 8 [some (mR 407)] [mI xt0] s Q := Wp_step k178 f178_8 ⟨h_1, h_2⟩
theorem b178_11 {X : (Nat → Int) × Nat} {d : Nat} {s : mSt} {Q : mQ} (h_1 : Wp X d 178 0 [some (mR 407)] [] (uS s 407 8 (w32 ((s 407 8) + 1))) Q) : Wp X d 178 11 [some (mR 407)] [] s Q := Wp_step k178 f178_11 (Wp_step k178 f178_12 (Wp_step k178 f178_13 ⟨kf_407, Wp_step k178 f178_16 (Wp_step k178 f178_17 (Wp_step k178 f178_18 ⟨kf_407, Wp_step k178 f178_21 (h_1)⟩))⟩))
theorem b178_24 {X : (Nat → Int) × Nat} {d : Nat} {s : mSt} {Q : mQ} (h_1 : Q none s) : Wp X d 178 24 [some (mR 407)] [] s Q := Wp_step k178 f178_24 ⟨⟨rfl, Or.inl rfl⟩, h_1⟩
theorem e178 {X : (Nat → Int) × Nat} {d : Nat} {s : mSt} {Q : mQ} (h : Wp X d 178 0 [some (mR 407)] [] s Q) : Sp X d 178 [mR 407] s Q := Sp_of (show mCe 178 = 0 by decide +kernel) (by rw [show mML 178 = 1 by decide +kernel]; rfl) (Nat.le_trans (Nat.le_of_ble_eq_true (show Nat.ble (mArgs _).length 1 = true from rfl)) (show 1 ≤ mML 178 by decide +kernel)) h
-- 179 ClashDayModel.takesWord(J)Z
theorem k179 : mRk 179 = 2 := by decide +kernel
theorem f179_0 : mFetch 179 0 = some (.aload_n 0, 1, 0, 0, 0, 0) := by decide +kernel
theorem f179_1 : mFetch 179 1 = some (.lload_n 1, 1, 0, 0, 0, 0) := by decide +kernel
theorem f179_2 : mFetch 179 2 = some (.invokevirtual 134, 3, 177, 0, 2, 12) := by decide +kernel
theorem f179_5 : mFetch 179 5 = some (.ifCond .ne 5, 3, 10, 0, 0, 0) := by decide +kernel
theorem f179_8 : mFetch 179 8 = some (.iconst 0, 1, 0, 0, 0, 0) := by decide +kernel
theorem f179_9 : mFetch 179 9 = some (.ireturn, 1, 0, 0, 0, 0) := by decide +kernel
theorem f179_10 : mFetch 179 10 = some (.aload_n 0, 1, 0, 0, 0, 0) := by decide +kernel
theorem f179_11 : mFetch 179 11 = some (.invokevirtual 138, 3, 178, 0, 1, 12) := by decide +kernel
theorem f179_14 : mFetch 179 14 = some (.iconst 1, 1, 0, 0, 0, 0) := by decide +kernel
theorem f179_15 : mFetch 179 15 = some (.ireturn, 1, 0, 0, 0, 0) := by decide +kernel
theorem b179_0 {X : (Nat → Int) × Nat} {d : Nat} {s : mSt} {Q : mQ} {x1 : Int} {l2 : Option mV} (h_1 : Sp X d 177 [mR 407, mJ x1] s (fun r s' => ∃ v : Int, r = some (mI v) ∧ Wp X (d + 1) 179 5 [some (mR 407), some (mJ x1), l2] [mI v] s' Q)) : Wp X (d + 1) 179 0 [some (mR 407), some (mJ x1), l2] [] s Q := Wp_step k179 f179_0 (Wp_step k179 f179_1 (Wp_step k179 f179_2 ⟨⟨kf_407, Nat.le_of_ble_eq_true rfl⟩, Nat.le_refl _, _, rfl, Sp_E h_1⟩))
theorem b179_5 {X : (Nat → Int) × Nat} {d : Nat} {s : mSt} {Q : mQ} {x1 : Int} {l2 : Option mV} {xt0 : Int} (h_1 : ¬ xt0 = 0 → Wp X d 179 10 [some (mR 407), some (mJ x1), l2] [] s Q) (h_2 : xt0 = 0 → Wp X d 179 8 [some (mR 407), some (mJ x1), l2] [] s Q) : Wp X d 179 5 [some (mR 407), some (mJ x1), l2] [mI xt0] s Q := Wp_step k179 f179_5 ⟨h_1, h_2⟩
theorem b179_8 {X : (Nat → Int) × Nat} {d : Nat} {s : mSt} {Q : mQ} {x1 : Int} {l2 : Option mV} (h_1 : Q (some (mI 0)) s) : Wp X d 179 8 [some (mR 407), some (mJ x1), l2] [] s Q := Wp_step k179 f179_8 (Wp_step k179 f179_9 ⟨⟨rfl, (Or.inl rfl)⟩, h_1⟩)
theorem b179_10 {X : (Nat → Int) × Nat} {d : Nat} {s : mSt} {Q : mQ} {x1 : Int} {l2 : Option mV} (h_1 : Sp X d 178 [mR 407] s (fun r s' => r = none ∧ Wp X (d + 1) 179 14 [some (mR 407), some (mJ x1), l2] [] s' Q)) : Wp X (d + 1) 179 10 [some (mR 407), some (mJ x1), l2] [] s Q := Wp_step k179 f179_10 (Wp_step k179 f179_11 ⟨⟨kf_407, Nat.le_of_ble_eq_true rfl⟩, Nat.le_refl _, _, rfl, Sp_V h_1⟩)
theorem b179_14 {X : (Nat → Int) × Nat} {d : Nat} {s : mSt} {Q : mQ} {x1 : Int} {l2 : Option mV} (h_1 : Q (some (mI 1)) s) : Wp X d 179 14 [some (mR 407), some (mJ x1), l2] [] s Q := Wp_step k179 f179_14 (Wp_step k179 f179_15 ⟨⟨rfl, (Or.inr rfl)⟩, h_1⟩)
theorem e179 {X : (Nat → Int) × Nat} {d : Nat} {s : mSt} {Q : mQ} {x1 : Int} (h : Wp X d 179 0 [some (mR 407), some (mJ x1), none] [] s Q) : Sp X d 179 [mR 407, mJ x1] s Q := Sp_of (show mCe 179 = 0 by decide +kernel) (by rw [show mML 179 = 3 by decide +kernel]; rfl) (Nat.le_trans (Nat.le_of_ble_eq_true (show Nat.ble (mArgs _).length 3 = true from rfl)) (show 3 ≤ mML 179 by decide +kernel)) h
-- 180 ClashDayModel.numberHere(II)Z
theorem k180 : mRk 180 = 2 := by decide +kernel
theorem f180_0 : mFetch 180 0 = some (.aload_n 0, 1, 0, 0, 0, 0) := by decide +kernel
theorem f180_1 : mFetch 180 1 = some (.invokevirtual 126, 3, 174, 0, 1, 12) := by decide +kernel
theorem f180_4 : mFetch 180 4 = some (.pop, 1, 0, 0, 0, 0) := by decide +kernel
theorem f180_5 : mFetch 180 5 = some (.aload_n 0, 1, 0, 0, 0, 0) := by decide +kernel
theorem f180_6 : mFetch 180 6 = some (.aload_n 0, 1, 0, 0, 0, 0) := by decide +kernel
theorem f180_7 : mFetch 180 7 = some (.getfield 123, 3, 12, 8, 0, 1) := by decide +kernel
theorem f180_10 : mFetch 180 10 = some (.invokevirtual 141, 3, 175, 0, 2, 12) := by decide +kernel
theorem f180_13 : mFetch 180 13 = some (.ifCond .ne 13, 3, 26, 0, 0, 0) := by decide +kernel
theorem f180_16 : mFetch 180 16 = some (.aload_n 0, 1, 0, 0, 0, 0) := by decide +kernel
theorem f180_17 : mFetch 180 17 = some (.iconst 0, 1, 0, 0, 0, 0) := by decide +kernel
theorem f180_18 : mFetch 180 18 = some (.aload_n 0, 1, 0, 0, 0, 0) := by decide +kernel
theorem f180_19 : mFetch 180 19 = some (.getfield 123, 3, 12, 8, 0, 1) := by decide +kernel
theorem f180_22 : mFetch 180 22 = some (.invokevirtual 144, 3, 173, 0, 3, 12) := by decide +kernel
theorem f180_25 : mFetch 180 25 = some (.ireturn, 1, 0, 0, 0, 0) := by decide +kernel
theorem f180_26 : mFetch 180 26 = some (.aload_n 0, 1, 0, 0, 0, 0) := by decide +kernel
theorem f180_27 : mFetch 180 27 = some (.getfield 123, 3, 12, 8, 0, 1) := by decide +kernel
theorem f180_30 : mFetch 180 30 = some (.istore_n 3, 1, 0, 0, 0, 0) := by decide +kernel
theorem f180_31 : mFetch 180 31 = some (.iconst 0, 1, 0, 0, 0, 0) := by decide +kernel
theorem f180_32 : mFetch 180 32 = some (.istore 4, 2, 0, 0, 0, 0) := by decide +kernel
theorem f180_34 : mFetch 180 34 = some (.aload_n 0, 1, 0, 0, 0, 0) := by decide +kernel
theorem f180_35 : mFetch 180 35 = some (.aload_n 0, 1, 0, 0, 0, 0) := by decide +kernel
theorem f180_36 : mFetch 180 36 = some (.getfield 123, 3, 12, 8, 0, 1) := by decide +kernel
theorem f180_39 : mFetch 180 39 = some (.invokevirtual 141, 3, 175, 0, 2, 12) := by decide +kernel
theorem f180_42 : mFetch 180 42 = some (.ifCond .eq 46, 3, 88, 0, 0, 0) := by decide +kernel
theorem f180_45 : mFetch 180 45 = some (.aload_n 0, 1, 0, 0, 0, 0) := by decide +kernel
theorem f180_46 : mFetch 180 46 = some (.getfield 123, 3, 12, 8, 0, 1) := by decide +kernel
theorem f180_49 : mFetch 180 49 = some (.iload_n 3, 1, 0, 0, 0, 0) := by decide +kernel
theorem f180_50 : mFetch 180 50 = some (.isub, 1, 0, 0, 0, 0) := by decide +kernel
theorem f180_51 : mFetch 180 51 = some (.iconst 5, 1, 0, 0, 0, 0) := by decide +kernel
theorem f180_52 : mFetch 180 52 = some (.if_icmp .ge 23, 3, 75, 0, 0, 0) := by decide +kernel
theorem f180_55 : mFetch 180 55 = some (.bipush 10, 2, 0, 0, 0, 0) := by decide +kernel
theorem f180_57 : mFetch 180 57 = some (.iload 4, 2, 0, 0, 0, 0) := by decide +kernel
theorem f180_59 : mFetch 180 59 = some (.imul, 1, 0, 0, 0, 0) := by decide +kernel
theorem f180_60 : mFetch 180 60 = some (.aload_n 0, 1, 0, 0, 0, 0) := by decide +kernel
theorem f180_61 : mFetch 180 61 = some (.getfield 7, 3, 12, 0, 2, 1) := by decide +kernel
theorem f180_64 : mFetch 180 64 = some (.aload_n 0, 1, 0, 0, 0, 0) := by decide +kernel
theorem f180_65 : mFetch 180 65 = some (.getfield 123, 3, 12, 8, 0, 1) := by decide +kernel
theorem f180_68 : mFetch 180 68 = some (.baload, 1, 0, 0, 0, 0) := by decide +kernel
theorem f180_69 : mFetch 180 69 = some (.iadd, 1, 0, 0, 0, 0) := by decide +kernel
theorem f180_70 : mFetch 180 70 = some (.bipush 48, 2, 0, 0, 0, 0) := by decide +kernel
theorem f180_72 : mFetch 180 72 = some (.isub, 1, 0, 0, 0, 0) := by decide +kernel
theorem f180_73 : mFetch 180 73 = some (.istore 4, 2, 0, 0, 0, 0) := by decide +kernel
theorem f180_75 : mFetch 180 75 = some (.aload_n 0, 1, 0, 0, 0, 0) := by decide +kernel
theorem f180_76 : mFetch 180 76 = some (.dup, 1, 0, 0, 0, 0) := by decide +kernel
theorem f180_77 : mFetch 180 77 = some (.getfield 123, 3, 12, 8, 0, 1) := by decide +kernel
theorem f180_80 : mFetch 180 80 = some (.iconst 1, 1, 0, 0, 0, 0) := by decide +kernel
theorem f180_81 : mFetch 180 81 = some (.iadd, 1, 0, 0, 0, 0) := by decide +kernel
theorem f180_82 : mFetch 180 82 = some (.putfield 123, 3, 12, 8, 0, 1) := by decide +kernel
theorem f180_85 : mFetch 180 85 = some (.goto (-51), 3, 34, 0, 0, 0) := by decide +kernel
theorem f180_88 : mFetch 180 88 = some (.aload_n 0, 1, 0, 0, 0, 0) := by decide +kernel
theorem f180_89 : mFetch 180 89 = some (.iload 4, 2, 0, 0, 0, 0) := by decide +kernel
theorem f180_91 : mFetch 180 91 = some (.putfield 148, 3, 12, 10, 0, 1) := by decide +kernel
theorem f180_94 : mFetch 180 94 = some (.aload_n 0, 1, 0, 0, 0, 0) := by decide +kernel
theorem f180_95 : mFetch 180 95 = some (.getfield 123, 3, 12, 8, 0, 1) := by decide +kernel
theorem f180_98 : mFetch 180 98 = some (.iload_n 3, 1, 0, 0, 0, 0) := by decide +kernel
theorem f180_99 : mFetch 180 99 = some (.isub, 1, 0, 0, 0, 0) := by decide +kernel
theorem f180_100 : mFetch 180 100 = some (.iconst 5, 1, 0, 0, 0, 0) := by decide +kernel
theorem f180_101 : mFetch 180 101 = some (.if_icmp .gt 16, 3, 117, 0, 0, 0) := by decide +kernel
theorem f180_104 : mFetch 180 104 = some (.iload 4, 2, 0, 0, 0, 0) := by decide +kernel
theorem f180_106 : mFetch 180 106 = some (.i2l, 1, 0, 0, 0, 0) := by decide +kernel
theorem f180_107 : mFetch 180 107 = some (.iload_n 1, 1, 0, 0, 0, 0) := by decide +kernel
theorem f180_108 : mFetch 180 108 = some (.i2l, 1, 0, 0, 0, 0) := by decide +kernel
theorem f180_109 : mFetch 180 109 = some (.iload_n 2, 1, 0, 0, 0, 0) := by decide +kernel
theorem f180_110 : mFetch 180 110 = some (.i2l, 1, 0, 0, 0, 0) := by decide +kernel
theorem f180_111 : mFetch 180 111 = some (.invokestatic 151, 3, 167, 0, 3, 99) := by decide +kernel
theorem f180_114 : mFetch 180 114 = some (.ifCond .ne 12, 3, 126, 0, 0, 0) := by decide +kernel
theorem f180_117 : mFetch 180 117 = some (.aload_n 0, 1, 0, 0, 0, 0) := by decide +kernel
theorem f180_118 : mFetch 180 118 = some (.iconst 1, 1, 0, 0, 0, 0) := by decide +kernel
theorem f180_119 : mFetch 180 119 = some (.iload_n 3, 1, 0, 0, 0, 0) := by decide +kernel
theorem f180_120 : mFetch 180 120 = some (.invokevirtual 144, 3, 173, 0, 3, 12) := by decide +kernel
theorem f180_123 : mFetch 180 123 = some (.ifCond .eq 7, 3, 130, 0, 0, 0) := by decide +kernel
theorem f180_126 : mFetch 180 126 = some (.iconst 1, 1, 0, 0, 0, 0) := by decide +kernel
theorem f180_127 : mFetch 180 127 = some (.goto 4, 3, 131, 0, 0, 0) := by decide +kernel
theorem f180_130 : mFetch 180 130 = some (.iconst 0, 1, 0, 0, 0, 0) := by decide +kernel
theorem f180_131 : mFetch 180 131 = some (.ireturn, 1, 0, 0, 0, 0) := by decide +kernel
theorem b180_0 {X : (Nat → Int) × Nat} {d : Nat} {s : mSt} {Q : mQ} {x1 : Int} {x2 : Int} {l3 : Option mV} {l4 : Option mV} (h_1 : Sp X d 174 [mR 407] s (fun r s' => ∃ v : Int, r = some (mI v) ∧ Wp X (d + 1) 180 4 [some (mR 407), some (mI x1), some (mI x2), l3, l4] [mI v] s' Q)) : Wp X (d + 1) 180 0 [some (mR 407), some (mI x1), some (mI x2), l3, l4] [] s Q := Wp_step k180 f180_0 (Wp_step k180 f180_1 ⟨⟨kf_407, Nat.le_of_ble_eq_true rfl⟩, Nat.le_refl _, _, rfl, Sp_E h_1⟩)
theorem b180_4 {X : (Nat → Int) × Nat} {d : Nat} {s : mSt} {Q : mQ} {x1 : Int} {x2 : Int} {l3 : Option mV} {l4 : Option mV} {xt0 : Int} (h_1 : Sp X d 175 [mR 407, mI (s 407 8)] s (fun r s' => ∃ v : Int, r = some (mI v) ∧ Wp X (d + 1) 180 13 [some (mR 407), some (mI x1), some (mI x2), l3, l4] [mI v] s' Q)) : Wp X (d + 1) 180 4 [some (mR 407), some (mI x1), some (mI x2), l3, l4] [mI xt0] s Q := Wp_step k180 f180_4 (Wp_step k180 f180_5 (Wp_step k180 f180_6 (Wp_step k180 f180_7 ⟨kf_407, Wp_step k180 f180_10 ⟨⟨kf_407, Nat.le_of_ble_eq_true rfl⟩, Nat.le_refl _, _, rfl, Sp_E h_1⟩⟩)))
theorem b180_13 {X : (Nat → Int) × Nat} {d : Nat} {s : mSt} {Q : mQ} {x1 : Int} {x2 : Int} {l3 : Option mV} {l4 : Option mV} {xt0 : Int} (h_1 : ¬ xt0 = 0 → Wp X d 180 26 [some (mR 407), some (mI x1), some (mI x2), l3, l4] [] s Q) (h_2 : xt0 = 0 → Wp X d 180 16 [some (mR 407), some (mI x1), some (mI x2), l3, l4] [] s Q) : Wp X d 180 13 [some (mR 407), some (mI x1), some (mI x2), l3, l4] [mI xt0] s Q := Wp_step k180 f180_13 ⟨h_1, h_2⟩
theorem b180_16 {X : (Nat → Int) × Nat} {d : Nat} {s : mSt} {Q : mQ} {x1 : Int} {x2 : Int} {l3 : Option mV} {l4 : Option mV} (h_1 : Sp X d 173 [mR 407, mI 0, mI (s 407 8)] s (fun r s' => ∃ v : Int, r = some (mI v) ∧ Wp X (d + 1) 180 25 [some (mR 407), some (mI x1), some (mI x2), l3, l4] [mI v] s' Q)) : Wp X (d + 1) 180 16 [some (mR 407), some (mI x1), some (mI x2), l3, l4] [] s Q := Wp_step k180 f180_16 (Wp_step k180 f180_17 (Wp_step k180 f180_18 (Wp_step k180 f180_19 ⟨kf_407, Wp_step k180 f180_22 ⟨⟨kf_407, Nat.le_of_ble_eq_true rfl⟩, Nat.le_refl _, _, rfl, Sp_E h_1⟩⟩)))
theorem b180_25 {X : (Nat → Int) × Nat} {d : Nat} {s : mSt} {Q : mQ} {x1 : Int} {x2 : Int} {l3 : Option mV} {l4 : Option mV} {xt0 : Int} (h_1 : Q (some (mI xt0)) s) (h_2 : xt0 = 0 ∨ xt0 = 1) : Wp X d 180 25 [some (mR 407), some (mI x1), some (mI x2), l3, l4] [mI xt0] s Q := Wp_step k180 f180_25 ⟨⟨rfl, h_2⟩, h_1⟩
theorem b180_26 {X : (Nat → Int) × Nat} {d : Nat} {s : mSt} {Q : mQ} {x1 : Int} {x2 : Int} {l3 : Option mV} {l4 : Option mV} (h_1 : Wp X d 180 34 [some (mR 407), some (mI x1), some (mI x2), some (mI (s 407 8)), some (mI 0)] [] s Q) : Wp X d 180 26 [some (mR 407), some (mI x1), some (mI x2), l3, l4] [] s Q := Wp_step k180 f180_26 (Wp_step k180 f180_27 ⟨kf_407, Wp_step k180 f180_30 (Wp_step k180 f180_31 (Wp_step k180 f180_32 (h_1)))⟩)
theorem b180_34 {X : (Nat → Int) × Nat} {d : Nat} {s : mSt} {Q : mQ} {x1 : Int} {x2 : Int} {x3 : Int} {x4 : Int} (h_1 : Sp X d 175 [mR 407, mI (s 407 8)] s (fun r s' => ∃ v : Int, r = some (mI v) ∧ Wp X (d + 1) 180 42 [some (mR 407), some (mI x1), some (mI x2), some (mI x3), some (mI x4)] [mI v] s' Q)) : Wp X (d + 1) 180 34 [some (mR 407), some (mI x1), some (mI x2), some (mI x3), some (mI x4)] [] s Q := Wp_step k180 f180_34 (Wp_step k180 f180_35 (Wp_step k180 f180_36 ⟨kf_407, Wp_step k180 f180_39 ⟨⟨kf_407, Nat.le_of_ble_eq_true rfl⟩, Nat.le_refl _, _, rfl, Sp_E h_1⟩⟩))
theorem b180_42 {X : (Nat → Int) × Nat} {d : Nat} {s : mSt} {Q : mQ} {x1 : Int} {x2 : Int} {x3 : Int} {x4 : Int} {xt0 : Int} (h_1 : xt0 = 0 → Wp X d 180 88 [some (mR 407), some (mI x1), some (mI x2), some (mI x3), some (mI x4)] [] s Q) (h_2 : ¬ xt0 = 0 → Wp X d 180 45 [some (mR 407), some (mI x1), some (mI x2), some (mI x3), some (mI x4)] [] s Q) : Wp X d 180 42 [some (mR 407), some (mI x1), some (mI x2), some (mI x3), some (mI x4)] [mI xt0] s Q := Wp_step k180 f180_42 ⟨h_1, h_2⟩
theorem b180_45 {X : (Nat → Int) × Nat} {d : Nat} {s : mSt} {Q : mQ} {x1 : Int} {x2 : Int} {x3 : Int} {x4 : Int} (h_1 : 5 ≤ (w32 ((s 407 8) - x3)) → Wp X d 180 75 [some (mR 407), some (mI x1), some (mI x2), some (mI x3), some (mI x4)] [] s Q) (h_2 : ¬ 5 ≤ (w32 ((s 407 8) - x3)) → Wp X d 180 55 [some (mR 407), some (mI x1), some (mI x2), some (mI x3), some (mI x4)] [] s Q) : Wp X d 180 45 [some (mR 407), some (mI x1), some (mI x2), some (mI x3), some (mI x4)] [] s Q := Wp_step k180 f180_45 (Wp_step k180 f180_46 ⟨kf_407, Wp_step k180 f180_49 (Wp_step k180 f180_50 (Wp_step k180 f180_51 (Wp_step k180 f180_52 ⟨h_1, h_2⟩)))⟩)
theorem b180_55 {X : (Nat → Int) × Nat} {d : Nat} {s : mSt} {Q : mQ} {x1 : Int} {x2 : Int} {x3 : Int} {x4 : Int} (h_1 : 0 ≤ (s 407 8) ∧ (s 407 8) < 400) (h_2 : Wp X d 180 75 [some (mR 407), some (mI x1), some (mI x2), some (mI x3), some (mI (w32 ((w32 ((w32 (10 * x4)) + (s 408 (s 407 8).toNat))) - 48)))] [] s Q) : Wp X d 180 55 [some (mR 407), some (mI x1), some (mI x2), some (mI x3), some (mI x4)] [] s Q := Wp_step k180 f180_55 (Wp_step k180 f180_57 (Wp_step k180 f180_59 (Wp_step k180 f180_60 (Wp_step k180 f180_61 ⟨kf_407, 408, rf_407_0, Wp_step k180 f180_64 (Wp_step k180 f180_65 ⟨kf_407, Wp_step k180 f180_68 ⟨20, 400, af_408, (Or.inl rfl), h_1, Wp_step k180 f180_69 (Wp_step k180 f180_70 (Wp_step k180 f180_72 (Wp_step k180 f180_73 (h_2))))⟩⟩)⟩))))
theorem b180_75 {X : (Nat → Int) × Nat} {d : Nat} {s : mSt} {Q : mQ} {x1 : Int} {x2 : Int} {x3 : Int} {x4 : Int} (h_1 : Wp X d 180 34 [some (mR 407), some (mI x1), some (mI x2), some (mI x3), some (mI x4)] [] (uS s 407 8 (w32 ((s 407 8) + 1))) Q) : Wp X d 180 75 [some (mR 407), some (mI x1), some (mI x2), some (mI x3), some (mI x4)] [] s Q := Wp_step k180 f180_75 (Wp_step k180 f180_76 (Wp_step k180 f180_77 ⟨kf_407, Wp_step k180 f180_80 (Wp_step k180 f180_81 (Wp_step k180 f180_82 ⟨kf_407, Wp_step k180 f180_85 (h_1)⟩))⟩))
theorem b180_88 {X : (Nat → Int) × Nat} {d : Nat} {s : mSt} {Q : mQ} {x1 : Int} {x2 : Int} {x3 : Int} {x4 : Int} (h_1 : 5 < (w32 (((uS s 407 10 x4) 407 8) - x3)) → Wp X d 180 117 [some (mR 407), some (mI x1), some (mI x2), some (mI x3), some (mI x4)] [] (uS s 407 10 x4) Q) (h_2 : ¬ 5 < (w32 (((uS s 407 10 x4) 407 8) - x3)) → Wp X d 180 104 [some (mR 407), some (mI x1), some (mI x2), some (mI x3), some (mI x4)] [] (uS s 407 10 x4) Q) : Wp X d 180 88 [some (mR 407), some (mI x1), some (mI x2), some (mI x3), some (mI x4)] [] s Q := Wp_step k180 f180_88 (Wp_step k180 f180_89 (Wp_step k180 f180_91 ⟨kf_407, Wp_step k180 f180_94 (Wp_step k180 f180_95 ⟨kf_407, Wp_step k180 f180_98 (Wp_step k180 f180_99 (Wp_step k180 f180_100 (Wp_step k180 f180_101 ⟨h_1, h_2⟩)))⟩)⟩))
theorem b180_104 {X : (Nat → Int) × Nat} {d : Nat} {s : mSt} {Q : mQ} {x1 : Int} {x2 : Int} {x3 : Int} {x4 : Int} (h_1 : Sp X d 167 [mJ x4, mJ x1, mJ x2] s (fun r s' => ∃ v : Int, r = some (mI v) ∧ Wp X (d + 1) 180 114 [some (mR 407), some (mI x1), some (mI x2), some (mI x3), some (mI x4)] [mI v] s' Q)) : Wp X (d + 1) 180 104 [some (mR 407), some (mI x1), some (mI x2), some (mI x3), some (mI x4)] [] s Q := Wp_step k180 f180_104 (Wp_step k180 f180_106 (Wp_step k180 f180_107 (Wp_step k180 f180_108 (Wp_step k180 f180_109 (Wp_step k180 f180_110 (Wp_step k180 f180_111 ⟨⟨Nat.le_of_ble_eq_true rfl, Nat.le_refl _⟩, _, rfl, Sp_E h_1⟩))))))
theorem b180_114 {X : (Nat → Int) × Nat} {d : Nat} {s : mSt} {Q : mQ} {x1 : Int} {x2 : Int} {x3 : Int} {x4 : Int} {xt0 : Int} (h_1 : ¬ xt0 = 0 → Wp X d 180 126 [some (mR 407), some (mI x1), some (mI x2), some (mI x3), some (mI x4)] [] s Q) (h_2 : xt0 = 0 → Wp X d 180 117 [some (mR 407), some (mI x1), some (mI x2), some (mI x3), some (mI x4)] [] s Q) : Wp X d 180 114 [some (mR 407), some (mI x1), some (mI x2), some (mI x3), some (mI x4)] [mI xt0] s Q := Wp_step k180 f180_114 ⟨h_1, h_2⟩
theorem b180_117 {X : (Nat → Int) × Nat} {d : Nat} {s : mSt} {Q : mQ} {x1 : Int} {x2 : Int} {x3 : Int} {x4 : Int} (h_1 : Sp X d 173 [mR 407, mI 1, mI x3] s (fun r s' => ∃ v : Int, r = some (mI v) ∧ Wp X (d + 1) 180 123 [some (mR 407), some (mI x1), some (mI x2), some (mI x3), some (mI x4)] [mI v] s' Q)) : Wp X (d + 1) 180 117 [some (mR 407), some (mI x1), some (mI x2), some (mI x3), some (mI x4)] [] s Q := Wp_step k180 f180_117 (Wp_step k180 f180_118 (Wp_step k180 f180_119 (Wp_step k180 f180_120 ⟨⟨kf_407, Nat.le_of_ble_eq_true rfl⟩, Nat.le_refl _, _, rfl, Sp_E h_1⟩)))
theorem b180_123 {X : (Nat → Int) × Nat} {d : Nat} {s : mSt} {Q : mQ} {x1 : Int} {x2 : Int} {x3 : Int} {x4 : Int} {xt0 : Int} (h_1 : xt0 = 0 → Wp X d 180 130 [some (mR 407), some (mI x1), some (mI x2), some (mI x3), some (mI x4)] [] s Q) (h_2 : ¬ xt0 = 0 → Wp X d 180 126 [some (mR 407), some (mI x1), some (mI x2), some (mI x3), some (mI x4)] [] s Q) : Wp X d 180 123 [some (mR 407), some (mI x1), some (mI x2), some (mI x3), some (mI x4)] [mI xt0] s Q := Wp_step k180 f180_123 ⟨h_1, h_2⟩
theorem b180_126 {X : (Nat → Int) × Nat} {d : Nat} {s : mSt} {Q : mQ} {x1 : Int} {x2 : Int} {x3 : Int} {x4 : Int} (h_1 : Wp X d 180 131 [some (mR 407), some (mI x1), some (mI x2), some (mI x3), some (mI x4)] [mI 1] s Q) : Wp X d 180 126 [some (mR 407), some (mI x1), some (mI x2), some (mI x3), some (mI x4)] [] s Q := Wp_step k180 f180_126 (Wp_step k180 f180_127 (h_1))
theorem b180_130 {X : (Nat → Int) × Nat} {d : Nat} {s : mSt} {Q : mQ} {x1 : Int} {x2 : Int} {x3 : Int} {x4 : Int} (h_1 : Wp X d 180 131 [some (mR 407), some (mI x1), some (mI x2), some (mI x3), some (mI x4)] [mI 0] s Q) : Wp X d 180 130 [some (mR 407), some (mI x1), some (mI x2), some (mI x3), some (mI x4)] [] s Q := Wp_step k180 f180_130 (h_1)
theorem b180_131 {X : (Nat → Int) × Nat} {d : Nat} {s : mSt} {Q : mQ} {x1 : Int} {x2 : Int} {x3 : Int} {x4 : Int} {xt0 : Int} (h_1 : Q (some (mI xt0)) s) (h_2 : xt0 = 0 ∨ xt0 = 1) : Wp X d 180 131 [some (mR 407), some (mI x1), some (mI x2), some (mI x3), some (mI x4)] [mI xt0] s Q := Wp_step k180 f180_131 ⟨⟨rfl, h_2⟩, h_1⟩
theorem e180 {X : (Nat → Int) × Nat} {d : Nat} {s : mSt} {Q : mQ} {x1 : Int} {x2 : Int} (h : Wp X d 180 0 [some (mR 407), some (mI x1), some (mI x2), none, none] [] s Q) : Sp X d 180 [mR 407, mI x1, mI x2] s Q := Sp_of (show mCe 180 = 0 by decide +kernel) (by rw [show mML 180 = 5 by decide +kernel]; rfl) (Nat.le_trans (Nat.le_of_ble_eq_true (show Nat.ble (mArgs _).length 5 = true from rfl)) (show 5 ≤ mML 180 by decide +kernel)) h
-- 181 ClashDayModel.wordHere()I
theorem k181 : mRk 181 = 1 := by decide +kernel
theorem f181_0 : mFetch 181 0 = some (.aload_n 0, 1, 0, 0, 0, 0) := by decide +kernel
theorem f181_1 : mFetch 181 1 = some (.ldc2_w 155, 3, 3348070794885, 0, 0, 0) := by decide +kernel
theorem f181_4 : mFetch 181 4 = some (.invokevirtual 134, 3, 177, 0, 2, 12) := by decide +kernel
theorem f181_7 : mFetch 181 7 = some (.ifCond .eq 5, 3, 12, 0, 0, 0) := by decide +kernel
theorem f181_10 : mFetch 181 10 = some (.iconst 0, 1, 0, 0, 0, 0) := by decide +kernel
theorem f181_11 : mFetch 181 11 = some (.ireturn, 1, 0, 0, 0, 0) := by decide +kernel
theorem f181_12 : mFetch 181 12 = some (.aload_n 0, 1, 0, 0, 0, 0) := by decide +kernel
theorem f181_13 : mFetch 181 13 = some (.ldc2_w 157, 3, 538449491, 0, 0, 0) := by decide +kernel
theorem f181_16 : mFetch 181 16 = some (.invokevirtual 134, 3, 177, 0, 2, 12) := by decide +kernel
theorem f181_19 : mFetch 181 19 = some (.ifCond .eq 5, 3, 24, 0, 0, 0) := by decide +kernel
theorem f181_22 : mFetch 181 22 = some (.iconst 1, 1, 0, 0, 0, 0) := by decide +kernel
theorem f181_23 : mFetch 181 23 = some (.ireturn, 1, 0, 0, 0, 0) := by decide +kernel
theorem f181_24 : mFetch 181 24 = some (.aload_n 0, 1, 0, 0, 0, 0) := by decide +kernel
theorem f181_25 : mFetch 181 25 = some (.ldc2_w 159, 3, 6050369, 0, 0, 0) := by decide +kernel
theorem f181_28 : mFetch 181 28 = some (.invokevirtual 134, 3, 177, 0, 2, 12) := by decide +kernel
theorem f181_31 : mFetch 181 31 = some (.ifCond .eq 5, 3, 36, 0, 0, 0) := by decide +kernel
theorem f181_34 : mFetch 181 34 = some (.iconst 2, 1, 0, 0, 0, 0) := by decide +kernel
theorem f181_35 : mFetch 181 35 = some (.ireturn, 1, 0, 0, 0, 0) := by decide +kernel
theorem f181_36 : mFetch 181 36 = some (.aload_n 0, 1, 0, 0, 0, 0) := by decide +kernel
theorem f181_37 : mFetch 181 37 = some (.ldc2_w 161, 3, 595572, 0, 0, 0) := by decide +kernel
theorem f181_40 : mFetch 181 40 = some (.invokevirtual 134, 3, 177, 0, 2, 12) := by decide +kernel
theorem f181_43 : mFetch 181 43 = some (.ifCond .eq 5, 3, 48, 0, 0, 0) := by decide +kernel
theorem f181_46 : mFetch 181 46 = some (.iconst 3, 1, 0, 0, 0, 0) := by decide +kernel
theorem f181_47 : mFetch 181 47 = some (.ireturn, 1, 0, 0, 0, 0) := by decide +kernel
theorem f181_48 : mFetch 181 48 = some (.aload_n 0, 1, 0, 0, 0, 0) := by decide +kernel
theorem f181_49 : mFetch 181 49 = some (.ldc2_w 163, 3, 479437459, 0, 0, 0) := by decide +kernel
theorem f181_52 : mFetch 181 52 = some (.invokevirtual 134, 3, 177, 0, 2, 12) := by decide +kernel
theorem f181_55 : mFetch 181 55 = some (.ifCond .eq 5, 3, 60, 0, 0, 0) := by decide +kernel
theorem f181_58 : mFetch 181 58 = some (.iconst 4, 1, 0, 0, 0, 0) := by decide +kernel
theorem f181_59 : mFetch 181 59 = some (.ireturn, 1, 0, 0, 0, 0) := by decide +kernel
theorem f181_60 : mFetch 181 60 = some (.aload_n 0, 1, 0, 0, 0, 0) := by decide +kernel
theorem f181_61 : mFetch 181 61 = some (.ldc2_w 165, 3, 366100, 0, 0, 0) := by decide +kernel
theorem f181_64 : mFetch 181 64 = some (.invokevirtual 134, 3, 177, 0, 2, 12) := by decide +kernel
theorem f181_67 : mFetch 181 67 = some (.ifCond .eq 5, 3, 72, 0, 0, 0) := by decide +kernel
theorem f181_70 : mFetch 181 70 = some (.iconst 5, 1, 0, 0, 0, 0) := by decide +kernel
theorem f181_71 : mFetch 181 71 = some (.ireturn, 1, 0, 0, 0, 0) := by decide +kernel
theorem f181_72 : mFetch 181 72 = some (.aload_n 0, 1, 0, 0, 0, 0) := by decide +kernel
theorem f181_73 : mFetch 181 73 = some (.ldc2_w 167, 3, 211232360, 0, 0, 0) := by decide +kernel
theorem f181_76 : mFetch 181 76 = some (.invokevirtual 134, 3, 177, 0, 2, 12) := by decide +kernel
theorem f181_79 : mFetch 181 79 = some (.ifCond .eq 6, 3, 85, 0, 0, 0) := by decide +kernel
theorem f181_82 : mFetch 181 82 = some (.bipush 6, 2, 0, 0, 0, 0) := by decide +kernel
theorem f181_84 : mFetch 181 84 = some (.ireturn, 1, 0, 0, 0, 0) := by decide +kernel
theorem f181_85 : mFetch 181 85 = some (.aload_n 0, 1, 0, 0, 0, 0) := by decide +kernel
theorem f181_86 : mFetch 181 86 = some (.ldc2_w 169, 3, 769611, 0, 0, 0) := by decide +kernel
theorem f181_89 : mFetch 181 89 = some (.invokevirtual 134, 3, 177, 0, 2, 12) := by decide +kernel
theorem f181_92 : mFetch 181 92 = some (.ifCond .eq 6, 3, 98, 0, 0, 0) := by decide +kernel
theorem f181_95 : mFetch 181 95 = some (.bipush 7, 2, 0, 0, 0, 0) := by decide +kernel
theorem f181_97 : mFetch 181 97 = some (.ireturn, 1, 0, 0, 0, 0) := by decide +kernel
theorem f181_98 : mFetch 181 98 = some (.aload_n 0, 1, 0, 0, 0, 0) := by decide +kernel
theorem f181_99 : mFetch 181 99 = some (.ldc2_w 171, 3, 87673, 0, 0, 0) := by decide +kernel
theorem f181_102 : mFetch 181 102 = some (.invokevirtual 134, 3, 177, 0, 2, 12) := by decide +kernel
theorem f181_105 : mFetch 181 105 = some (.ifCond .eq 6, 3, 111, 0, 0, 0) := by decide +kernel
theorem f181_108 : mFetch 181 108 = some (.bipush 8, 2, 0, 0, 0, 0) := by decide +kernel
theorem f181_110 : mFetch 181 110 = some (.ireturn, 1, 0, 0, 0, 0) := by decide +kernel
theorem f181_111 : mFetch 181 111 = some (.aload_n 0, 1, 0, 0, 0, 0) := by decide +kernel
theorem f181_112 : mFetch 181 112 = some (.ldc2_w 173, 3, 24739718599, 0, 0, 0) := by decide +kernel
theorem f181_115 : mFetch 181 115 = some (.invokevirtual 134, 3, 177, 0, 2, 12) := by decide +kernel
theorem f181_118 : mFetch 181 118 = some (.ifCond .eq 8, 3, 126, 0, 0, 0) := by decide +kernel
theorem f181_121 : mFetch 181 121 = some (.bipush 9, 2, 0, 0, 0, 0) := by decide +kernel
theorem f181_123 : mFetch 181 123 = some (.goto 19, 3, 142, 0, 0, 0) := by decide +kernel
theorem f181_126 : mFetch 181 126 = some (.aload_n 0, 1, 0, 0, 0, 0) := by decide +kernel
theorem f181_127 : mFetch 181 127 = some (.ldc2_w 175, 3, 677454, 0, 0, 0) := by decide +kernel
theorem f181_130 : mFetch 181 130 = some (.invokevirtual 134, 3, 177, 0, 2, 12) := by decide +kernel
theorem f181_133 : mFetch 181 133 = some (.ifCond .eq 8, 3, 141, 0, 0, 0) := by decide +kernel
theorem f181_136 : mFetch 181 136 = some (.bipush 10, 2, 0, 0, 0, 0) := by decide +kernel
theorem f181_138 : mFetch 181 138 = some (.goto 4, 3, 142, 0, 0, 0) := by decide +kernel
theorem f181_141 : mFetch 181 141 = some (.iconst (-1), 1, 0, 0, 0, 0) := by decide +kernel
theorem f181_142 : mFetch 181 142 = some (.ireturn, 1, 0, 0, 0, 0) := by decide +kernel
theorem b181_0 {X : (Nat → Int) × Nat} {d : Nat} {s : mSt} {Q : mQ} (h_1 : Sp X d 177 [mR 407, mJ 3348070794885] s (fun r s' => ∃ v : Int, r = some (mI v) ∧ Wp X (d + 1) 181 7 [some (mR 407)] [mI v] s' Q)) : Wp X (d + 1) 181 0 [some (mR 407)] [] s Q := Wp_step k181 f181_0 (Wp_step k181 f181_1 (Wp_step k181 f181_4 ⟨⟨kf_407, Nat.le_of_ble_eq_true rfl⟩, Nat.le_refl _, _, rfl, Sp_E h_1⟩))
theorem b181_7 {X : (Nat → Int) × Nat} {d : Nat} {s : mSt} {Q : mQ} {xt0 : Int} (h_1 : xt0 = 0 → Wp X d 181 12 [some (mR 407)] [] s Q) (h_2 : ¬ xt0 = 0 → Wp X d 181 10 [some (mR 407)] [] s Q) : Wp X d 181 7 [some (mR 407)] [mI xt0] s Q := Wp_step k181 f181_7 ⟨h_1, h_2⟩
theorem b181_10 {X : (Nat → Int) × Nat} {d : Nat} {s : mSt} {Q : mQ} (h_1 : Q (some (mI 0)) s) : Wp X d 181 10 [some (mR 407)] [] s Q := Wp_step k181 f181_10 (Wp_step k181 f181_11 ⟨⟨rfl, trivial⟩, h_1⟩)
theorem b181_12 {X : (Nat → Int) × Nat} {d : Nat} {s : mSt} {Q : mQ} (h_1 : Sp X d 177 [mR 407, mJ 538449491] s (fun r s' => ∃ v : Int, r = some (mI v) ∧ Wp X (d + 1) 181 19 [some (mR 407)] [mI v] s' Q)) : Wp X (d + 1) 181 12 [some (mR 407)] [] s Q := Wp_step k181 f181_12 (Wp_step k181 f181_13 (Wp_step k181 f181_16 ⟨⟨kf_407, Nat.le_of_ble_eq_true rfl⟩, Nat.le_refl _, _, rfl, Sp_E h_1⟩))
theorem b181_19 {X : (Nat → Int) × Nat} {d : Nat} {s : mSt} {Q : mQ} {xt0 : Int} (h_1 : xt0 = 0 → Wp X d 181 24 [some (mR 407)] [] s Q) (h_2 : ¬ xt0 = 0 → Wp X d 181 22 [some (mR 407)] [] s Q) : Wp X d 181 19 [some (mR 407)] [mI xt0] s Q := Wp_step k181 f181_19 ⟨h_1, h_2⟩
theorem b181_22 {X : (Nat → Int) × Nat} {d : Nat} {s : mSt} {Q : mQ} (h_1 : Q (some (mI 1)) s) : Wp X d 181 22 [some (mR 407)] [] s Q := Wp_step k181 f181_22 (Wp_step k181 f181_23 ⟨⟨rfl, trivial⟩, h_1⟩)
theorem b181_24 {X : (Nat → Int) × Nat} {d : Nat} {s : mSt} {Q : mQ} (h_1 : Sp X d 177 [mR 407, mJ 6050369] s (fun r s' => ∃ v : Int, r = some (mI v) ∧ Wp X (d + 1) 181 31 [some (mR 407)] [mI v] s' Q)) : Wp X (d + 1) 181 24 [some (mR 407)] [] s Q := Wp_step k181 f181_24 (Wp_step k181 f181_25 (Wp_step k181 f181_28 ⟨⟨kf_407, Nat.le_of_ble_eq_true rfl⟩, Nat.le_refl _, _, rfl, Sp_E h_1⟩))
theorem b181_31 {X : (Nat → Int) × Nat} {d : Nat} {s : mSt} {Q : mQ} {xt0 : Int} (h_1 : xt0 = 0 → Wp X d 181 36 [some (mR 407)] [] s Q) (h_2 : ¬ xt0 = 0 → Wp X d 181 34 [some (mR 407)] [] s Q) : Wp X d 181 31 [some (mR 407)] [mI xt0] s Q := Wp_step k181 f181_31 ⟨h_1, h_2⟩
theorem b181_34 {X : (Nat → Int) × Nat} {d : Nat} {s : mSt} {Q : mQ} (h_1 : Q (some (mI 2)) s) : Wp X d 181 34 [some (mR 407)] [] s Q := Wp_step k181 f181_34 (Wp_step k181 f181_35 ⟨⟨rfl, trivial⟩, h_1⟩)
theorem b181_36 {X : (Nat → Int) × Nat} {d : Nat} {s : mSt} {Q : mQ} (h_1 : Sp X d 177 [mR 407, mJ 595572] s (fun r s' => ∃ v : Int, r = some (mI v) ∧ Wp X (d + 1) 181 43 [some (mR 407)] [mI v] s' Q)) : Wp X (d + 1) 181 36 [some (mR 407)] [] s Q := Wp_step k181 f181_36 (Wp_step k181 f181_37 (Wp_step k181 f181_40 ⟨⟨kf_407, Nat.le_of_ble_eq_true rfl⟩, Nat.le_refl _, _, rfl, Sp_E h_1⟩))
theorem b181_43 {X : (Nat → Int) × Nat} {d : Nat} {s : mSt} {Q : mQ} {xt0 : Int} (h_1 : xt0 = 0 → Wp X d 181 48 [some (mR 407)] [] s Q) (h_2 : ¬ xt0 = 0 → Wp X d 181 46 [some (mR 407)] [] s Q) : Wp X d 181 43 [some (mR 407)] [mI xt0] s Q := Wp_step k181 f181_43 ⟨h_1, h_2⟩
theorem b181_46 {X : (Nat → Int) × Nat} {d : Nat} {s : mSt} {Q : mQ} (h_1 : Q (some (mI 3)) s) : Wp X d 181 46 [some (mR 407)] [] s Q := Wp_step k181 f181_46 (Wp_step k181 f181_47 ⟨⟨rfl, trivial⟩, h_1⟩)
theorem b181_48 {X : (Nat → Int) × Nat} {d : Nat} {s : mSt} {Q : mQ} (h_1 : Sp X d 177 [mR 407, mJ 479437459] s (fun r s' => ∃ v : Int, r = some (mI v) ∧ Wp X (d + 1) 181 55 [some (mR 407)] [mI v] s' Q)) : Wp X (d + 1) 181 48 [some (mR 407)] [] s Q := Wp_step k181 f181_48 (Wp_step k181 f181_49 (Wp_step k181 f181_52 ⟨⟨kf_407, Nat.le_of_ble_eq_true rfl⟩, Nat.le_refl _, _, rfl, Sp_E h_1⟩))
theorem b181_55 {X : (Nat → Int) × Nat} {d : Nat} {s : mSt} {Q : mQ} {xt0 : Int} (h_1 : xt0 = 0 → Wp X d 181 60 [some (mR 407)] [] s Q) (h_2 : ¬ xt0 = 0 → Wp X d 181 58 [some (mR 407)] [] s Q) : Wp X d 181 55 [some (mR 407)] [mI xt0] s Q := Wp_step k181 f181_55 ⟨h_1, h_2⟩
theorem b181_58 {X : (Nat → Int) × Nat} {d : Nat} {s : mSt} {Q : mQ} (h_1 : Q (some (mI 4)) s) : Wp X d 181 58 [some (mR 407)] [] s Q := Wp_step k181 f181_58 (Wp_step k181 f181_59 ⟨⟨rfl, trivial⟩, h_1⟩)
theorem b181_60 {X : (Nat → Int) × Nat} {d : Nat} {s : mSt} {Q : mQ} (h_1 : Sp X d 177 [mR 407, mJ 366100] s (fun r s' => ∃ v : Int, r = some (mI v) ∧ Wp X (d + 1) 181 67 [some (mR 407)] [mI v] s' Q)) : Wp X (d + 1) 181 60 [some (mR 407)] [] s Q := Wp_step k181 f181_60 (Wp_step k181 f181_61 (Wp_step k181 f181_64 ⟨⟨kf_407, Nat.le_of_ble_eq_true rfl⟩, Nat.le_refl _, _, rfl, Sp_E h_1⟩))
theorem b181_67 {X : (Nat → Int) × Nat} {d : Nat} {s : mSt} {Q : mQ} {xt0 : Int} (h_1 : xt0 = 0 → Wp X d 181 72 [some (mR 407)] [] s Q) (h_2 : ¬ xt0 = 0 → Wp X d 181 70 [some (mR 407)] [] s Q) : Wp X d 181 67 [some (mR 407)] [mI xt0] s Q := Wp_step k181 f181_67 ⟨h_1, h_2⟩
theorem b181_70 {X : (Nat → Int) × Nat} {d : Nat} {s : mSt} {Q : mQ} (h_1 : Q (some (mI 5)) s) : Wp X d 181 70 [some (mR 407)] [] s Q := Wp_step k181 f181_70 (Wp_step k181 f181_71 ⟨⟨rfl, trivial⟩, h_1⟩)
theorem b181_72 {X : (Nat → Int) × Nat} {d : Nat} {s : mSt} {Q : mQ} (h_1 : Sp X d 177 [mR 407, mJ 211232360] s (fun r s' => ∃ v : Int, r = some (mI v) ∧ Wp X (d + 1) 181 79 [some (mR 407)] [mI v] s' Q)) : Wp X (d + 1) 181 72 [some (mR 407)] [] s Q := Wp_step k181 f181_72 (Wp_step k181 f181_73 (Wp_step k181 f181_76 ⟨⟨kf_407, Nat.le_of_ble_eq_true rfl⟩, Nat.le_refl _, _, rfl, Sp_E h_1⟩))
theorem b181_79 {X : (Nat → Int) × Nat} {d : Nat} {s : mSt} {Q : mQ} {xt0 : Int} (h_1 : xt0 = 0 → Wp X d 181 85 [some (mR 407)] [] s Q) (h_2 : ¬ xt0 = 0 → Wp X d 181 82 [some (mR 407)] [] s Q) : Wp X d 181 79 [some (mR 407)] [mI xt0] s Q := Wp_step k181 f181_79 ⟨h_1, h_2⟩
theorem b181_82 {X : (Nat → Int) × Nat} {d : Nat} {s : mSt} {Q : mQ} (h_1 : Q (some (mI 6)) s) : Wp X d 181 82 [some (mR 407)] [] s Q := Wp_step k181 f181_82 (Wp_step k181 f181_84 ⟨⟨rfl, trivial⟩, h_1⟩)
theorem b181_85 {X : (Nat → Int) × Nat} {d : Nat} {s : mSt} {Q : mQ} (h_1 : Sp X d 177 [mR 407, mJ 769611] s (fun r s' => ∃ v : Int, r = some (mI v) ∧ Wp X (d + 1) 181 92 [some (mR 407)] [mI v] s' Q)) : Wp X (d + 1) 181 85 [some (mR 407)] [] s Q := Wp_step k181 f181_85 (Wp_step k181 f181_86 (Wp_step k181 f181_89 ⟨⟨kf_407, Nat.le_of_ble_eq_true rfl⟩, Nat.le_refl _, _, rfl, Sp_E h_1⟩))
theorem b181_92 {X : (Nat → Int) × Nat} {d : Nat} {s : mSt} {Q : mQ} {xt0 : Int} (h_1 : xt0 = 0 → Wp X d 181 98 [some (mR 407)] [] s Q) (h_2 : ¬ xt0 = 0 → Wp X d 181 95 [some (mR 407)] [] s Q) : Wp X d 181 92 [some (mR 407)] [mI xt0] s Q := Wp_step k181 f181_92 ⟨h_1, h_2⟩
theorem b181_95 {X : (Nat → Int) × Nat} {d : Nat} {s : mSt} {Q : mQ} (h_1 : Q (some (mI 7)) s) : Wp X d 181 95 [some (mR 407)] [] s Q := Wp_step k181 f181_95 (Wp_step k181 f181_97 ⟨⟨rfl, trivial⟩, h_1⟩)
theorem b181_98 {X : (Nat → Int) × Nat} {d : Nat} {s : mSt} {Q : mQ} (h_1 : Sp X d 177 [mR 407, mJ 87673] s (fun r s' => ∃ v : Int, r = some (mI v) ∧ Wp X (d + 1) 181 105 [some (mR 407)] [mI v] s' Q)) : Wp X (d + 1) 181 98 [some (mR 407)] [] s Q := Wp_step k181 f181_98 (Wp_step k181 f181_99 (Wp_step k181 f181_102 ⟨⟨kf_407, Nat.le_of_ble_eq_true rfl⟩, Nat.le_refl _, _, rfl, Sp_E h_1⟩))
theorem b181_105 {X : (Nat → Int) × Nat} {d : Nat} {s : mSt} {Q : mQ} {xt0 : Int} (h_1 : xt0 = 0 → Wp X d 181 111 [some (mR 407)] [] s Q) (h_2 : ¬ xt0 = 0 → Wp X d 181 108 [some (mR 407)] [] s Q) : Wp X d 181 105 [some (mR 407)] [mI xt0] s Q := Wp_step k181 f181_105 ⟨h_1, h_2⟩
theorem b181_108 {X : (Nat → Int) × Nat} {d : Nat} {s : mSt} {Q : mQ} (h_1 : Q (some (mI 8)) s) : Wp X d 181 108 [some (mR 407)] [] s Q := Wp_step k181 f181_108 (Wp_step k181 f181_110 ⟨⟨rfl, trivial⟩, h_1⟩)
theorem b181_111 {X : (Nat → Int) × Nat} {d : Nat} {s : mSt} {Q : mQ} (h_1 : Sp X d 177 [mR 407, mJ 24739718599] s (fun r s' => ∃ v : Int, r = some (mI v) ∧ Wp X (d + 1) 181 118 [some (mR 407)] [mI v] s' Q)) : Wp X (d + 1) 181 111 [some (mR 407)] [] s Q := Wp_step k181 f181_111 (Wp_step k181 f181_112 (Wp_step k181 f181_115 ⟨⟨kf_407, Nat.le_of_ble_eq_true rfl⟩, Nat.le_refl _, _, rfl, Sp_E h_1⟩))
theorem b181_118 {X : (Nat → Int) × Nat} {d : Nat} {s : mSt} {Q : mQ} {xt0 : Int} (h_1 : xt0 = 0 → Wp X d 181 126 [some (mR 407)] [] s Q) (h_2 : ¬ xt0 = 0 → Wp X d 181 121 [some (mR 407)] [] s Q) : Wp X d 181 118 [some (mR 407)] [mI xt0] s Q := Wp_step k181 f181_118 ⟨h_1, h_2⟩
theorem b181_121 {X : (Nat → Int) × Nat} {d : Nat} {s : mSt} {Q : mQ} (h_1 : Wp X d 181 142 [some (mR 407)] [mI 9] s Q) : Wp X d 181 121 [some (mR 407)] [] s Q := Wp_step k181 f181_121 (Wp_step k181 f181_123 (h_1))
theorem b181_126 {X : (Nat → Int) × Nat} {d : Nat} {s : mSt} {Q : mQ} (h_1 : Sp X d 177 [mR 407, mJ 677454] s (fun r s' => ∃ v : Int, r = some (mI v) ∧ Wp X (d + 1) 181 133 [some (mR 407)] [mI v] s' Q)) : Wp X (d + 1) 181 126 [some (mR 407)] [] s Q := Wp_step k181 f181_126 (Wp_step k181 f181_127 (Wp_step k181 f181_130 ⟨⟨kf_407, Nat.le_of_ble_eq_true rfl⟩, Nat.le_refl _, _, rfl, Sp_E h_1⟩))
theorem b181_133 {X : (Nat → Int) × Nat} {d : Nat} {s : mSt} {Q : mQ} {xt0 : Int} (h_1 : xt0 = 0 → Wp X d 181 141 [some (mR 407)] [] s Q) (h_2 : ¬ xt0 = 0 → Wp X d 181 136 [some (mR 407)] [] s Q) : Wp X d 181 133 [some (mR 407)] [mI xt0] s Q := Wp_step k181 f181_133 ⟨h_1, h_2⟩
theorem b181_136 {X : (Nat → Int) × Nat} {d : Nat} {s : mSt} {Q : mQ} (h_1 : Wp X d 181 142 [some (mR 407)] [mI 10] s Q) : Wp X d 181 136 [some (mR 407)] [] s Q := Wp_step k181 f181_136 (Wp_step k181 f181_138 (h_1))
theorem b181_141 {X : (Nat → Int) × Nat} {d : Nat} {s : mSt} {Q : mQ} (h_1 : Wp X d 181 142 [some (mR 407)] [mI (-1)] s Q) : Wp X d 181 141 [some (mR 407)] [] s Q := Wp_step k181 f181_141 (h_1)
theorem b181_142 {X : (Nat → Int) × Nat} {d : Nat} {s : mSt} {Q : mQ} {xt0 : Int} (h_1 : Q (some (mI xt0)) s) : Wp X d 181 142 [some (mR 407)] [mI xt0] s Q := Wp_step k181 f181_142 ⟨⟨rfl, trivial⟩, h_1⟩
theorem e181 {X : (Nat → Int) × Nat} {d : Nat} {s : mSt} {Q : mQ} (h : Wp X d 181 0 [some (mR 407)] [] s Q) : Sp X d 181 [mR 407] s Q := Sp_of (show mCe 181 = 0 by decide +kernel) (by rw [show mML 181 = 1 by decide +kernel]; rfl) (Nat.le_trans (Nat.le_of_ble_eq_true (show Nat.ble (mArgs _).length 1 = true from rfl)) (show 1 ≤ mML 181 by decide +kernel)) h
-- 182 ClashDayModel.puts(II)V
theorem k182 : mRk 182 = 0 := by decide +kernel
theorem f182_0 : mFetch 182 0 = some (.aload_n 0, 1, 0, 0, 0, 0) := by decide +kernel
theorem f182_1 : mFetch 182 1 = some (.getfield 13, 3, 12, 3, 2, 1) := by decide +kernel
theorem f182_4 : mFetch 182 4 = some (.sipush 400, 3, 0, 0, 0, 0) := by decide +kernel
theorem f182_7 : mFetch 182 7 = some (.aload_n 0, 1, 0, 0, 0, 0) := by decide +kernel
theorem f182_8 : mFetch 182 8 = some (.getfield 177, 3, 12, 11, 0, 1) := by decide +kernel
theorem f182_11 : mFetch 182 11 = some (.imul, 1, 0, 0, 0, 0) := by decide +kernel
theorem f182_12 : mFetch 182 12 = some (.aload_n 0, 1, 0, 0, 0, 0) := by decide +kernel
theorem f182_13 : mFetch 182 13 = some (.getfield 17, 3, 12, 4, 2, 1) := by decide +kernel
theorem f182_16 : mFetch 182 16 = some (.aload_n 0, 1, 0, 0, 0, 0) := by decide +kernel
theorem f182_17 : mFetch 182 17 = some (.getfield 177, 3, 12, 11, 0, 1) := by decide +kernel
theorem f182_20 : mFetch 182 20 = some (.iaload, 1, 0, 0, 0, 0) := by decide +kernel
theorem f182_21 : mFetch 182 21 = some (.iadd, 1, 0, 0, 0, 0) := by decide +kernel
theorem f182_22 : mFetch 182 22 = some (.iload_n 1, 1, 0, 0, 0, 0) := by decide +kernel
theorem f182_23 : mFetch 182 23 = some (.bipush 16, 2, 0, 0, 0, 0) := by decide +kernel
theorem f182_25 : mFetch 182 25 = some (.iload_n 2, 1, 0, 0, 0, 0) := by decide +kernel
theorem f182_26 : mFetch 182 26 = some (.imul, 1, 0, 0, 0, 0) := by decide +kernel
theorem f182_27 : mFetch 182 27 = some (.iadd, 1, 0, 0, 0, 0) := by decide +kernel
theorem f182_28 : mFetch 182 28 = some (.iastore, 1, 0, 0, 0, 0) := by decide +kernel
theorem f182_29 : mFetch 182 29 = some (.aload_n 0, 1, 0, 0, 0, 0) := by decide +kernel
theorem f182_30 : mFetch 182 30 = some (.getfield 17, 3, 12, 4, 2, 1) := by decide +kernel
theorem f182_33 : mFetch 182 33 = some (.aload_n 0, 1, 0, 0, 0, 0) := by decide +kernel
theorem f182_34 : mFetch 182 34 = some (.getfield 177, 3, 12, 11, 0, 1) := by decide +kernel
theorem f182_37 : mFetch 182 37 = some (.dup2, 1, 0, 0, 0, 0) := by decide +kernel
theorem f182_38 : mFetch 182 38 = some (.iaload, 1, 0, 0, 0, 0) := by decide +kernel
theorem f182_39 : mFetch 182 39 = some (.iconst 1, 1, 0, 0, 0, 0) := by decide +kernel
theorem f182_40 : mFetch 182 40 = some (.iadd, 1, 0, 0, 0, 0) := by decide +kernel
theorem f182_41 : mFetch 182 41 = some (.iastore, 1, 0, 0, 0, 0) := by decide +kernel
theorem f182_42 : mFetch 182 42 = some (.return_, 1, 0, 0, 0, 0) := by decide +kernel
theorem b182_0 {X : (Nat → Int) × Nat} {d : Nat} {s : mSt} {Q : mQ} {x1 : Int} {x2 : Int} (h_1 : 0 ≤ (s 407 11) ∧ (s 407 11) < 7) (h_2 : 0 ≤ (w32 ((w32 (400 * (s 407 11))) + (s 410 (s 407 11).toNat))) ∧ (w32 ((w32 (400 * (s 407 11))) + (s 410 (s 407 11).toNat))) < 2400) (h_3 : 0 ≤ ((uS s 409 ((w32 ((w32 (400 * (s 407 11))) + (s 410 (s 407 11).toNat))).toNat) (w32 (x1 + (w32 (16 * x2))))) 407 11) ∧ ((uS s 409 ((w32 ((w32 (400 * (s 407 11))) + (s 410 (s 407 11).toNat))).toNat) (w32 (x1 + (w32 (16 * x2))))) 407 11) < 7) (h_4 : 0 ≤ ((uS s 409 ((w32 ((w32 (400 * (s 407 11))) + (s 410 (s 407 11).toNat))).toNat) (w32 (x1 + (w32 (16 * x2))))) 407 11) ∧ ((uS s 409 ((w32 ((w32 (400 * (s 407 11))) + (s 410 (s 407 11).toNat))).toNat) (w32 (x1 + (w32 (16 * x2))))) 407 11) < 7) (h_5 : Q none (uS (uS s 409 ((w32 ((w32 (400 * (s 407 11))) + (s 410 (s 407 11).toNat))).toNat) (w32 (x1 + (w32 (16 * x2))))) 410 (((uS s 409 ((w32 ((w32 (400 * (s 407 11))) + (s 410 (s 407 11).toNat))).toNat) (w32 (x1 + (w32 (16 * x2))))) 407 11).toNat) (w32 (((uS s 409 ((w32 ((w32 (400 * (s 407 11))) + (s 410 (s 407 11).toNat))).toNat) (w32 (x1 + (w32 (16 * x2))))) 410 ((uS s 409 ((w32 ((w32 (400 * (s 407 11))) + (s 410 (s 407 11).toNat))).toNat) (w32 (x1 + (w32 (16 * x2))))) 407 11).toNat) + 1)))) : Wp X d 182 0 [some (mR 407), some (mI x1), some (mI x2)] [] s Q := Wp_step k182 f182_0 (Wp_step k182 f182_1 ⟨kf_407, 409, rf_407_3, Wp_step k182 f182_4 (Wp_step k182 f182_7 (Wp_step k182 f182_8 ⟨kf_407, Wp_step k182 f182_11 (Wp_step k182 f182_12 (Wp_step k182 f182_13 ⟨kf_407, 410, rf_407_4, Wp_step k182 f182_16 (Wp_step k182 f182_17 ⟨kf_407, Wp_step k182 f182_20 ⟨7, af_410, h_1, Wp_step k182 f182_21 (Wp_step k182 f182_22 (Wp_step k182 f182_23 (Wp_step k182 f182_25 (Wp_step k182 f182_26 (Wp_step k182 f182_27 (Wp_step k182 f182_28 ⟨2400, af_409, h_2, Wp_step k182 f182_29 (Wp_step k182 f182_30 ⟨kf_407, 410, rf_407_4, Wp_step k182 f182_33 (Wp_step k182 f182_34 ⟨kf_407, Wp_step k182 f182_37 (Wp_step k182 f182_38 ⟨7, af_410, h_3, Wp_step k182 f182_39 (Wp_step k182 f182_40 (Wp_step k182 f182_41 ⟨7, af_410, h_4, Wp_step k182 f182_42 ⟨⟨rfl, Or.inl rfl⟩, h_5⟩⟩))⟩)⟩)⟩)⟩))))))⟩⟩)⟩))⟩))⟩)
theorem e182 {X : (Nat → Int) × Nat} {d : Nat} {s : mSt} {Q : mQ} {x1 : Int} {x2 : Int} (h : Wp X d 182 0 [some (mR 407), some (mI x1), some (mI x2)] [] s Q) : Sp X d 182 [mR 407, mI x1, mI x2] s Q := Sp_of (show mCe 182 = 0 by decide +kernel) (by rw [show mML 182 = 3 by decide +kernel]; rfl) (Nat.le_trans (Nat.le_of_ble_eq_true (show Nat.ble (mArgs _).length 3 = true from rfl)) (show 3 ≤ mML 182 by decide +kernel)) h
-- 183 ClashDayModel.makes(I)Z
theorem k183 : mRk 183 = 2 := by decide +kernel
theorem f183_0 : mFetch 183 0 = some (.aload_n 0, 1, 0, 0, 0, 0) := by decide +kernel
theorem f183_1 : mFetch 183 1 = some (.getfield 180, 3, 12, 12, 0, 1) := by decide +kernel
theorem f183_4 : mFetch 183 4 = some (.bipush 60, 2, 0, 0, 0, 0) := by decide +kernel
theorem f183_6 : mFetch 183 6 = some (.if_icmp .ne 10, 3, 16, 0, 0, 0) := by decide +kernel
theorem f183_9 : mFetch 183 9 = some (.aload_n 0, 1, 0, 0, 0, 0) := by decide +kernel
theorem f183_10 : mFetch 183 10 = some (.iconst 3, 1, 0, 0, 0, 0) := by decide +kernel
theorem f183_11 : mFetch 183 11 = some (.iload_n 1, 1, 0, 0, 0, 0) := by decide +kernel
theorem f183_12 : mFetch 183 12 = some (.invokevirtual 144, 3, 173, 0, 3, 12) := by decide +kernel
theorem f183_15 : mFetch 183 15 = some (.ireturn, 1, 0, 0, 0, 0) := by decide +kernel
theorem f183_16 : mFetch 183 16 = some (.aload_n 0, 1, 0, 0, 0, 0) := by decide +kernel
theorem f183_17 : mFetch 183 17 = some (.dup, 1, 0, 0, 0, 0) := by decide +kernel
theorem f183_18 : mFetch 183 18 = some (.getfield 180, 3, 12, 12, 0, 1) := by decide +kernel
theorem f183_21 : mFetch 183 21 = some (.iconst 1, 1, 0, 0, 0, 0) := by decide +kernel
theorem f183_22 : mFetch 183 22 = some (.iadd, 1, 0, 0, 0, 0) := by decide +kernel
theorem f183_23 : mFetch 183 23 = some (.putfield 180, 3, 12, 12, 0, 1) := by decide +kernel
theorem f183_26 : mFetch 183 26 = some (.iconst 1, 1, 0, 0, 0, 0) := by decide +kernel
theorem f183_27 : mFetch 183 27 = some (.ireturn, 1, 0, 0, 0, 0) := by decide +kernel
theorem b183_0 {X : (Nat → Int) × Nat} {d : Nat} {s : mSt} {Q : mQ} {x1 : Int} (h_1 : ¬ (s 407 12) = 60 → Wp X d 183 16 [some (mR 407), some (mI x1)] [] s Q) (h_2 : (s 407 12) = 60 → Wp X d 183 9 [some (mR 407), some (mI x1)] [] s Q) : Wp X d 183 0 [some (mR 407), some (mI x1)] [] s Q := Wp_step k183 f183_0 (Wp_step k183 f183_1 ⟨kf_407, Wp_step k183 f183_4 (Wp_step k183 f183_6 ⟨h_1, h_2⟩)⟩)
theorem b183_9 {X : (Nat → Int) × Nat} {d : Nat} {s : mSt} {Q : mQ} {x1 : Int} (h_1 : Sp X d 173 [mR 407, mI 3, mI x1] s (fun r s' => ∃ v : Int, r = some (mI v) ∧ Wp X (d + 1) 183 15 [some (mR 407), some (mI x1)] [mI v] s' Q)) : Wp X (d + 1) 183 9 [some (mR 407), some (mI x1)] [] s Q := Wp_step k183 f183_9 (Wp_step k183 f183_10 (Wp_step k183 f183_11 (Wp_step k183 f183_12 ⟨⟨kf_407, Nat.le_of_ble_eq_true rfl⟩, Nat.le_refl _, _, rfl, Sp_E h_1⟩)))
theorem b183_15 {X : (Nat → Int) × Nat} {d : Nat} {s : mSt} {Q : mQ} {x1 : Int} {xt0 : Int} (h_1 : Q (some (mI xt0)) s) (h_2 : xt0 = 0 ∨ xt0 = 1) : Wp X d 183 15 [some (mR 407), some (mI x1)] [mI xt0] s Q := Wp_step k183 f183_15 ⟨⟨rfl, h_2⟩, h_1⟩
theorem b183_16 {X : (Nat → Int) × Nat} {d : Nat} {s : mSt} {Q : mQ} {x1 : Int} (h_1 : Q (some (mI 1)) (uS s 407 12 (w32 ((s 407 12) + 1)))) : Wp X d 183 16 [some (mR 407), some (mI x1)] [] s Q := Wp_step k183 f183_16 (Wp_step k183 f183_17 (Wp_step k183 f183_18 ⟨kf_407, Wp_step k183 f183_21 (Wp_step k183 f183_22 (Wp_step k183 f183_23 ⟨kf_407, Wp_step k183 f183_26 (Wp_step k183 f183_27 ⟨⟨rfl, (Or.inr rfl)⟩, h_1⟩)⟩))⟩))
theorem e183 {X : (Nat → Int) × Nat} {d : Nat} {s : mSt} {Q : mQ} {x1 : Int} (h : Wp X d 183 0 [some (mR 407), some (mI x1)] [] s Q) : Sp X d 183 [mR 407, mI x1] s Q := Sp_of (show mCe 183 = 0 by decide +kernel) (by rw [show mML 183 = 2 by decide +kernel]; rfl) (Nat.le_trans (Nat.le_of_ble_eq_true (show Nat.ble (mArgs _).length 2 = true from rfl)) (show 2 ≤ mML 183 by decide +kernel)) h
-- 184 ClashDayModel.opens(I)Z
theorem k184 : mRk 184 = 2 := by decide +kernel
theorem f184_0 : mFetch 184 0 = some (.aload_n 0, 1, 0, 0, 0, 0) := by decide +kernel
theorem f184_1 : mFetch 184 1 = some (.getfield 183, 3, 12, 13, 0, 1) := by decide +kernel
theorem f184_4 : mFetch 184 4 = some (.bipush 10, 2, 0, 0, 0, 0) := by decide +kernel
theorem f184_6 : mFetch 184 6 = some (.if_icmp .ne 13, 3, 19, 0, 0, 0) := by decide +kernel
theorem f184_9 : mFetch 184 9 = some (.aload_n 0, 1, 0, 0, 0, 0) := by decide +kernel
theorem f184_10 : mFetch 184 10 = some (.iconst 2, 1, 0, 0, 0, 0) := by decide +kernel
theorem f184_11 : mFetch 184 11 = some (.aload_n 0, 1, 0, 0, 0, 0) := by decide +kernel
theorem f184_12 : mFetch 184 12 = some (.getfield 123, 3, 12, 8, 0, 1) := by decide +kernel
theorem f184_15 : mFetch 184 15 = some (.invokevirtual 144, 3, 173, 0, 3, 12) := by decide +kernel
theorem f184_18 : mFetch 184 18 = some (.ireturn, 1, 0, 0, 0, 0) := by decide +kernel
theorem f184_19 : mFetch 184 19 = some (.aload_n 0, 1, 0, 0, 0, 0) := by decide +kernel
theorem f184_20 : mFetch 184 20 = some (.dup, 1, 0, 0, 0, 0) := by decide +kernel
theorem f184_21 : mFetch 184 21 = some (.getfield 183, 3, 12, 13, 0, 1) := by decide +kernel
theorem f184_24 : mFetch 184 24 = some (.iconst 1, 1, 0, 0, 0, 0) := by decide +kernel
theorem f184_25 : mFetch 184 25 = some (.iadd, 1, 0, 0, 0, 0) := by decide +kernel
theorem f184_26 : mFetch 184 26 = some (.putfield 183, 3, 12, 13, 0, 1) := by decide +kernel
theorem f184_29 : mFetch 184 29 = some (.aload_n 0, 1, 0, 0, 0, 0) := by decide +kernel
theorem f184_30 : mFetch 184 30 = some (.getfield 29, 3, 12, 15, 2, 1) := by decide +kernel
theorem f184_33 : mFetch 184 33 = some (.aload_n 0, 1, 0, 0, 0, 0) := by decide +kernel
theorem f184_34 : mFetch 184 34 = some (.getfield 186, 3, 12, 16, 0, 1) := by decide +kernel
theorem f184_37 : mFetch 184 37 = some (.iload_n 1, 1, 0, 0, 0, 0) := by decide +kernel
theorem f184_38 : mFetch 184 38 = some (.iastore, 1, 0, 0, 0, 0) := by decide +kernel
theorem f184_39 : mFetch 184 39 = some (.aload_n 0, 1, 0, 0, 0, 0) := by decide +kernel
theorem f184_40 : mFetch 184 40 = some (.dup, 1, 0, 0, 0, 0) := by decide +kernel
theorem f184_41 : mFetch 184 41 = some (.getfield 186, 3, 12, 16, 0, 1) := by decide +kernel
theorem f184_44 : mFetch 184 44 = some (.iconst 1, 1, 0, 0, 0, 0) := by decide +kernel
theorem f184_45 : mFetch 184 45 = some (.iadd, 1, 0, 0, 0, 0) := by decide +kernel
theorem f184_46 : mFetch 184 46 = some (.putfield 186, 3, 12, 16, 0, 1) := by decide +kernel
theorem f184_49 : mFetch 184 49 = some (.iconst 1, 1, 0, 0, 0, 0) := by decide +kernel
theorem f184_50 : mFetch 184 50 = some (.ireturn, 1, 0, 0, 0, 0) := by decide +kernel
theorem b184_0 {X : (Nat → Int) × Nat} {d : Nat} {s : mSt} {Q : mQ} {x1 : Int} (h_1 : ¬ (s 407 13) = 10 → Wp X d 184 19 [some (mR 407), some (mI x1)] [] s Q) (h_2 : (s 407 13) = 10 → Wp X d 184 9 [some (mR 407), some (mI x1)] [] s Q) : Wp X d 184 0 [some (mR 407), some (mI x1)] [] s Q := Wp_step k184 f184_0 (Wp_step k184 f184_1 ⟨kf_407, Wp_step k184 f184_4 (Wp_step k184 f184_6 ⟨h_1, h_2⟩)⟩)
theorem b184_9 {X : (Nat → Int) × Nat} {d : Nat} {s : mSt} {Q : mQ} {x1 : Int} (h_1 : Sp X d 173 [mR 407, mI 2, mI (s 407 8)] s (fun r s' => ∃ v : Int, r = some (mI v) ∧ Wp X (d + 1) 184 18 [some (mR 407), some (mI x1)] [mI v] s' Q)) : Wp X (d + 1) 184 9 [some (mR 407), some (mI x1)] [] s Q := Wp_step k184 f184_9 (Wp_step k184 f184_10 (Wp_step k184 f184_11 (Wp_step k184 f184_12 ⟨kf_407, Wp_step k184 f184_15 ⟨⟨kf_407, Nat.le_of_ble_eq_true rfl⟩, Nat.le_refl _, _, rfl, Sp_E h_1⟩⟩)))
theorem b184_18 {X : (Nat → Int) × Nat} {d : Nat} {s : mSt} {Q : mQ} {x1 : Int} {xt0 : Int} (h_1 : Q (some (mI xt0)) s) (h_2 : xt0 = 0 ∨ xt0 = 1) : Wp X d 184 18 [some (mR 407), some (mI x1)] [mI xt0] s Q := Wp_step k184 f184_18 ⟨⟨rfl, h_2⟩, h_1⟩
theorem b184_19 {X : (Nat → Int) × Nat} {d : Nat} {s : mSt} {Q : mQ} {x1 : Int} (h_1 : 0 ≤ ((uS s 407 13 (w32 ((s 407 13) + 1))) 407 16) ∧ ((uS s 407 13 (w32 ((s 407 13) + 1))) 407 16) < 400) (h_2 : Q (some (mI 1)) (uS (uS (uS s 407 13 (w32 ((s 407 13) + 1))) 414 (((uS s 407 13 (w32 ((s 407 13) + 1))) 407 16).toNat) x1) 407 16 (w32 (((uS (uS s 407 13 (w32 ((s 407 13) + 1))) 414 (((uS s 407 13 (w32 ((s 407 13) + 1))) 407 16).toNat) x1) 407 16) + 1)))) : Wp X d 184 19 [some (mR 407), some (mI x1)] [] s Q := Wp_step k184 f184_19 (Wp_step k184 f184_20 (Wp_step k184 f184_21 ⟨kf_407, Wp_step k184 f184_24 (Wp_step k184 f184_25 (Wp_step k184 f184_26 ⟨kf_407, Wp_step k184 f184_29 (Wp_step k184 f184_30 ⟨kf_407, 414, rf_407_15, Wp_step k184 f184_33 (Wp_step k184 f184_34 ⟨kf_407, Wp_step k184 f184_37 (Wp_step k184 f184_38 ⟨400, af_414, h_1, Wp_step k184 f184_39 (Wp_step k184 f184_40 (Wp_step k184 f184_41 ⟨kf_407, Wp_step k184 f184_44 (Wp_step k184 f184_45 (Wp_step k184 f184_46 ⟨kf_407, Wp_step k184 f184_49 (Wp_step k184 f184_50 ⟨⟨rfl, (Or.inr rfl)⟩, h_2⟩)⟩))⟩))⟩)⟩)⟩)⟩))⟩))
theorem e184 {X : (Nat → Int) × Nat} {d : Nat} {s : mSt} {Q : mQ} {x1 : Int} (h : Wp X d 184 0 [some (mR 407), some (mI x1)] [] s Q) : Sp X d 184 [mR 407, mI x1] s Q := Sp_of (show mCe 184 = 0 by decide +kernel) (by rw [show mML 184 = 2 by decide +kernel]; rfl) (Nat.le_trans (Nat.le_of_ble_eq_true (show Nat.ble (mArgs _).length 2 = true from rfl)) (show 2 ≤ mML 184 by decide +kernel)) h
-- 185 ClashDayModel.strength(I)I
theorem k185 : mRk 185 = 1 := by decide +kernel
theorem f185_0 : mFetch 185 0 = some (.iload_n 0, 1, 0, 0, 0, 0) := by decide +kernel
theorem f185_1 : mFetch 185 1 = some (.bipush 13, 2, 0, 0, 0, 0) := by decide +kernel
theorem f185_3 : mFetch 185 3 = some (.if_icmp .ne 7, 3, 10, 0, 0, 0) := by decide +kernel
theorem f185_6 : mFetch 185 6 = some (.iconst 1, 1, 0, 0, 0, 0) := by decide +kernel
theorem f185_7 : mFetch 185 7 = some (.goto 24, 3, 31, 0, 0, 0) := by decide +kernel
theorem f185_10 : mFetch 185 10 = some (.iload_n 0, 1, 0, 0, 0, 0) := by decide +kernel
theorem f185_11 : mFetch 185 11 = some (.bipush 12, 2, 0, 0, 0, 0) := by decide +kernel
theorem f185_13 : mFetch 185 13 = some (.if_icmp .ne 7, 3, 20, 0, 0, 0) := by decide +kernel
theorem f185_16 : mFetch 185 16 = some (.iconst 2, 1, 0, 0, 0, 0) := by decide +kernel
theorem f185_17 : mFetch 185 17 = some (.goto 14, 3, 31, 0, 0, 0) := by decide +kernel
theorem f185_20 : mFetch 185 20 = some (.iload_n 0, 1, 0, 0, 0, 0) := by decide +kernel
theorem f185_21 : mFetch 185 21 = some (.bipush 11, 2, 0, 0, 0, 0) := by decide +kernel
theorem f185_23 : mFetch 185 23 = some (.if_icmp .ne 7, 3, 30, 0, 0, 0) := by decide +kernel
theorem f185_26 : mFetch 185 26 = some (.iconst 3, 1, 0, 0, 0, 0) := by decide +kernel
theorem f185_27 : mFetch 185 27 = some (.goto 4, 3, 31, 0, 0, 0) := by decide +kernel
theorem f185_30 : mFetch 185 30 = some (.iconst 0, 1, 0, 0, 0, 0) := by decide +kernel
theorem f185_31 : mFetch 185 31 = some (.ireturn, 1, 0, 0, 0, 0) := by decide +kernel
theorem b185_0 {X : (Nat → Int) × Nat} {d : Nat} {s : mSt} {Q : mQ} {x0 : Int} (h_1 : ¬ x0 = 13 → Wp X d 185 10 [some (mI x0)] [] s Q) (h_2 : x0 = 13 → Wp X d 185 6 [some (mI x0)] [] s Q) : Wp X d 185 0 [some (mI x0)] [] s Q := Wp_step k185 f185_0 (Wp_step k185 f185_1 (Wp_step k185 f185_3 ⟨h_1, h_2⟩))
theorem b185_6 {X : (Nat → Int) × Nat} {d : Nat} {s : mSt} {Q : mQ} {x0 : Int} (h_1 : Wp X d 185 31 [some (mI x0)] [mI 1] s Q) : Wp X d 185 6 [some (mI x0)] [] s Q := Wp_step k185 f185_6 (Wp_step k185 f185_7 (h_1))
theorem b185_10 {X : (Nat → Int) × Nat} {d : Nat} {s : mSt} {Q : mQ} {x0 : Int} (h_1 : ¬ x0 = 12 → Wp X d 185 20 [some (mI x0)] [] s Q) (h_2 : x0 = 12 → Wp X d 185 16 [some (mI x0)] [] s Q) : Wp X d 185 10 [some (mI x0)] [] s Q := Wp_step k185 f185_10 (Wp_step k185 f185_11 (Wp_step k185 f185_13 ⟨h_1, h_2⟩))
theorem b185_16 {X : (Nat → Int) × Nat} {d : Nat} {s : mSt} {Q : mQ} {x0 : Int} (h_1 : Wp X d 185 31 [some (mI x0)] [mI 2] s Q) : Wp X d 185 16 [some (mI x0)] [] s Q := Wp_step k185 f185_16 (Wp_step k185 f185_17 (h_1))
theorem b185_20 {X : (Nat → Int) × Nat} {d : Nat} {s : mSt} {Q : mQ} {x0 : Int} (h_1 : ¬ x0 = 11 → Wp X d 185 30 [some (mI x0)] [] s Q) (h_2 : x0 = 11 → Wp X d 185 26 [some (mI x0)] [] s Q) : Wp X d 185 20 [some (mI x0)] [] s Q := Wp_step k185 f185_20 (Wp_step k185 f185_21 (Wp_step k185 f185_23 ⟨h_1, h_2⟩))
theorem b185_26 {X : (Nat → Int) × Nat} {d : Nat} {s : mSt} {Q : mQ} {x0 : Int} (h_1 : Wp X d 185 31 [some (mI x0)] [mI 3] s Q) : Wp X d 185 26 [some (mI x0)] [] s Q := Wp_step k185 f185_26 (Wp_step k185 f185_27 (h_1))
theorem b185_30 {X : (Nat → Int) × Nat} {d : Nat} {s : mSt} {Q : mQ} {x0 : Int} (h_1 : Wp X d 185 31 [some (mI x0)] [mI 0] s Q) : Wp X d 185 30 [some (mI x0)] [] s Q := Wp_step k185 f185_30 (h_1)
theorem b185_31 {X : (Nat → Int) × Nat} {d : Nat} {s : mSt} {Q : mQ} {x0 : Int} {xt0 : Int} (h_1 : Q (some (mI xt0)) s) : Wp X d 185 31 [some (mI x0)] [mI xt0] s Q := Wp_step k185 f185_31 ⟨⟨rfl, trivial⟩, h_1⟩
theorem e185 {X : (Nat → Int) × Nat} {d : Nat} {s : mSt} {Q : mQ} {x0 : Int} (h : Wp X d 185 0 [some (mI x0)] [] s Q) : Sp X d 185 [mI x0] s Q := Sp_of (show mCe 185 = 0 by decide +kernel) (by rw [show mML 185 = 1 by decide +kernel]; rfl) (Nat.le_trans (Nat.le_of_ble_eq_true (show Nat.ble (mArgs _).length 1 = true from rfl)) (show 1 ≤ mML 185 by decide +kernel)) h
-- 186 ClashDayModel.layDown(I)V
theorem k186 : mRk 186 = 0 := by decide +kernel
theorem f186_0 : mFetch 186 0 = some (.aload_n 0, 1, 0, 0, 0, 0) := by decide +kernel
theorem f186_1 : mFetch 186 1 = some (.getfield 186, 3, 12, 16, 0, 1) := by decide +kernel
theorem f186_4 : mFetch 186 4 = some (.ifCond .le 72, 3, 76, 0, 0, 0) := by decide +kernel
theorem f186_7 : mFetch 186 7 = some (.aload_n 0, 1, 0, 0, 0, 0) := by decide +kernel
theorem f186_8 : mFetch 186 8 = some (.getfield 29, 3, 12, 15, 2, 1) := by decide +kernel
theorem f186_11 : mFetch 186 11 = some (.aload_n 0, 1, 0, 0, 0, 0) := by decide +kernel
theorem f186_12 : mFetch 186 12 = some (.getfield 186, 3, 12, 16, 0, 1) := by decide +kernel
theorem f186_15 : mFetch 186 15 = some (.iconst 1, 1, 0, 0, 0, 0) := by decide +kernel
theorem f186_16 : mFetch 186 16 = some (.isub, 1, 0, 0, 0, 0) := by decide +kernel
theorem f186_17 : mFetch 186 17 = some (.iaload, 1, 0, 0, 0, 0) := by decide +kernel
theorem f186_18 : mFetch 186 18 = some (.invokestatic 189, 3, 185, 0, 1, 99) := by decide +kernel
theorem f186_21 : mFetch 186 21 = some (.iload_n 1, 1, 0, 0, 0, 0) := by decide +kernel
theorem f186_22 : mFetch 186 22 = some (.if_icmp .lt 54, 3, 76, 0, 0, 0) := by decide +kernel
theorem f186_25 : mFetch 186 25 = some (.aload_n 0, 1, 0, 0, 0, 0) := by decide +kernel
theorem f186_26 : mFetch 186 26 = some (.dup, 1, 0, 0, 0, 0) := by decide +kernel
theorem f186_27 : mFetch 186 27 = some (.getfield 186, 3, 12, 16, 0, 1) := by decide +kernel
theorem f186_30 : mFetch 186 30 = some (.iconst 1, 1, 0, 0, 0, 0) := by decide +kernel
theorem f186_31 : mFetch 186 31 = some (.isub, 1, 0, 0, 0, 0) := by decide +kernel
theorem f186_32 : mFetch 186 32 = some (.putfield 186, 3, 12, 16, 0, 1) := by decide +kernel
theorem f186_35 : mFetch 186 35 = some (.aload_n 0, 1, 0, 0, 0, 0) := by decide +kernel
theorem f186_36 : mFetch 186 36 = some (.aload_n 0, 1, 0, 0, 0, 0) := by decide +kernel
theorem f186_37 : mFetch 186 37 = some (.getfield 29, 3, 12, 15, 2, 1) := by decide +kernel
theorem f186_40 : mFetch 186 40 = some (.aload_n 0, 1, 0, 0, 0, 0) := by decide +kernel
theorem f186_41 : mFetch 186 41 = some (.getfield 186, 3, 12, 16, 0, 1) := by decide +kernel
theorem f186_44 : mFetch 186 44 = some (.iaload, 1, 0, 0, 0, 0) := by decide +kernel
theorem f186_45 : mFetch 186 45 = some (.iconst 0, 1, 0, 0, 0, 0) := by decide +kernel
theorem f186_46 : mFetch 186 46 = some (.invokevirtual 193, 3, 182, 0, 3, 12) := by decide +kernel
theorem f186_49 : mFetch 186 49 = some (.aload_n 0, 1, 0, 0, 0, 0) := by decide +kernel
theorem f186_50 : mFetch 186 50 = some (.getfield 29, 3, 12, 15, 2, 1) := by decide +kernel
theorem f186_53 : mFetch 186 53 = some (.aload_n 0, 1, 0, 0, 0, 0) := by decide +kernel
theorem f186_54 : mFetch 186 54 = some (.getfield 186, 3, 12, 16, 0, 1) := by decide +kernel
theorem f186_57 : mFetch 186 57 = some (.iaload, 1, 0, 0, 0, 0) := by decide +kernel
theorem f186_58 : mFetch 186 58 = some (.bipush 11, 2, 0, 0, 0, 0) := by decide +kernel
theorem f186_60 : mFetch 186 60 = some (.if_icmp .ne (-60), 3, 0, 0, 0, 0) := by decide +kernel
theorem f186_63 : mFetch 186 63 = some (.aload_n 0, 1, 0, 0, 0, 0) := by decide +kernel
theorem f186_64 : mFetch 186 64 = some (.dup, 1, 0, 0, 0, 0) := by decide +kernel
theorem f186_65 : mFetch 186 65 = some (.getfield 183, 3, 12, 13, 0, 1) := by decide +kernel
theorem f186_68 : mFetch 186 68 = some (.iconst 1, 1, 0, 0, 0, 0) := by decide +kernel
theorem f186_69 : mFetch 186 69 = some (.isub, 1, 0, 0, 0, 0) := by decide +kernel
theorem f186_70 : mFetch 186 70 = some (.putfield 183, 3, 12, 13, 0, 1) := by decide +kernel
theorem f186_73 : mFetch 186 73 = some (.goto (-73), 3, 0, 0, 0, 0) := by decide +kernel
theorem f186_76 : mFetch 186 76 = some (.return_, 1, 0, 0, 0, 0) := by decide +kernel
theorem b186_0 {X : (Nat → Int) × Nat} {d : Nat} {s : mSt} {Q : mQ} {x1 : Int} (h_1 : (s 407 16) ≤ 0 → Wp X d 186 76 [some (mR 407), some (mI x1)] [] s Q) (h_2 : ¬ (s 407 16) ≤ 0 → Wp X d 186 7 [some (mR 407), some (mI x1)] [] s Q) : Wp X d 186 0 [some (mR 407), some (mI x1)] [] s Q := Wp_step k186 f186_0 (Wp_step k186 f186_1 ⟨kf_407, Wp_step k186 f186_4 ⟨h_1, h_2⟩⟩)
theorem b186_7 {X : (Nat → Int) × Nat} {d : Nat} {s : mSt} {Q : mQ} {x1 : Int} (h_1 : 0 ≤ (w32 ((s 407 16) - 1)) ∧ (w32 ((s 407 16) - 1)) < 400) (h_2 : Sp X d 185 [mI (s 414 (w32 ((s 407 16) - 1)).toNat)] s (fun r s' => ∃ v : Int, r = some (mI v) ∧ Wp X (d + 1) 186 21 [some (mR 407), some (mI x1)] [mI v] s' Q)) : Wp X (d + 1) 186 7 [some (mR 407), some (mI x1)] [] s Q := Wp_step k186 f186_7 (Wp_step k186 f186_8 ⟨kf_407, 414, rf_407_15, Wp_step k186 f186_11 (Wp_step k186 f186_12 ⟨kf_407, Wp_step k186 f186_15 (Wp_step k186 f186_16 (Wp_step k186 f186_17 ⟨400, af_414, h_1, Wp_step k186 f186_18 ⟨⟨Nat.le_of_ble_eq_true rfl, Nat.le_refl _⟩, _, rfl, Sp_E h_2⟩⟩))⟩)⟩)
theorem b186_21 {X : (Nat → Int) × Nat} {d : Nat} {s : mSt} {Q : mQ} {x1 : Int} {xt0 : Int} (h_1 : xt0 < x1 → Wp X d 186 76 [some (mR 407), some (mI x1)] [] s Q) (h_2 : ¬ xt0 < x1 → Wp X d 186 25 [some (mR 407), some (mI x1)] [] s Q) : Wp X d 186 21 [some (mR 407), some (mI x1)] [mI xt0] s Q := Wp_step k186 f186_21 (Wp_step k186 f186_22 ⟨h_1, h_2⟩)
theorem b186_25 {X : (Nat → Int) × Nat} {d : Nat} {s : mSt} {Q : mQ} {x1 : Int} (h_1 : 0 ≤ ((uS s 407 16 (w32 ((s 407 16) - 1))) 407 16) ∧ ((uS s 407 16 (w32 ((s 407 16) - 1))) 407 16) < 400) (h_2 : Sp X d 182 [mR 407, mI ((uS s 407 16 (w32 ((s 407 16) - 1))) 414 ((uS s 407 16 (w32 ((s 407 16) - 1))) 407 16).toNat), mI 0] (uS s 407 16 (w32 ((s 407 16) - 1))) (fun r s' => r = none ∧ Wp X (d + 1) 186 49 [some (mR 407), some (mI x1)] [] s' Q)) : Wp X (d + 1) 186 25 [some (mR 407), some (mI x1)] [] s Q := Wp_step k186 f186_25 (Wp_step k186 f186_26 (Wp_step k186 f186_27 ⟨kf_407, Wp_step k186 f186_30 (Wp_step k186 f186_31 (Wp_step k186 f186_32 ⟨kf_407, Wp_step k186 f186_35 (Wp_step k186 f186_36 (Wp_step k186 f186_37 ⟨kf_407, 414, rf_407_15, Wp_step k186 f186_40 (Wp_step k186 f186_41 ⟨kf_407, Wp_step k186 f186_44 ⟨400, af_414, h_1, Wp_step k186 f186_45 (Wp_step k186 f186_46 ⟨⟨kf_407, Nat.le_of_ble_eq_true rfl⟩, Nat.le_refl _, _, rfl, Sp_V h_2⟩)⟩⟩)⟩))⟩))⟩))
theorem b186_49 {X : (Nat → Int) × Nat} {d : Nat} {s : mSt} {Q : mQ} {x1 : Int} (h_1 : 0 ≤ (s 407 16) ∧ (s 407 16) < 400) (h_2 : ¬ (s 414 (s 407 16).toNat) = 11 → Wp X d 186 0 [some (mR 407), some (mI x1)] [] s Q) (h_3 : (s 414 (s 407 16).toNat) = 11 → Wp X d 186 63 [some (mR 407), some (mI x1)] [] s Q) : Wp X d 186 49 [some (mR 407), some (mI x1)] [] s Q := Wp_step k186 f186_49 (Wp_step k186 f186_50 ⟨kf_407, 414, rf_407_15, Wp_step k186 f186_53 (Wp_step k186 f186_54 ⟨kf_407, Wp_step k186 f186_57 ⟨400, af_414, h_1, Wp_step k186 f186_58 (Wp_step k186 f186_60 ⟨h_2, h_3⟩)⟩⟩)⟩)
theorem b186_63 {X : (Nat → Int) × Nat} {d : Nat} {s : mSt} {Q : mQ} {x1 : Int} (h_1 : Wp X d 186 0 [some (mR 407), some (mI x1)] [] (uS s 407 13 (w32 ((s 407 13) - 1))) Q) : Wp X d 186 63 [some (mR 407), some (mI x1)] [] s Q := Wp_step k186 f186_63 (Wp_step k186 f186_64 (Wp_step k186 f186_65 ⟨kf_407, Wp_step k186 f186_68 (Wp_step k186 f186_69 (Wp_step k186 f186_70 ⟨kf_407, Wp_step k186 f186_73 (h_1)⟩))⟩))
theorem b186_76 {X : (Nat → Int) × Nat} {d : Nat} {s : mSt} {Q : mQ} {x1 : Int} (h_1 : Q none s) : Wp X d 186 76 [some (mR 407), some (mI x1)] [] s Q := Wp_step k186 f186_76 ⟨⟨rfl, Or.inl rfl⟩, h_1⟩
theorem e186 {X : (Nat → Int) × Nat} {d : Nat} {s : mSt} {Q : mQ} {x1 : Int} (h : Wp X d 186 0 [some (mR 407), some (mI x1)] [] s Q) : Sp X d 186 [mR 407, mI x1] s Q := Sp_of (show mCe 186 = 0 by decide +kernel) (by rw [show mML 186 = 2 by decide +kernel]; rfl) (Nat.le_trans (Nat.le_of_ble_eq_true (show Nat.ble (mArgs _).length 2 = true from rfl)) (show 2 ≤ mML 186 by decide +kernel)) h
