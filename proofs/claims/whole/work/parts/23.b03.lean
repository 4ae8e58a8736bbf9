-- 45 ClashDay$Lines.put(IC)V
theorem k45 : mRk 45 = 0 := by decide +kernel
theorem f45_0 : mFetch 45 0 = some (.aload_n 0, 1, 0, 0, 0, 0) := by decide +kernel
theorem f45_1 : mFetch 45 1 = some (.getfield 16, 3, 2, 1, 2, 1) := by decide +kernel
theorem f45_4 : mFetch 45 4 = some (.iload_n 1, 1, 0, 0, 0, 0) := by decide +kernel
theorem f45_5 : mFetch 45 5 = some (.iaload, 1, 0, 0, 0, 0) := by decide +kernel
theorem f45_6 : mFetch 45 6 = some (.bipush 30, 2, 0, 0, 0, 0) := by decide +kernel
theorem f45_8 : mFetch 45 8 = some (.if_icmp .ge 27, 3, 35, 0, 0, 0) := by decide +kernel
theorem f45_11 : mFetch 45 11 = some (.aload_n 0, 1, 0, 0, 0, 0) := by decide +kernel
theorem f45_12 : mFetch 45 12 = some (.getfield 11, 3, 2, 0, 2, 1) := by decide +kernel
theorem f45_15 : mFetch 45 15 = some (.iload_n 1, 1, 0, 0, 0, 0) := by decide +kernel
theorem f45_16 : mFetch 45 16 = some (.aaload, 1, 0, 0, 0, 0) := by decide +kernel
theorem f45_17 : mFetch 45 17 = some (.aload_n 0, 1, 0, 0, 0, 0) := by decide +kernel
theorem f45_18 : mFetch 45 18 = some (.getfield 16, 3, 2, 1, 2, 1) := by decide +kernel
theorem f45_21 : mFetch 45 21 = some (.iload_n 1, 1, 0, 0, 0, 0) := by decide +kernel
theorem f45_22 : mFetch 45 22 = some (.iaload, 1, 0, 0, 0, 0) := by decide +kernel
theorem f45_23 : mFetch 45 23 = some (.iload_n 2, 1, 0, 0, 0, 0) := by decide +kernel
theorem f45_24 : mFetch 45 24 = some (.iastore, 1, 0, 0, 0, 0) := by decide +kernel
theorem f45_25 : mFetch 45 25 = some (.aload_n 0, 1, 0, 0, 0, 0) := by decide +kernel
theorem f45_26 : mFetch 45 26 = some (.getfield 16, 3, 2, 1, 2, 1) := by decide +kernel
theorem f45_29 : mFetch 45 29 = some (.iload_n 1, 1, 0, 0, 0, 0) := by decide +kernel
theorem f45_30 : mFetch 45 30 = some (.dup2, 1, 0, 0, 0, 0) := by decide +kernel
theorem f45_31 : mFetch 45 31 = some (.iaload, 1, 0, 0, 0, 0) := by decide +kernel
theorem f45_32 : mFetch 45 32 = some (.iconst 1, 1, 0, 0, 0, 0) := by decide +kernel
theorem f45_33 : mFetch 45 33 = some (.iadd, 1, 0, 0, 0, 0) := by decide +kernel
theorem f45_34 : mFetch 45 34 = some (.iastore, 1, 0, 0, 0, 0) := by decide +kernel
theorem f45_35 : mFetch 45 35 = some (.return_, 1, 0, 0, 0, 0) := by decide +kernel
theorem b45_0 {X : (Nat → Int) × Nat} {d : Nat} {s : mSt} {Q : mQ} {x1 : Int} {x2 : Int} (h_1 : 0 ≤ x1 ∧ x1 < 2) (h_2 : 30 ≤ (s 80 x1.toNat) → Wp X d 45 35 [some (mR 76), some (mI x1), some (mI x2)] [] s Q) (h_3 : ¬ 30 ≤ (s 80 x1.toNat) → Wp X d 45 11 [some (mR 76), some (mI x1), some (mI x2)] [] s Q) : Wp X d 45 0 [some (mR 76), some (mI x1), some (mI x2)] [] s Q := Wp_step k45 f45_0 (Wp_step k45 f45_1 ⟨kf_76, 80, rf_76_1, Wp_step k45 f45_4 (Wp_step k45 f45_5 ⟨2, af_80, h_1, Wp_step k45 f45_6 (Wp_step k45 f45_8 ⟨h_2, h_3⟩)⟩)⟩)
theorem b45_11 {X : (Nat → Int) × Nat} {d : Nat} {s : mSt} {Q : mQ} {x1 : Int} {x2 : Int} {r1 : Nat} (hr1 : aS S0 r1 22 30) (h_1 : 0 ≤ x1 ∧ x1 < 2) (h_2 : s 77 x1.toNat = (r1 : Int)) (h_3 : 0 ≤ x1 ∧ x1 < 2) (h_4 : 0 ≤ (s 80 x1.toNat) ∧ (s 80 x1.toNat) < 30) (h_5 : 0 ≤ x1 ∧ x1 < 2) (h_6 : 0 ≤ x1 ∧ x1 < 2) (h_7 : Wp X d 45 35 [some (mR 76), some (mI x1), some (mI x2)] [] (uS (uS s r1 ((s 80 x1.toNat).toNat) x2) 80 x1.toNat (w32 (((uS s r1 ((s 80 x1.toNat).toNat) x2) 80 x1.toNat) + 1))) Q) : Wp X d 45 11 [some (mR 76), some (mI x1), some (mI x2)] [] s Q := Wp_step k45 f45_11 (Wp_step k45 f45_12 ⟨kf_76, 77, rf_76_0, Wp_step k45 f45_15 (Wp_step k45 f45_16 ⟨28, 2, af_77, ⟨by decide, by decide⟩, h_1, r1, h_2, Wp_step k45 f45_17 (Wp_step k45 f45_18 ⟨kf_76, 80, rf_76_1, Wp_step k45 f45_21 (Wp_step k45 f45_22 ⟨2, af_80, h_3, Wp_step k45 f45_23 (Wp_step k45 f45_24 ⟨30, hr1, h_4, Wp_step k45 f45_25 (Wp_step k45 f45_26 ⟨kf_76, 80, rf_76_1, Wp_step k45 f45_29 (Wp_step k45 f45_30 (Wp_step k45 f45_31 ⟨2, af_80, h_5, Wp_step k45 f45_32 (Wp_step k45 f45_33 (Wp_step k45 f45_34 ⟨2, af_80, h_6, h_7⟩))⟩))⟩)⟩)⟩)⟩)⟩)⟩)
theorem b45_35 {X : (Nat → Int) × Nat} {d : Nat} {s : mSt} {Q : mQ} {x1 : Int} {x2 : Int} (h_1 : Q none s) : Wp X d 45 35 [some (mR 76), some (mI x1), some (mI x2)] [] s Q := Wp_step k45 f45_35 ⟨⟨rfl, Or.inl rfl⟩, h_1⟩
theorem e45 {X : (Nat → Int) × Nat} {d : Nat} {s : mSt} {Q : mQ} {x1 : Int} {x2 : Int} (h : Wp X d 45 0 [some (mR 76), some (mI x1), some (mI x2)] [] s Q) : Sp X d 45 [mR 76, mI x1, mI x2] s Q := Sp_of (show mCe 45 = 0 by decide +kernel) (by rw [show mML 45 = 3 by decide +kernel]; rfl) (Nat.le_trans (Nat.le_of_ble_eq_true (show Nat.ble (mArgs _).length 3 = true from rfl)) (show 3 ≤ mML 45 by decide +kernel)) h
-- 46 ClashDay$Lines.inCommon()I
theorem k46 : mRk 46 = 1 := by decide +kernel
theorem f46_0 : mFetch 46 0 = some (.aload_n 0, 1, 0, 0, 0, 0) := by decide +kernel
theorem f46_1 : mFetch 46 1 = some (.getfield 16, 3, 2, 1, 2, 1) := by decide +kernel
theorem f46_4 : mFetch 46 4 = some (.iconst 0, 1, 0, 0, 0, 0) := by decide +kernel
theorem f46_5 : mFetch 46 5 = some (.iaload, 1, 0, 0, 0, 0) := by decide +kernel
theorem f46_6 : mFetch 46 6 = some (.aload_n 0, 1, 0, 0, 0, 0) := by decide +kernel
theorem f46_7 : mFetch 46 7 = some (.getfield 16, 3, 2, 1, 2, 1) := by decide +kernel
theorem f46_10 : mFetch 46 10 = some (.iconst 1, 1, 0, 0, 0, 0) := by decide +kernel
theorem f46_11 : mFetch 46 11 = some (.iaload, 1, 0, 0, 0, 0) := by decide +kernel
theorem f46_12 : mFetch 46 12 = some (.invokestatic 58, 3, (-6), 0, 0, 0) := by decide +kernel
theorem f46_15 : mFetch 46 15 = some (.istore_n 1, 1, 0, 0, 0, 0) := by decide +kernel
theorem f46_16 : mFetch 46 16 = some (.iconst 0, 1, 0, 0, 0, 0) := by decide +kernel
theorem f46_17 : mFetch 46 17 = some (.istore_n 2, 1, 0, 0, 0, 0) := by decide +kernel
theorem f46_18 : mFetch 46 18 = some (.iload_n 2, 1, 0, 0, 0, 0) := by decide +kernel
theorem f46_19 : mFetch 46 19 = some (.iload_n 1, 1, 0, 0, 0, 0) := by decide +kernel
theorem f46_20 : mFetch 46 20 = some (.if_icmp .ge 30, 3, 50, 0, 0, 0) := by decide +kernel
theorem f46_23 : mFetch 46 23 = some (.aload_n 0, 1, 0, 0, 0, 0) := by decide +kernel
theorem f46_24 : mFetch 46 24 = some (.getfield 11, 3, 2, 0, 2, 1) := by decide +kernel
theorem f46_27 : mFetch 46 27 = some (.iconst 0, 1, 0, 0, 0, 0) := by decide +kernel
theorem f46_28 : mFetch 46 28 = some (.aaload, 1, 0, 0, 0, 0) := by decide +kernel
theorem f46_29 : mFetch 46 29 = some (.iload_n 2, 1, 0, 0, 0, 0) := by decide +kernel
theorem f46_30 : mFetch 46 30 = some (.iaload, 1, 0, 0, 0, 0) := by decide +kernel
theorem f46_31 : mFetch 46 31 = some (.aload_n 0, 1, 0, 0, 0, 0) := by decide +kernel
theorem f46_32 : mFetch 46 32 = some (.getfield 11, 3, 2, 0, 2, 1) := by decide +kernel
theorem f46_35 : mFetch 46 35 = some (.iconst 1, 1, 0, 0, 0, 0) := by decide +kernel
theorem f46_36 : mFetch 46 36 = some (.aaload, 1, 0, 0, 0, 0) := by decide +kernel
theorem f46_37 : mFetch 46 37 = some (.iload_n 2, 1, 0, 0, 0, 0) := by decide +kernel
theorem f46_38 : mFetch 46 38 = some (.iaload, 1, 0, 0, 0, 0) := by decide +kernel
theorem f46_39 : mFetch 46 39 = some (.if_icmp .eq 5, 3, 44, 0, 0, 0) := by decide +kernel
theorem f46_42 : mFetch 46 42 = some (.iload_n 2, 1, 0, 0, 0, 0) := by decide +kernel
theorem f46_43 : mFetch 46 43 = some (.ireturn, 1, 0, 0, 0, 0) := by decide +kernel
theorem f46_44 : mFetch 46 44 = some (.iinc 2 1, 3, 0, 0, 0, 0) := by decide +kernel
theorem f46_47 : mFetch 46 47 = some (.goto (-29), 3, 18, 0, 0, 0) := by decide +kernel
theorem f46_50 : mFetch 46 50 = some (.iload_n 1, 1, 0, 0, 0, 0) := by decide +kernel
theorem f46_51 : mFetch 46 51 = some (.ireturn, 1, 0, 0, 0, 0) := by decide +kernel
theorem b46_0 {X : (Nat → Int) × Nat} {d : Nat} {s : mSt} {Q : mQ} {l1 : Option mV} {l2 : Option mV} (h_1 : Wp X (d + 1) 46 18 [some (mR 76), some (mI (iMin (s 80 0) (s 80 1))), some (mI 0)] [] s Q) : Wp X (d + 1) 46 0 [some (mR 76), l1, l2] [] s Q := Wp_step k46 f46_0 (Wp_step k46 f46_1 ⟨kf_76, 80, rf_76_1, Wp_step k46 f46_4 (Wp_step k46 f46_5 ⟨2, af_80, ⟨by decide, by decide⟩, Wp_step k46 f46_6 (Wp_step k46 f46_7 ⟨kf_76, 80, rf_76_1, Wp_step k46 f46_10 (Wp_step k46 f46_11 ⟨2, af_80, ⟨by decide, by decide⟩, Wp_step k46 f46_12 ⟨⟨Nat.succ_pos _, Nat.le_of_ble_eq_true rfl⟩, Wp_step k46 f46_15 (Wp_step k46 f46_16 (Wp_step k46 f46_17 (h_1)))⟩⟩)⟩)⟩)⟩)
theorem b46_18 {X : (Nat → Int) × Nat} {d : Nat} {s : mSt} {Q : mQ} {x1 : Int} {x2 : Int} (h_1 : x1 ≤ x2 → Wp X d 46 50 [some (mR 76), some (mI x1), some (mI x2)] [] s Q) (h_2 : ¬ x1 ≤ x2 → Wp X d 46 23 [some (mR 76), some (mI x1), some (mI x2)] [] s Q) : Wp X d 46 18 [some (mR 76), some (mI x1), some (mI x2)] [] s Q := Wp_step k46 f46_18 (Wp_step k46 f46_19 (Wp_step k46 f46_20 ⟨h_1, h_2⟩))
theorem b46_23 {X : (Nat → Int) × Nat} {d : Nat} {s : mSt} {Q : mQ} {x1 : Int} {x2 : Int} {r1 : Nat} {r2 : Nat} (hr1 : aS S0 r1 22 30) (hr2 : aS S0 r2 22 30) (h_1 : s 77 0 = (r1 : Int)) (h_2 : 0 ≤ x2 ∧ x2 < 30) (h_3 : s 77 1 = (r2 : Int)) (h_4 : 0 ≤ x2 ∧ x2 < 30) (h_5 : (s r1 x2.toNat) = (s r2 x2.toNat) → Wp X d 46 44 [some (mR 76), some (mI x1), some (mI x2)] [] s Q) (h_6 : ¬ (s r1 x2.toNat) = (s r2 x2.toNat) → Wp X d 46 42 [some (mR 76), some (mI x1), some (mI x2)] [] s Q) : Wp X d 46 23 [some (mR 76), some (mI x1), some (mI x2)] [] s Q := Wp_step k46 f46_23 (Wp_step k46 f46_24 ⟨kf_76, 77, rf_76_0, Wp_step k46 f46_27 (Wp_step k46 f46_28 ⟨28, 2, af_77, ⟨by decide, by decide⟩, ⟨by decide, by decide⟩, r1, h_1, Wp_step k46 f46_29 (Wp_step k46 f46_30 ⟨30, hr1, h_2, Wp_step k46 f46_31 (Wp_step k46 f46_32 ⟨kf_76, 77, rf_76_0, Wp_step k46 f46_35 (Wp_step k46 f46_36 ⟨28, 2, af_77, ⟨by decide, by decide⟩, ⟨by decide, by decide⟩, r2, h_3, Wp_step k46 f46_37 (Wp_step k46 f46_38 ⟨30, hr2, h_4, Wp_step k46 f46_39 ⟨h_5, h_6⟩⟩)⟩)⟩)⟩)⟩)⟩)
theorem b46_42 {X : (Nat → Int) × Nat} {d : Nat} {s : mSt} {Q : mQ} {x1 : Int} {x2 : Int} (h_1 : Q (some (mI x2)) s) : Wp X d 46 42 [some (mR 76), some (mI x1), some (mI x2)] [] s Q := Wp_step k46 f46_42 (Wp_step k46 f46_43 ⟨⟨rfl, trivial⟩, h_1⟩)
theorem b46_44 {X : (Nat → Int) × Nat} {d : Nat} {s : mSt} {Q : mQ} {x1 : Int} {x2 : Int} (h_1 : Wp X d 46 18 [some (mR 76), some (mI x1), some (mI (w32 (x2 + 1)))] [] s Q) : Wp X d 46 44 [some (mR 76), some (mI x1), some (mI x2)] [] s Q := Wp_step k46 f46_44 (Wp_step k46 f46_47 (h_1))
theorem b46_50 {X : (Nat → Int) × Nat} {d : Nat} {s : mSt} {Q : mQ} {x1 : Int} {x2 : Int} (h_1 : Q (some (mI x1)) s) : Wp X d 46 50 [some (mR 76), some (mI x1), some (mI x2)] [] s Q := Wp_step k46 f46_50 (Wp_step k46 f46_51 ⟨⟨rfl, trivial⟩, h_1⟩)
theorem e46 {X : (Nat → Int) × Nat} {d : Nat} {s : mSt} {Q : mQ} (h : Wp X d 46 0 [some (mR 76), none, none] [] s Q) : Sp X d 46 [mR 76] s Q := Sp_of (show mCe 46 = 0 by decide +kernel) (by rw [show mML 46 = 3 by decide +kernel]; rfl) (Nat.le_trans (Nat.le_of_ble_eq_true (show Nat.ble (mArgs _).length 3 = true from rfl)) (show 3 ≤ mML 46 by decide +kernel)) h
-- 47 ClashDay$Lines.whichAhead()I
theorem k47 : mRk 47 = 1 := by decide +kernel
theorem f47_0 : mFetch 47 0 = some (.aload_n 0, 1, 0, 0, 0, 0) := by decide +kernel
theorem f47_1 : mFetch 47 1 = some (.invokevirtual 63, 3, 46, 0, 1, 2) := by decide +kernel
theorem f47_4 : mFetch 47 4 = some (.istore_n 1, 1, 0, 0, 0, 0) := by decide +kernel
theorem f47_5 : mFetch 47 5 = some (.iload_n 1, 1, 0, 0, 0, 0) := by decide +kernel
theorem f47_6 : mFetch 47 6 = some (.aload_n 0, 1, 0, 0, 0, 0) := by decide +kernel
theorem f47_7 : mFetch 47 7 = some (.getfield 16, 3, 2, 1, 2, 1) := by decide +kernel
theorem f47_10 : mFetch 47 10 = some (.iconst 0, 1, 0, 0, 0, 0) := by decide +kernel
theorem f47_11 : mFetch 47 11 = some (.iaload, 1, 0, 0, 0, 0) := by decide +kernel
theorem f47_12 : mFetch 47 12 = some (.if_icmp .ge 38, 3, 50, 0, 0, 0) := by decide +kernel
theorem f47_15 : mFetch 47 15 = some (.iload_n 1, 1, 0, 0, 0, 0) := by decide +kernel
theorem f47_16 : mFetch 47 16 = some (.aload_n 0, 1, 0, 0, 0, 0) := by decide +kernel
theorem f47_17 : mFetch 47 17 = some (.getfield 16, 3, 2, 1, 2, 1) := by decide +kernel
theorem f47_20 : mFetch 47 20 = some (.iconst 1, 1, 0, 0, 0, 0) := by decide +kernel
theorem f47_21 : mFetch 47 21 = some (.iaload, 1, 0, 0, 0, 0) := by decide +kernel
theorem f47_22 : mFetch 47 22 = some (.if_icmp .ge 28, 3, 50, 0, 0, 0) := by decide +kernel
theorem f47_25 : mFetch 47 25 = some (.aload_n 0, 1, 0, 0, 0, 0) := by decide +kernel
theorem f47_26 : mFetch 47 26 = some (.getfield 11, 3, 2, 0, 2, 1) := by decide +kernel
theorem f47_29 : mFetch 47 29 = some (.iconst 0, 1, 0, 0, 0, 0) := by decide +kernel
theorem f47_30 : mFetch 47 30 = some (.aaload, 1, 0, 0, 0, 0) := by decide +kernel
theorem f47_31 : mFetch 47 31 = some (.iload_n 1, 1, 0, 0, 0, 0) := by decide +kernel
theorem f47_32 : mFetch 47 32 = some (.iaload, 1, 0, 0, 0, 0) := by decide +kernel
theorem f47_33 : mFetch 47 33 = some (.aload_n 0, 1, 0, 0, 0, 0) := by decide +kernel
theorem f47_34 : mFetch 47 34 = some (.getfield 11, 3, 2, 0, 2, 1) := by decide +kernel
theorem f47_37 : mFetch 47 37 = some (.iconst 1, 1, 0, 0, 0, 0) := by decide +kernel
theorem f47_38 : mFetch 47 38 = some (.aaload, 1, 0, 0, 0, 0) := by decide +kernel
theorem f47_39 : mFetch 47 39 = some (.iload_n 1, 1, 0, 0, 0, 0) := by decide +kernel
theorem f47_40 : mFetch 47 40 = some (.iaload, 1, 0, 0, 0, 0) := by decide +kernel
theorem f47_41 : mFetch 47 41 = some (.if_icmp .ge 7, 3, 48, 0, 0, 0) := by decide +kernel
theorem f47_44 : mFetch 47 44 = some (.iconst 0, 1, 0, 0, 0, 0) := by decide +kernel
theorem f47_45 : mFetch 47 45 = some (.goto 4, 3, 49, 0, 0, 0) := by decide +kernel
theorem f47_48 : mFetch 47 48 = some (.iconst 1, 1, 0, 0, 0, 0) := by decide +kernel
theorem f47_49 : mFetch 47 49 = some (.ireturn, 1, 0, 0, 0, 0) := by decide +kernel
theorem f47_50 : mFetch 47 50 = some (.aload_n 0, 1, 0, 0, 0, 0) := by decide +kernel
theorem f47_51 : mFetch 47 51 = some (.getfield 16, 3, 2, 1, 2, 1) := by decide +kernel
theorem f47_54 : mFetch 47 54 = some (.iconst 0, 1, 0, 0, 0, 0) := by decide +kernel
theorem f47_55 : mFetch 47 55 = some (.iaload, 1, 0, 0, 0, 0) := by decide +kernel
theorem f47_56 : mFetch 47 56 = some (.aload_n 0, 1, 0, 0, 0, 0) := by decide +kernel
theorem f47_57 : mFetch 47 57 = some (.getfield 16, 3, 2, 1, 2, 1) := by decide +kernel
theorem f47_60 : mFetch 47 60 = some (.iconst 1, 1, 0, 0, 0, 0) := by decide +kernel
theorem f47_61 : mFetch 47 61 = some (.iaload, 1, 0, 0, 0, 0) := by decide +kernel
theorem f47_62 : mFetch 47 62 = some (.if_icmp .ne 5, 3, 67, 0, 0, 0) := by decide +kernel
theorem f47_65 : mFetch 47 65 = some (.iconst (-1), 1, 0, 0, 0, 0) := by decide +kernel
theorem f47_66 : mFetch 47 66 = some (.ireturn, 1, 0, 0, 0, 0) := by decide +kernel
theorem f47_67 : mFetch 47 67 = some (.aload_n 0, 1, 0, 0, 0, 0) := by decide +kernel
theorem f47_68 : mFetch 47 68 = some (.getfield 16, 3, 2, 1, 2, 1) := by decide +kernel
theorem f47_71 : mFetch 47 71 = some (.iconst 0, 1, 0, 0, 0, 0) := by decide +kernel
theorem f47_72 : mFetch 47 72 = some (.iaload, 1, 0, 0, 0, 0) := by decide +kernel
theorem f47_73 : mFetch 47 73 = some (.aload_n 0, 1, 0, 0, 0, 0) := by decide +kernel
theorem f47_74 : mFetch 47 74 = some (.getfield 16, 3, 2, 1, 2, 1) := by decide +kernel
theorem f47_77 : mFetch 47 77 = some (.iconst 1, 1, 0, 0, 0, 0) := by decide +kernel
theorem f47_78 : mFetch 47 78 = some (.iaload, 1, 0, 0, 0, 0) := by decide +kernel
theorem f47_79 : mFetch 47 79 = some (.if_icmp .ge 7, 3, 86, 0, 0, 0) := by decide +kernel
theorem f47_82 : mFetch 47 82 = some (.iconst 0, 1, 0, 0, 0, 0) := by decide +kernel
theorem f47_83 : mFetch 47 83 = some (.goto 4, 3, 87, 0, 0, 0) := by decide +kernel
theorem f47_86 : mFetch 47 86 = some (.iconst 1, 1, 0, 0, 0, 0) := by decide +kernel
theorem f47_87 : mFetch 47 87 = some (.ireturn, 1, 0, 0, 0, 0) := by decide +kernel
theorem b47_0 {X : (Nat → Int) × Nat} {d : Nat} {s : mSt} {Q : mQ} {l1 : Option mV} (h_1 : Sp X d 46 [mR 76] s (fun r s' => ∃ v : Int, r = some (mI v) ∧ Wp X (d + 1) 47 4 [some (mR 76), l1] [mI v] s' Q)) : Wp X (d + 1) 47 0 [some (mR 76), l1] [] s Q := Wp_step k47 f47_0 (Wp_step k47 f47_1 ⟨⟨kf_76, Nat.le_of_ble_eq_true rfl⟩, Nat.le_refl _, _, rfl, Sp_E h_1⟩)
theorem b47_4 {X : (Nat → Int) × Nat} {d : Nat} {s : mSt} {Q : mQ} {l1 : Option mV} {xt0 : Int} (h_1 : (s 80 0) ≤ xt0 → Wp X d 47 50 [some (mR 76), some (mI xt0)] [] s Q) (h_2 : ¬ (s 80 0) ≤ xt0 → Wp X d 47 15 [some (mR 76), some (mI xt0)] [] s Q) : Wp X d 47 4 [some (mR 76), l1] [mI xt0] s Q := Wp_step k47 f47_4 (Wp_step k47 f47_5 (Wp_step k47 f47_6 (Wp_step k47 f47_7 ⟨kf_76, 80, rf_76_1, Wp_step k47 f47_10 (Wp_step k47 f47_11 ⟨2, af_80, ⟨by decide, by decide⟩, Wp_step k47 f47_12 ⟨h_1, h_2⟩⟩)⟩)))
theorem b47_15 {X : (Nat → Int) × Nat} {d : Nat} {s : mSt} {Q : mQ} {x1 : Int} (h_1 : (s 80 1) ≤ x1 → Wp X d 47 50 [some (mR 76), some (mI x1)] [] s Q) (h_2 : ¬ (s 80 1) ≤ x1 → Wp X d 47 25 [some (mR 76), some (mI x1)] [] s Q) : Wp X d 47 15 [some (mR 76), some (mI x1)] [] s Q := Wp_step k47 f47_15 (Wp_step k47 f47_16 (Wp_step k47 f47_17 ⟨kf_76, 80, rf_76_1, Wp_step k47 f47_20 (Wp_step k47 f47_21 ⟨2, af_80, ⟨by decide, by decide⟩, Wp_step k47 f47_22 ⟨h_1, h_2⟩⟩)⟩))
theorem b47_25 {X : (Nat → Int) × Nat} {d : Nat} {s : mSt} {Q : mQ} {x1 : Int} {r1 : Nat} {r2 : Nat} (hr1 : aS S0 r1 22 30) (hr2 : aS S0 r2 22 30) (h_1 : s 77 0 = (r1 : Int)) (h_2 : 0 ≤ x1 ∧ x1 < 30) (h_3 : s 77 1 = (r2 : Int)) (h_4 : 0 ≤ x1 ∧ x1 < 30) (h_5 : (s r2 x1.toNat) ≤ (s r1 x1.toNat) → Wp X d 47 48 [some (mR 76), some (mI x1)] [] s Q) (h_6 : ¬ (s r2 x1.toNat) ≤ (s r1 x1.toNat) → Wp X d 47 44 [some (mR 76), some (mI x1)] [] s Q) : Wp X d 47 25 [some (mR 76), some (mI x1)] [] s Q := Wp_step k47 f47_25 (Wp_step k47 f47_26 ⟨kf_76, 77, rf_76_0, Wp_step k47 f47_29 (Wp_step k47 f47_30 ⟨28, 2, af_77, ⟨by decide, by decide⟩, ⟨by decide, by decide⟩, r1, h_1, Wp_step k47 f47_31 (Wp_step k47 f47_32 ⟨30, hr1, h_2, Wp_step k47 f47_33 (Wp_step k47 f47_34 ⟨kf_76, 77, rf_76_0, Wp_step k47 f47_37 (Wp_step k47 f47_38 ⟨28, 2, af_77, ⟨by decide, by decide⟩, ⟨by decide, by decide⟩, r2, h_3, Wp_step k47 f47_39 (Wp_step k47 f47_40 ⟨30, hr2, h_4, Wp_step k47 f47_41 ⟨h_5, h_6⟩⟩)⟩)⟩)⟩)⟩)⟩)
theorem b47_44 {X : (Nat → Int) × Nat} {d : Nat} {s : mSt} {Q : mQ} {x1 : Int} (h_1 : Wp X d 47 49 [some (mR 76), some (mI x1)] [mI 0] s Q) : Wp X d 47 44 [some (mR 76), some (mI x1)] [] s Q := Wp_step k47 f47_44 (Wp_step k47 f47_45 (h_1))
theorem b47_48 {X : (Nat → Int) × Nat} {d : Nat} {s : mSt} {Q : mQ} {x1 : Int} (h_1 : Wp X d 47 49 [some (mR 76), some (mI x1)] [mI 1] s Q) : Wp X d 47 48 [some (mR 76), some (mI x1)] [] s Q := Wp_step k47 f47_48 (h_1)
theorem b47_49 {X : (Nat → Int) × Nat} {d : Nat} {s : mSt} {Q : mQ} {x1 : Int} {xt0 : Int} (h_1 : Q (some (mI xt0)) s) : Wp X d 47 49 [some (mR 76), some (mI x1)] [mI xt0] s Q := Wp_step k47 f47_49 ⟨⟨rfl, trivial⟩, h_1⟩
theorem b47_50 {X : (Nat → Int) × Nat} {d : Nat} {s : mSt} {Q : mQ} {x1 : Int} (h_1 : ¬ (s 80 0) = (s 80 1) → Wp X d 47 67 [some (mR 76), some (mI x1)] [] s Q) (h_2 : (s 80 0) = (s 80 1) → Wp X d 47 65 [some (mR 76), some (mI x1)] [] s Q) : Wp X d 47 50 [some (mR 76), some (mI x1)] [] s Q := Wp_step k47 f47_50 (Wp_step k47 f47_51 ⟨kf_76, 80, rf_76_1, Wp_step k47 f47_54 (Wp_step k47 f47_55 ⟨2, af_80, ⟨by decide, by decide⟩, Wp_step k47 f47_56 (Wp_step k47 f47_57 ⟨kf_76, 80, rf_76_1, Wp_step k47 f47_60 (Wp_step k47 f47_61 ⟨2, af_80, ⟨by decide, by decide⟩, Wp_step k47 f47_62 ⟨h_1, h_2⟩⟩)⟩)⟩)⟩)
theorem b47_65 {X : (Nat → Int) × Nat} {d : Nat} {s : mSt} {Q : mQ} {x1 : Int} (h_1 : Q (some (mI (-1))) s) : Wp X d 47 65 [some (mR 76), some (mI x1)] [] s Q := Wp_step k47 f47_65 (Wp_step k47 f47_66 ⟨⟨rfl, trivial⟩, h_1⟩)
theorem b47_67 {X : (Nat → Int) × Nat} {d : Nat} {s : mSt} {Q : mQ} {x1 : Int} (h_1 : (s 80 1) ≤ (s 80 0) → Wp X d 47 86 [some (mR 76), some (mI x1)] [] s Q) (h_2 : ¬ (s 80 1) ≤ (s 80 0) → Wp X d 47 82 [some (mR 76), some (mI x1)] [] s Q) : Wp X d 47 67 [some (mR 76), some (mI x1)] [] s Q := Wp_step k47 f47_67 (Wp_step k47 f47_68 ⟨kf_76, 80, rf_76_1, Wp_step k47 f47_71 (Wp_step k47 f47_72 ⟨2, af_80, ⟨by decide, by decide⟩, Wp_step k47 f47_73 (Wp_step k47 f47_74 ⟨kf_76, 80, rf_76_1, Wp_step k47 f47_77 (Wp_step k47 f47_78 ⟨2, af_80, ⟨by decide, by decide⟩, Wp_step k47 f47_79 ⟨h_1, h_2⟩⟩)⟩)⟩)⟩)
theorem b47_82 {X : (Nat → Int) × Nat} {d : Nat} {s : mSt} {Q : mQ} {x1 : Int} (h_1 : Wp X d 47 87 [some (mR 76), some (mI x1)] [mI 0] s Q) : Wp X d 47 82 [some (mR 76), some (mI x1)] [] s Q := Wp_step k47 f47_82 (Wp_step k47 f47_83 (h_1))
theorem b47_86 {X : (Nat → Int) × Nat} {d : Nat} {s : mSt} {Q : mQ} {x1 : Int} (h_1 : Wp X d 47 87 [some (mR 76), some (mI x1)] [mI 1] s Q) : Wp X d 47 86 [some (mR 76), some (mI x1)] [] s Q := Wp_step k47 f47_86 (h_1)
theorem b47_87 {X : (Nat → Int) × Nat} {d : Nat} {s : mSt} {Q : mQ} {x1 : Int} {xt0 : Int} (h_1 : Q (some (mI xt0)) s) : Wp X d 47 87 [some (mR 76), some (mI x1)] [mI xt0] s Q := Wp_step k47 f47_87 ⟨⟨rfl, trivial⟩, h_1⟩
theorem e47 {X : (Nat → Int) × Nat} {d : Nat} {s : mSt} {Q : mQ} (h : Wp X d 47 0 [some (mR 76), none] [] s Q) : Sp X d 47 [mR 76] s Q := Sp_of (show mCe 47 = 0 by decide +kernel) (by rw [show mML 47 = 2 by decide +kernel]; rfl) (Nat.le_trans (Nat.le_of_ble_eq_true (show Nat.ble (mArgs _).length 2 = true from rfl)) (show 2 ≤ mML 47 by decide +kernel)) h
-- 48 ClashDay$Lines.watcherOf(LClashDay$Board;III)I
theorem k48 : mRk 48 = 1 := by decide +kernel
theorem f48_0 : mFetch 48 0 = some (.iconst 0, 1, 0, 0, 0, 0) := by decide +kernel
theorem f48_1 : mFetch 48 1 = some (.istore 5, 2, 0, 0, 0, 0) := by decide +kernel
theorem f48_3 : mFetch 48 3 = some (.iload 5, 2, 0, 0, 0, 0) := by decide +kernel
theorem f48_5 : mFetch 48 5 = some (.iload 4, 2, 0, 0, 0, 0) := by decide +kernel
theorem f48_7 : mFetch 48 7 = some (.if_icmp .gt 24, 3, 31, 0, 0, 0) := by decide +kernel
theorem f48_10 : mFetch 48 10 = some (.iload 5, 2, 0, 0, 0, 0) := by decide +kernel
theorem f48_12 : mFetch 48 12 = some (.bipush 30, 2, 0, 0, 0, 0) := by decide +kernel
theorem f48_14 : mFetch 48 14 = some (.if_icmp .ge 17, 3, 31, 0, 0, 0) := by decide +kernel
theorem f48_17 : mFetch 48 17 = some (.aload_n 0, 1, 0, 0, 0, 0) := by decide +kernel
theorem f48_18 : mFetch 48 18 = some (.aload_n 1, 1, 0, 0, 0, 0) := by decide +kernel
theorem f48_19 : mFetch 48 19 = some (.iload_n 2, 1, 0, 0, 0, 0) := by decide +kernel
theorem f48_20 : mFetch 48 20 = some (.iload 5, 2, 0, 0, 0, 0) := by decide +kernel
theorem f48_22 : mFetch 48 22 = some (.invokevirtual 67, 3, 49, 0, 4, 2) := by decide +kernel
theorem f48_25 : mFetch 48 25 = some (.iinc 5 1, 3, 0, 0, 0, 0) := by decide +kernel
theorem f48_28 : mFetch 48 28 = some (.goto (-25), 3, 3, 0, 0, 0) := by decide +kernel
theorem f48_31 : mFetch 48 31 = some (.aload_n 0, 1, 0, 0, 0, 0) := by decide +kernel
theorem f48_32 : mFetch 48 32 = some (.getfield 20, 3, 2, 2, 2, 1) := by decide +kernel
theorem f48_35 : mFetch 48 35 = some (.iload_n 3, 1, 0, 0, 0, 0) := by decide +kernel
theorem f48_36 : mFetch 48 36 = some (.iaload, 1, 0, 0, 0, 0) := by decide +kernel
theorem f48_37 : mFetch 48 37 = some (.ireturn, 1, 0, 0, 0, 0) := by decide +kernel
theorem b48_0 {X : (Nat → Int) × Nat} {d : Nat} {s : mSt} {Q : mQ} {a1 : Nat} {x2 : Int} {x3 : Int} {x4 : Int} {l5 : Option mV} (h1 : isBd a1) (h_1 : Wp X d 48 3 [some (mR 76), some (mR a1), some (mI x2), some (mI x3), some (mI x4), some (mI 0)] [] s Q) : Wp X d 48 0 [some (mR 76), some (mR a1), some (mI x2), some (mI x3), some (mI x4), l5] [] s Q := Wp_step k48 f48_0 (Wp_step k48 f48_1 (h_1))
theorem b48_3 {X : (Nat → Int) × Nat} {d : Nat} {s : mSt} {Q : mQ} {a1 : Nat} {x2 : Int} {x3 : Int} {x4 : Int} {x5 : Int} (h1 : isBd a1) (h_1 : x4 < x5 → Wp X d 48 31 [some (mR 76), some (mR a1), some (mI x2), some (mI x3), some (mI x4), some (mI x5)] [] s Q) (h_2 : ¬ x4 < x5 → Wp X d 48 10 [some (mR 76), some (mR a1), some (mI x2), some (mI x3), some (mI x4), some (mI x5)] [] s Q) : Wp X d 48 3 [some (mR 76), some (mR a1), some (mI x2), some (mI x3), some (mI x4), some (mI x5)] [] s Q := Wp_step k48 f48_3 (Wp_step k48 f48_5 (Wp_step k48 f48_7 ⟨h_1, h_2⟩))
theorem b48_10 {X : (Nat → Int) × Nat} {d : Nat} {s : mSt} {Q : mQ} {a1 : Nat} {x2 : Int} {x3 : Int} {x4 : Int} {x5 : Int} (h1 : isBd a1) (h_1 : 30 ≤ x5 → Wp X d 48 31 [some (mR 76), some (mR a1), some (mI x2), some (mI x3), some (mI x4), some (mI x5)] [] s Q) (h_2 : ¬ 30 ≤ x5 → Wp X d 48 17 [some (mR 76), some (mR a1), some (mI x2), some (mI x3), some (mI x4), some (mI x5)] [] s Q) : Wp X d 48 10 [some (mR 76), some (mR a1), some (mI x2), some (mI x3), some (mI x4), some (mI x5)] [] s Q := Wp_step k48 f48_10 (Wp_step k48 f48_12 (Wp_step k48 f48_14 ⟨h_1, h_2⟩))
theorem b48_17 {X : (Nat → Int) × Nat} {d : Nat} {s : mSt} {Q : mQ} {a1 : Nat} {x2 : Int} {x3 : Int} {x4 : Int} {x5 : Int} (h1 : isBd a1) (h_1 : Sp X d 49 [mR 76, mR a1, mI x2, mI x5] s (fun r s' => r = none ∧ Wp X (d + 1) 48 25 [some (mR 76), some (mR a1), some (mI x2), some (mI x3), some (mI x4), some (mI x5)] [] s' Q)) : Wp X (d + 1) 48 17 [some (mR 76), some (mR a1), some (mI x2), some (mI x3), some (mI x4), some (mI x5)] [] s Q := Wp_step k48 f48_17 (Wp_step k48 f48_18 (Wp_step k48 f48_19 (Wp_step k48 f48_20 (Wp_step k48 f48_22 ⟨⟨kf_76, Nat.le_of_ble_eq_true rfl⟩, Nat.le_refl _, _, rfl, Sp_V h_1⟩))))
theorem b48_25 {X : (Nat → Int) × Nat} {d : Nat} {s : mSt} {Q : mQ} {a1 : Nat} {x2 : Int} {x3 : Int} {x4 : Int} {x5 : Int} (h1 : isBd a1) (h_1 : Wp X d 48 3 [some (mR 76), some (mR a1), some (mI x2), some (mI x3), some (mI x4), some (mI (w32 (x5 + 1)))] [] s Q) : Wp X d 48 25 [some (mR 76), some (mR a1), some (mI x2), some (mI x3), some (mI x4), some (mI x5)] [] s Q := Wp_step k48 f48_25 (Wp_step k48 f48_28 (h_1))
theorem b48_31 {X : (Nat → Int) × Nat} {d : Nat} {s : mSt} {Q : mQ} {a1 : Nat} {x2 : Int} {x3 : Int} {x4 : Int} {x5 : Int} (h1 : isBd a1) (h_1 : 0 ≤ x3 ∧ x3 < 6) (h_2 : Q (some (mI (s 81 x3.toNat))) s) : Wp X d 48 31 [some (mR 76), some (mR a1), some (mI x2), some (mI x3), some (mI x4), some (mI x5)] [] s Q := Wp_step k48 f48_31 (Wp_step k48 f48_32 ⟨kf_76, 81, rf_76_2, Wp_step k48 f48_35 (Wp_step k48 f48_36 ⟨6, af_81, h_1, Wp_step k48 f48_37 ⟨⟨rfl, trivial⟩, h_2⟩⟩)⟩)
theorem e48 {X : (Nat → Int) × Nat} {d : Nat} {s : mSt} {Q : mQ} {a1 : Nat} {x2 : Int} {x3 : Int} {x4 : Int} (h : Wp X d 48 0 [some (mR 76), some (mR a1), some (mI x2), some (mI x3), some (mI x4), none] [] s Q) : Sp X d 48 [mR 76, mR a1, mI x2, mI x3, mI x4] s Q := Sp_of (show mCe 48 = 0 by decide +kernel) (by rw [show mML 48 = 6 by decide +kernel]; rfl) (Nat.le_trans (Nat.le_of_ble_eq_true (show Nat.ble (mArgs _).length 6 = true from rfl)) (show 6 ≤ mML 48 by decide +kernel)) h
-- 49 ClashDay$Lines.watchSlot(LClashDay$Board;II)V
theorem k49 : mRk 49 = 0 := by decide +kernel
theorem f49_0 : mFetch 49 0 = some (.iconst 0, 1, 0, 0, 0, 0) := by decide +kernel
theorem f49_1 : mFetch 49 1 = some (.istore 4, 2, 0, 0, 0, 0) := by decide +kernel
theorem f49_3 : mFetch 49 3 = some (.iload 4, 2, 0, 0, 0, 0) := by decide +kernel
theorem f49_5 : mFetch 49 5 = some (.bipush 6, 2, 0, 0, 0, 0) := by decide +kernel
theorem f49_7 : mFetch 49 7 = some (.if_icmp .ge 17, 3, 24, 0, 0, 0) := by decide +kernel
theorem f49_10 : mFetch 49 10 = some (.aload_n 0, 1, 0, 0, 0, 0) := by decide +kernel
theorem f49_11 : mFetch 49 11 = some (.getfield 23, 3, 2, 3, 2, 1) := by decide +kernel
theorem f49_14 : mFetch 49 14 = some (.iload 4, 2, 0, 0, 0, 0) := by decide +kernel
theorem f49_16 : mFetch 49 16 = some (.iconst 0, 1, 0, 0, 0, 0) := by decide +kernel
theorem f49_17 : mFetch 49 17 = some (.iastore, 1, 0, 0, 0, 0) := by decide +kernel
theorem f49_18 : mFetch 49 18 = some (.iinc 4 1, 3, 0, 0, 0, 0) := by decide +kernel
theorem f49_21 : mFetch 49 21 = some (.goto (-18), 3, 3, 0, 0, 0) := by decide +kernel
theorem f49_24 : mFetch 49 24 = some (.iconst 0, 1, 0, 0, 0, 0) := by decide +kernel
theorem f49_25 : mFetch 49 25 = some (.istore 4, 2, 0, 0, 0, 0) := by decide +kernel
theorem f49_27 : mFetch 49 27 = some (.iload 4, 2, 0, 0, 0, 0) := by decide +kernel
theorem f49_29 : mFetch 49 29 = some (.aload_n 1, 1, 0, 0, 0, 0) := by decide +kernel
theorem f49_30 : mFetch 49 30 = some (.getfield 71, 3, 0, 3, 0, 0) := by decide +kernel
theorem f49_33 : mFetch 49 33 = some (.if_icmp .ge 45, 3, 78, 0, 0, 0) := by decide +kernel
theorem f49_36 : mFetch 49 36 = some (.aload_n 1, 1, 0, 0, 0, 0) := by decide +kernel
theorem f49_37 : mFetch 49 37 = some (.iload 4, 2, 0, 0, 0, 0) := by decide +kernel
theorem f49_39 : mFetch 49 39 = some (.iload_n 3, 1, 0, 0, 0, 0) := by decide +kernel
theorem f49_40 : mFetch 49 40 = some (.invokevirtual 26, 3, 20, 0, 3, 0) := by decide +kernel
theorem f49_43 : mFetch 49 43 = some (.ifCond .eq 29, 3, 72, 0, 0, 0) := by decide +kernel
theorem f49_46 : mFetch 49 46 = some (.aload_n 1, 1, 0, 0, 0, 0) := by decide +kernel
theorem f49_47 : mFetch 49 47 = some (.iload 4, 2, 0, 0, 0, 0) := by decide +kernel
theorem f49_49 : mFetch 49 49 = some (.iload_n 3, 1, 0, 0, 0, 0) := by decide +kernel
theorem f49_50 : mFetch 49 50 = some (.invokestatic 74, 3, 50, 0, 3, 99) := by decide +kernel
theorem f49_53 : mFetch 49 53 = some (.ifCond .eq 19, 3, 72, 0, 0, 0) := by decide +kernel
theorem f49_56 : mFetch 49 56 = some (.aload_n 0, 1, 0, 0, 0, 0) := by decide +kernel
theorem f49_57 : mFetch 49 57 = some (.getfield 23, 3, 2, 3, 2, 1) := by decide +kernel
theorem f49_60 : mFetch 49 60 = some (.aload_n 0, 1, 0, 0, 0, 0) := by decide +kernel
theorem f49_61 : mFetch 49 61 = some (.getfield 20, 3, 2, 2, 2, 1) := by decide +kernel
theorem f49_64 : mFetch 49 64 = some (.iload 4, 2, 0, 0, 0, 0) := by decide +kernel
theorem f49_66 : mFetch 49 66 = some (.iaload, 1, 0, 0, 0, 0) := by decide +kernel
theorem f49_67 : mFetch 49 67 = some (.dup2, 1, 0, 0, 0, 0) := by decide +kernel
theorem f49_68 : mFetch 49 68 = some (.iaload, 1, 0, 0, 0, 0) := by decide +kernel
theorem f49_69 : mFetch 49 69 = some (.iconst 1, 1, 0, 0, 0, 0) := by decide +kernel
theorem f49_70 : mFetch 49 70 = some (.iadd, 1, 0, 0, 0, 0) := by decide +kernel
theorem f49_71 : mFetch 49 71 = some (.iastore, 1, 0, 0, 0, 0) := by decide +kernel
theorem f49_72 : mFetch 49 72 = some (.iinc 4 1, 3, 0, 0, 0, 0) := by decide +kernel
theorem f49_75 : mFetch 49 75 = some (.goto (-48), 3, 27, 0, 0, 0) := by decide +kernel
theorem f49_78 : mFetch 49 78 = some (.iconst 0, 1, 0, 0, 0, 0) := by decide +kernel
theorem f49_79 : mFetch 49 79 = some (.istore 4, 2, 0, 0, 0, 0) := by decide +kernel
theorem f49_81 : mFetch 49 81 = some (.iload 4, 2, 0, 0, 0, 0) := by decide +kernel
theorem f49_83 : mFetch 49 83 = some (.aload_n 1, 1, 0, 0, 0, 0) := by decide +kernel
theorem f49_84 : mFetch 49 84 = some (.getfield 71, 3, 0, 3, 0, 0) := by decide +kernel
theorem f49_87 : mFetch 49 87 = some (.if_icmp .ge 57, 3, 144, 0, 0, 0) := by decide +kernel
theorem f49_90 : mFetch 49 90 = some (.aload_n 1, 1, 0, 0, 0, 0) := by decide +kernel
theorem f49_91 : mFetch 49 91 = some (.iload 4, 2, 0, 0, 0, 0) := by decide +kernel
theorem f49_93 : mFetch 49 93 = some (.iload_n 3, 1, 0, 0, 0, 0) := by decide +kernel
theorem f49_94 : mFetch 49 94 = some (.invokevirtual 26, 3, 20, 0, 3, 0) := by decide +kernel
theorem f49_97 : mFetch 49 97 = some (.ifCond .eq 41, 3, 138, 0, 0, 0) := by decide +kernel
theorem f49_100 : mFetch 49 100 = some (.aload_n 1, 1, 0, 0, 0, 0) := by decide +kernel
theorem f49_101 : mFetch 49 101 = some (.iload 4, 2, 0, 0, 0, 0) := by decide +kernel
theorem f49_103 : mFetch 49 103 = some (.iload_n 3, 1, 0, 0, 0, 0) := by decide +kernel
theorem f49_104 : mFetch 49 104 = some (.invokestatic 74, 3, 50, 0, 3, 99) := by decide +kernel
theorem f49_107 : mFetch 49 107 = some (.ifCond .ne 31, 3, 138, 0, 0, 0) := by decide +kernel
theorem f49_110 : mFetch 49 110 = some (.aload_n 0, 1, 0, 0, 0, 0) := by decide +kernel
theorem f49_111 : mFetch 49 111 = some (.getfield 20, 3, 2, 2, 2, 1) := by decide +kernel
theorem f49_114 : mFetch 49 114 = some (.iload 4, 2, 0, 0, 0, 0) := by decide +kernel
theorem f49_116 : mFetch 49 116 = some (.aload_n 0, 1, 0, 0, 0, 0) := by decide +kernel
theorem f49_117 : mFetch 49 117 = some (.iload_n 2, 1, 0, 0, 0, 0) := by decide +kernel
theorem f49_118 : mFetch 49 118 = some (.invokevirtual 78, 3, 51, 0, 2, 2) := by decide +kernel
theorem f49_121 : mFetch 49 121 = some (.iastore, 1, 0, 0, 0, 0) := by decide +kernel
theorem f49_122 : mFetch 49 122 = some (.aload_n 0, 1, 0, 0, 0, 0) := by decide +kernel
theorem f49_123 : mFetch 49 123 = some (.getfield 23, 3, 2, 3, 2, 1) := by decide +kernel
theorem f49_126 : mFetch 49 126 = some (.aload_n 0, 1, 0, 0, 0, 0) := by decide +kernel
theorem f49_127 : mFetch 49 127 = some (.getfield 20, 3, 2, 2, 2, 1) := by decide +kernel
theorem f49_130 : mFetch 49 130 = some (.iload 4, 2, 0, 0, 0, 0) := by decide +kernel
theorem f49_132 : mFetch 49 132 = some (.iaload, 1, 0, 0, 0, 0) := by decide +kernel
theorem f49_133 : mFetch 49 133 = some (.dup2, 1, 0, 0, 0, 0) := by decide +kernel
theorem f49_134 : mFetch 49 134 = some (.iaload, 1, 0, 0, 0, 0) := by decide +kernel
theorem f49_135 : mFetch 49 135 = some (.iconst 1, 1, 0, 0, 0, 0) := by decide +kernel
theorem f49_136 : mFetch 49 136 = some (.iadd, 1, 0, 0, 0, 0) := by decide +kernel
theorem f49_137 : mFetch 49 137 = some (.iastore, 1, 0, 0, 0, 0) := by decide +kernel
theorem f49_138 : mFetch 49 138 = some (.iinc 4 1, 3, 0, 0, 0, 0) := by decide +kernel
theorem f49_141 : mFetch 49 141 = some (.goto (-60), 3, 81, 0, 0, 0) := by decide +kernel
theorem f49_144 : mFetch 49 144 = some (.return_, 1, 0, 0, 0, 0) := by decide +kernel
theorem b49_0 {X : (Nat → Int) × Nat} {d : Nat} {s : mSt} {Q : mQ} {a1 : Nat} {x2 : Int} {x3 : Int} {l4 : Option mV} (h1 : isBd a1) (h_1 : Wp X d 49 3 [some (mR 76), some (mR a1), some (mI x2), some (mI x3), some (mI 0)] [] s Q) : Wp X d 49 0 [some (mR 76), some (mR a1), some (mI x2), some (mI x3), l4] [] s Q := Wp_step k49 f49_0 (Wp_step k49 f49_1 (h_1))
theorem b49_3 {X : (Nat → Int) × Nat} {d : Nat} {s : mSt} {Q : mQ} {a1 : Nat} {x2 : Int} {x3 : Int} {x4 : Int} (h1 : isBd a1) (h_1 : 6 ≤ x4 → Wp X d 49 24 [some (mR 76), some (mR a1), some (mI x2), some (mI x3), some (mI x4)] [] s Q) (h_2 : ¬ 6 ≤ x4 → Wp X d 49 10 [some (mR 76), some (mR a1), some (mI x2), some (mI x3), some (mI x4)] [] s Q) : Wp X d 49 3 [some (mR 76), some (mR a1), some (mI x2), some (mI x3), some (mI x4)] [] s Q := Wp_step k49 f49_3 (Wp_step k49 f49_5 (Wp_step k49 f49_7 ⟨h_1, h_2⟩))
theorem b49_10 {X : (Nat → Int) × Nat} {d : Nat} {s : mSt} {Q : mQ} {a1 : Nat} {x2 : Int} {x3 : Int} {x4 : Int} (h1 : isBd a1) (h_1 : 0 ≤ x4 ∧ x4 < 6) (h_2 : Wp X d 49 3 [some (mR 76), some (mR a1), some (mI x2), some (mI x3), some (mI (w32 (x4 + 1)))] [] (uS s 82 x4.toNat 0) Q) : Wp X d 49 10 [some (mR 76), some (mR a1), some (mI x2), some (mI x3), some (mI x4)] [] s Q := Wp_step k49 f49_10 (Wp_step k49 f49_11 ⟨kf_76, 82, rf_76_3, Wp_step k49 f49_14 (Wp_step k49 f49_16 (Wp_step k49 f49_17 ⟨6, af_82, h_1, Wp_step k49 f49_18 (Wp_step k49 f49_21 (h_2))⟩))⟩)
theorem b49_24 {X : (Nat → Int) × Nat} {d : Nat} {s : mSt} {Q : mQ} {a1 : Nat} {x2 : Int} {x3 : Int} {x4 : Int} (h1 : isBd a1) (h_1 : Wp X d 49 27 [some (mR 76), some (mR a1), some (mI x2), some (mI x3), some (mI 0)] [] s Q) : Wp X d 49 24 [some (mR 76), some (mR a1), some (mI x2), some (mI x3), some (mI x4)] [] s Q := Wp_step k49 f49_24 (Wp_step k49 f49_25 (h_1))
theorem b49_27 {X : (Nat → Int) × Nat} {d : Nat} {s : mSt} {Q : mQ} {a1 : Nat} {x2 : Int} {x3 : Int} {x4 : Int} (h1 : isBd a1) (h_1 : (s a1 3) ≤ x4 → Wp X d 49 78 [some (mR 76), some (mR a1), some (mI x2), some (mI x3), some (mI x4)] [] s Q) (h_2 : ¬ (s a1 3) ≤ x4 → Wp X d 49 36 [some (mR 76), some (mR a1), some (mI x2), some (mI x3), some (mI x4)] [] s Q) : Wp X d 49 27 [some (mR 76), some (mR a1), some (mI x2), some (mI x3), some (mI x4)] [] s Q := Wp_step k49 f49_27 (Wp_step k49 f49_29 (Wp_step k49 f49_30 ⟨(bd_k h1), Wp_step k49 f49_33 ⟨h_1, h_2⟩⟩))
theorem b49_36 {X : (Nat → Int) × Nat} {d : Nat} {s : mSt} {Q : mQ} {a1 : Nat} {x2 : Int} {x3 : Int} {x4 : Int} (h1 : isBd a1) (h_1 : Sp X d 20 [mR a1, mI x4, mI x3] s (fun r s' => ∃ v : Int, r = some (mI v) ∧ Wp X (d + 1) 49 43 [some (mR 76), some (mR a1), some (mI x2), some (mI x3), some (mI x4)] [mI v] s' Q)) : Wp X (d + 1) 49 36 [some (mR 76), some (mR a1), some (mI x2), some (mI x3), some (mI x4)] [] s Q := Wp_step k49 f49_36 (Wp_step k49 f49_37 (Wp_step k49 f49_39 (Wp_step k49 f49_40 ⟨⟨(bd_k h1), Nat.le_of_ble_eq_true rfl⟩, Nat.le_refl _, _, rfl, Sp_E h_1⟩)))
theorem b49_43 {X : (Nat → Int) × Nat} {d : Nat} {s : mSt} {Q : mQ} {a1 : Nat} {x2 : Int} {x3 : Int} {x4 : Int} {xt0 : Int} (h1 : isBd a1) (h_1 : xt0 = 0 → Wp X d 49 72 [some (mR 76), some (mR a1), some (mI x2), some (mI x3), some (mI x4)] [] s Q) (h_2 : ¬ xt0 = 0 → Wp X d 49 46 [some (mR 76), some (mR a1), some (mI x2), some (mI x3), some (mI x4)] [] s Q) : Wp X d 49 43 [some (mR 76), some (mR a1), some (mI x2), some (mI x3), some (mI x4)] [mI xt0] s Q := Wp_step k49 f49_43 ⟨h_1, h_2⟩
theorem b49_46 {X : (Nat → Int) × Nat} {d : Nat} {s : mSt} {Q : mQ} {a1 : Nat} {x2 : Int} {x3 : Int} {x4 : Int} (h1 : isBd a1) (h_1 : Sp X d 50 [mR a1, mI x4, mI x3] s (fun r s' => ∃ v : Int, r = some (mI v) ∧ Wp X (d + 1) 49 53 [some (mR 76), some (mR a1), some (mI x2), some (mI x3), some (mI x4)] [mI v] s' Q)) : Wp X (d + 1) 49 46 [some (mR 76), some (mR a1), some (mI x2), some (mI x3), some (mI x4)] [] s Q := Wp_step k49 f49_46 (Wp_step k49 f49_47 (Wp_step k49 f49_49 (Wp_step k49 f49_50 ⟨⟨Nat.le_of_ble_eq_true rfl, Nat.le_refl _⟩, _, rfl, Sp_E h_1⟩)))
theorem b49_53 {X : (Nat → Int) × Nat} {d : Nat} {s : mSt} {Q : mQ} {a1 : Nat} {x2 : Int} {x3 : Int} {x4 : Int} {xt0 : Int} (h1 : isBd a1) (h_1 : xt0 = 0 → Wp X d 49 72 [some (mR 76), some (mR a1), some (mI x2), some (mI x3), some (mI x4)] [] s Q) (h_2 : ¬ xt0 = 0 → Wp X d 49 56 [some (mR 76), some (mR a1), some (mI x2), some (mI x3), some (mI x4)] [] s Q) : Wp X d 49 53 [some (mR 76), some (mR a1), some (mI x2), some (mI x3), some (mI x4)] [mI xt0] s Q := Wp_step k49 f49_53 ⟨h_1, h_2⟩
theorem b49_56 {X : (Nat → Int) × Nat} {d : Nat} {s : mSt} {Q : mQ} {a1 : Nat} {x2 : Int} {x3 : Int} {x4 : Int} (h1 : isBd a1) (h_1 : 0 ≤ x4 ∧ x4 < 6) (h_2 : 0 ≤ (s 81 x4.toNat) ∧ (s 81 x4.toNat) < 6) (h_3 : 0 ≤ (s 81 x4.toNat) ∧ (s 81 x4.toNat) < 6) (h_4 : Wp X d 49 72 [some (mR 76), some (mR a1), some (mI x2), some (mI x3), some (mI x4)] [] (uS s 82 ((s 81 x4.toNat).toNat) (w32 ((s 82 (s 81 x4.toNat).toNat) + 1))) Q) : Wp X d 49 56 [some (mR 76), some (mR a1), some (mI x2), some (mI x3), some (mI x4)] [] s Q := Wp_step k49 f49_56 (Wp_step k49 f49_57 ⟨kf_76, 82, rf_76_3, Wp_step k49 f49_60 (Wp_step k49 f49_61 ⟨kf_76, 81, rf_76_2, Wp_step k49 f49_64 (Wp_step k49 f49_66 ⟨6, af_81, h_1, Wp_step k49 f49_67 (Wp_step k49 f49_68 ⟨6, af_82, h_2, Wp_step k49 f49_69 (Wp_step k49 f49_70 (Wp_step k49 f49_71 ⟨6, af_82, h_3, h_4⟩))⟩)⟩)⟩)⟩)
theorem b49_72 {X : (Nat → Int) × Nat} {d : Nat} {s : mSt} {Q : mQ} {a1 : Nat} {x2 : Int} {x3 : Int} {x4 : Int} (h1 : isBd a1) (h_1 : Wp X d 49 27 [some (mR 76), some (mR a1), some (mI x2), some (mI x3), some (mI (w32 (x4 + 1)))] [] s Q) : Wp X d 49 72 [some (mR 76), some (mR a1), some (mI x2), some (mI x3), some (mI x4)] [] s Q := Wp_step k49 f49_72 (Wp_step k49 f49_75 (h_1))
theorem b49_78 {X : (Nat → Int) × Nat} {d : Nat} {s : mSt} {Q : mQ} {a1 : Nat} {x2 : Int} {x3 : Int} {x4 : Int} (h1 : isBd a1) (h_1 : Wp X d 49 81 [some (mR 76), some (mR a1), some (mI x2), some (mI x3), some (mI 0)] [] s Q) : Wp X d 49 78 [some (mR 76), some (mR a1), some (mI x2), some (mI x3), some (mI x4)] [] s Q := Wp_step k49 f49_78 (Wp_step k49 f49_79 (h_1))
theorem b49_81 {X : (Nat → Int) × Nat} {d : Nat} {s : mSt} {Q : mQ} {a1 : Nat} {x2 : Int} {x3 : Int} {x4 : Int} (h1 : isBd a1) (h_1 : (s a1 3) ≤ x4 → Wp X d 49 144 [some (mR 76), some (mR a1), some (mI x2), some (mI x3), some (mI x4)] [] s Q) (h_2 : ¬ (s a1 3) ≤ x4 → Wp X d 49 90 [some (mR 76), some (mR a1), some (mI x2), some (mI x3), some (mI x4)] [] s Q) : Wp X d 49 81 [some (mR 76), some (mR a1), some (mI x2), some (mI x3), some (mI x4)] [] s Q := Wp_step k49 f49_81 (Wp_step k49 f49_83 (Wp_step k49 f49_84 ⟨(bd_k h1), Wp_step k49 f49_87 ⟨h_1, h_2⟩⟩))
theorem b49_90 {X : (Nat → Int) × Nat} {d : Nat} {s : mSt} {Q : mQ} {a1 : Nat} {x2 : Int} {x3 : Int} {x4 : Int} (h1 : isBd a1) (h_1 : Sp X d 20 [mR a1, mI x4, mI x3] s (fun r s' => ∃ v : Int, r = some (mI v) ∧ Wp X (d + 1) 49 97 [some (mR 76), some (mR a1), some (mI x2), some (mI x3), some (mI x4)] [mI v] s' Q)) : Wp X (d + 1) 49 90 [some (mR 76), some (mR a1), some (mI x2), some (mI x3), some (mI x4)] [] s Q := Wp_step k49 f49_90 (Wp_step k49 f49_91 (Wp_step k49 f49_93 (Wp_step k49 f49_94 ⟨⟨(bd_k h1), Nat.le_of_ble_eq_true rfl⟩, Nat.le_refl _, _, rfl, Sp_E h_1⟩)))
theorem b49_97 {X : (Nat → Int) × Nat} {d : Nat} {s : mSt} {Q : mQ} {a1 : Nat} {x2 : Int} {x3 : Int} {x4 : Int} {xt0 : Int} (h1 : isBd a1) (h_1 : xt0 = 0 → Wp X d 49 138 [some (mR 76), some (mR a1), some (mI x2), some (mI x3), some (mI x4)] [] s Q) (h_2 : ¬ xt0 = 0 → Wp X d 49 100 [some (mR 76), some (mR a1), some (mI x2), some (mI x3), some (mI x4)] [] s Q) : Wp X d 49 97 [some (mR 76), some (mR a1), some (mI x2), some (mI x3), some (mI x4)] [mI xt0] s Q := Wp_step k49 f49_97 ⟨h_1, h_2⟩
theorem b49_100 {X : (Nat → Int) × Nat} {d : Nat} {s : mSt} {Q : mQ} {a1 : Nat} {x2 : Int} {x3 : Int} {x4 : Int} (h1 : isBd a1) (h_1 : Sp X d 50 [mR a1, mI x4, mI x3] s (fun r s' => ∃ v : Int, r = some (mI v) ∧ Wp X (d + 1) 49 107 [some (mR 76), some (mR a1), some (mI x2), some (mI x3), some (mI x4)] [mI v] s' Q)) : Wp X (d + 1) 49 100 [some (mR 76), some (mR a1), some (mI x2), some (mI x3), some (mI x4)] [] s Q := Wp_step k49 f49_100 (Wp_step k49 f49_101 (Wp_step k49 f49_103 (Wp_step k49 f49_104 ⟨⟨Nat.le_of_ble_eq_true rfl, Nat.le_refl _⟩, _, rfl, Sp_E h_1⟩)))
theorem b49_107 {X : (Nat → Int) × Nat} {d : Nat} {s : mSt} {Q : mQ} {a1 : Nat} {x2 : Int} {x3 : Int} {x4 : Int} {xt0 : Int} (h1 : isBd a1) (h_1 : ¬ xt0 = 0 → Wp X d 49 138 [some (mR 76), some (mR a1), some (mI x2), some (mI x3), some (mI x4)] [] s Q) (h_2 : xt0 = 0 → Wp X d 49 110 [some (mR 76), some (mR a1), some (mI x2), some (mI x3), some (mI x4)] [] s Q) : Wp X d 49 107 [some (mR 76), some (mR a1), some (mI x2), some (mI x3), some (mI x4)] [mI xt0] s Q := Wp_step k49 f49_107 ⟨h_1, h_2⟩
theorem b49_110 {X : (Nat → Int) × Nat} {d : Nat} {s : mSt} {Q : mQ} {a1 : Nat} {x2 : Int} {x3 : Int} {x4 : Int} (h1 : isBd a1) (h_1 : Sp X d 51 [mR 76, mI x2] s (fun r s' => ∃ v : Int, r = some (mI v) ∧ Wp X (d + 1) 49 121 [some (mR 76), some (mR a1), some (mI x2), some (mI x3), some (mI x4)] [mI v, mI x4, mR 81] s' Q)) : Wp X (d + 1) 49 110 [some (mR 76), some (mR a1), some (mI x2), some (mI x3), some (mI x4)] [] s Q := Wp_step k49 f49_110 (Wp_step k49 f49_111 ⟨kf_76, 81, rf_76_2, Wp_step k49 f49_114 (Wp_step k49 f49_116 (Wp_step k49 f49_117 (Wp_step k49 f49_118 ⟨⟨kf_76, Nat.le_of_ble_eq_true rfl⟩, Nat.le_refl _, _, rfl, Sp_E h_1⟩)))⟩)
theorem b49_121 {X : (Nat → Int) × Nat} {d : Nat} {s : mSt} {Q : mQ} {a1 : Nat} {x2 : Int} {x3 : Int} {x4 : Int} {xt1 : Int} {xt2 : Int} (h1 : isBd a1) (h_1 : 0 ≤ xt1 ∧ xt1 < 6) (h_2 : 0 ≤ x4 ∧ x4 < 6) (h_3 : 0 ≤ ((uS s 81 xt1.toNat xt2) 81 x4.toNat) ∧ ((uS s 81 xt1.toNat xt2) 81 x4.toNat) < 6) (h_4 : 0 ≤ ((uS s 81 xt1.toNat xt2) 81 x4.toNat) ∧ ((uS s 81 xt1.toNat xt2) 81 x4.toNat) < 6) (h_5 : Wp X d 49 138 [some (mR 76), some (mR a1), some (mI x2), some (mI x3), some (mI x4)] [] (uS (uS s 81 xt1.toNat xt2) 82 (((uS s 81 xt1.toNat xt2) 81 x4.toNat).toNat) (w32 (((uS s 81 xt1.toNat xt2) 82 ((uS s 81 xt1.toNat xt2) 81 x4.toNat).toNat) + 1))) Q) : Wp X d 49 121 [some (mR 76), some (mR a1), some (mI x2), some (mI x3), some (mI x4)] [mI xt2, mI xt1, mR 81] s Q := Wp_step k49 f49_121 ⟨6, af_81, h_1, Wp_step k49 f49_122 (Wp_step k49 f49_123 ⟨kf_76, 82, rf_76_3, Wp_step k49 f49_126 (Wp_step k49 f49_127 ⟨kf_76, 81, rf_76_2, Wp_step k49 f49_130 (Wp_step k49 f49_132 ⟨6, af_81, h_2, Wp_step k49 f49_133 (Wp_step k49 f49_134 ⟨6, af_82, h_3, Wp_step k49 f49_135 (Wp_step k49 f49_136 (Wp_step k49 f49_137 ⟨6, af_82, h_4, h_5⟩))⟩)⟩)⟩)⟩)⟩
theorem b49_138 {X : (Nat → Int) × Nat} {d : Nat} {s : mSt} {Q : mQ} {a1 : Nat} {x2 : Int} {x3 : Int} {x4 : Int} (h1 : isBd a1) (h_1 : Wp X d 49 81 [some (mR 76), some (mR a1), some (mI x2), some (mI x3), some (mI (w32 (x4 + 1)))] [] s Q) : Wp X d 49 138 [some (mR 76), some (mR a1), some (mI x2), some (mI x3), some (mI x4)] [] s Q := Wp_step k49 f49_138 (Wp_step k49 f49_141 (h_1))
theorem b49_144 {X : (Nat → Int) × Nat} {d : Nat} {s : mSt} {Q : mQ} {a1 : Nat} {x2 : Int} {x3 : Int} {x4 : Int} (h1 : isBd a1) (h_1 : Q none s) : Wp X d 49 144 [some (mR 76), some (mR a1), some (mI x2), some (mI x3), some (mI x4)] [] s Q := Wp_step k49 f49_144 ⟨⟨rfl, Or.inl rfl⟩, h_1⟩
theorem e49 {X : (Nat → Int) × Nat} {d : Nat} {s : mSt} {Q : mQ} {a1 : Nat} {x2 : Int} {x3 : Int} (h : Wp X d 49 0 [some (mR 76), some (mR a1), some (mI x2), some (mI x3), none] [] s Q) : Sp X d 49 [mR 76, mR a1, mI x2, mI x3] s Q := Sp_of (show mCe 49 = 0 by decide +kernel) (by rw [show mML 49 = 5 by decide +kernel]; rfl) (Nat.le_trans (Nat.le_of_ble_eq_true (show Nat.ble (mArgs _).length 5 = true from rfl)) (show 5 ≤ mML 49 by decide +kernel)) h
-- 50 ClashDay$Lines.wasKept(LClashDay$Board;II)Z
theorem k50 : mRk 50 = 2 := by decide +kernel
theorem f50_0 : mFetch 50 0 = some (.iload_n 2, 1, 0, 0, 0, 0) := by decide +kernel
theorem f50_1 : mFetch 50 1 = some (.ifCond .le 18, 3, 19, 0, 0, 0) := by decide +kernel
theorem f50_4 : mFetch 50 4 = some (.aload_n 0, 1, 0, 0, 0, 0) := by decide +kernel
theorem f50_5 : mFetch 50 5 = some (.iload_n 1, 1, 0, 0, 0, 0) := by decide +kernel
theorem f50_6 : mFetch 50 6 = some (.iload_n 2, 1, 0, 0, 0, 0) := by decide +kernel
theorem f50_7 : mFetch 50 7 = some (.iconst 1, 1, 0, 0, 0, 0) := by decide +kernel
theorem f50_8 : mFetch 50 8 = some (.isub, 1, 0, 0, 0, 0) := by decide +kernel
theorem f50_9 : mFetch 50 9 = some (.invokevirtual 26, 3, 20, 0, 3, 0) := by decide +kernel
theorem f50_12 : mFetch 50 12 = some (.ifCond .eq 7, 3, 19, 0, 0, 0) := by decide +kernel
theorem f50_15 : mFetch 50 15 = some (.iconst 1, 1, 0, 0, 0, 0) := by decide +kernel
theorem f50_16 : mFetch 50 16 = some (.goto 4, 3, 20, 0, 0, 0) := by decide +kernel
theorem f50_19 : mFetch 50 19 = some (.iconst 0, 1, 0, 0, 0, 0) := by decide +kernel
theorem f50_20 : mFetch 50 20 = some (.ireturn, 1, 0, 0, 0, 0) := by decide +kernel
theorem b50_0 {X : (Nat → Int) × Nat} {d : Nat} {s : mSt} {Q : mQ} {a0 : Nat} {x1 : Int} {x2 : Int} (h0 : isBd a0) (h_1 : x2 ≤ 0 → Wp X d 50 19 [some (mR a0), some (mI x1), some (mI x2)] [] s Q) (h_2 : ¬ x2 ≤ 0 → Wp X d 50 4 [some (mR a0), some (mI x1), some (mI x2)] [] s Q) : Wp X d 50 0 [some (mR a0), some (mI x1), some (mI x2)] [] s Q := Wp_step k50 f50_0 (Wp_step k50 f50_1 ⟨h_1, h_2⟩)
theorem b50_4 {X : (Nat → Int) × Nat} {d : Nat} {s : mSt} {Q : mQ} {a0 : Nat} {x1 : Int} {x2 : Int} (h0 : isBd a0) (h_1 : Sp X d 20 [mR a0, mI x1, mI (w32 (x2 - 1))] s (fun r s' => ∃ v : Int, r = some (mI v) ∧ Wp X (d + 1) 50 12 [some (mR a0), some (mI x1), some (mI x2)] [mI v] s' Q)) : Wp X (d + 1) 50 4 [some (mR a0), some (mI x1), some (mI x2)] [] s Q := Wp_step k50 f50_4 (Wp_step k50 f50_5 (Wp_step k50 f50_6 (Wp_step k50 f50_7 (Wp_step k50 f50_8 (Wp_step k50 f50_9 ⟨⟨(bd_k h0), Nat.le_of_ble_eq_true rfl⟩, Nat.le_refl _, _, rfl, Sp_E h_1⟩)))))
theorem b50_12 {X : (Nat → Int) × Nat} {d : Nat} {s : mSt} {Q : mQ} {a0 : Nat} {x1 : Int} {x2 : Int} {xt0 : Int} (h0 : isBd a0) (h_1 : xt0 = 0 → Wp X d 50 19 [some (mR a0), some (mI x1), some (mI x2)] [] s Q) (h_2 : ¬ xt0 = 0 → Wp X d 50 15 [some (mR a0), some (mI x1), some (mI x2)] [] s Q) : Wp X d 50 12 [some (mR a0), some (mI x1), some (mI x2)] [mI xt0] s Q := Wp_step k50 f50_12 ⟨h_1, h_2⟩
theorem b50_15 {X : (Nat → Int) × Nat} {d : Nat} {s : mSt} {Q : mQ} {a0 : Nat} {x1 : Int} {x2 : Int} (h0 : isBd a0) (h_1 : Wp X d 50 20 [some (mR a0), some (mI x1), some (mI x2)] [mI 1] s Q) : Wp X d 50 15 [some (mR a0), some (mI x1), some (mI x2)] [] s Q := Wp_step k50 f50_15 (Wp_step k50 f50_16 (h_1))
theorem b50_19 {X : (Nat → Int) × Nat} {d : Nat} {s : mSt} {Q : mQ} {a0 : Nat} {x1 : Int} {x2 : Int} (h0 : isBd a0) (h_1 : Wp X d 50 20 [some (mR a0), some (mI x1), some (mI x2)] [mI 0] s Q) : Wp X d 50 19 [some (mR a0), some (mI x1), some (mI x2)] [] s Q := Wp_step k50 f50_19 (h_1)
theorem b50_20 {X : (Nat → Int) × Nat} {d : Nat} {s : mSt} {Q : mQ} {a0 : Nat} {x1 : Int} {x2 : Int} {xt0 : Int} (h0 : isBd a0) (h_1 : Q (some (mI xt0)) s) (h_2 : xt0 = 0 ∨ xt0 = 1) : Wp X d 50 20 [some (mR a0), some (mI x1), some (mI x2)] [mI xt0] s Q := Wp_step k50 f50_20 ⟨⟨rfl, h_2⟩, h_1⟩
theorem e50 {X : (Nat → Int) × Nat} {d : Nat} {s : mSt} {Q : mQ} {a0 : Nat} {x1 : Int} {x2 : Int} (h : Wp X d 50 0 [some (mR a0), some (mI x1), some (mI x2)] [] s Q) : Sp X d 50 [mR a0, mI x1, mI x2] s Q := Sp_of (show mCe 50 = 0 by decide +kernel) (by rw [show mML 50 = 3 by decide +kernel]; rfl) (Nat.le_trans (Nat.le_of_ble_eq_true (show Nat.ble (mArgs _).length 3 = true from rfl)) (show 3 ≤ mML 50 by decide +kernel)) h
-- 51 ClashDay$Lines.leastThatCan(I)I
theorem k51 : mRk 51 = 1 := by decide +kernel
theorem f51_0 : mFetch 51 0 = some (.iconst 0, 1, 0, 0, 0, 0) := by decide +kernel
theorem f51_1 : mFetch 51 1 = some (.istore_n 2, 1, 0, 0, 0, 0) := by decide +kernel
theorem f51_2 : mFetch 51 2 = some (.iload_n 2, 1, 0, 0, 0, 0) := by decide +kernel
theorem f51_3 : mFetch 51 3 = some (.iconst 5, 1, 0, 0, 0, 0) := by decide +kernel
theorem f51_4 : mFetch 51 4 = some (.if_icmp .ge 21, 3, 25, 0, 0, 0) := by decide +kernel
theorem f51_7 : mFetch 51 7 = some (.aload_n 0, 1, 0, 0, 0, 0) := by decide +kernel
theorem f51_8 : mFetch 51 8 = some (.getfield 23, 3, 2, 3, 2, 1) := by decide +kernel
theorem f51_11 : mFetch 51 11 = some (.iload_n 2, 1, 0, 0, 0, 0) := by decide +kernel
theorem f51_12 : mFetch 51 12 = some (.iaload, 1, 0, 0, 0, 0) := by decide +kernel
theorem f51_13 : mFetch 51 13 = some (.iload_n 1, 1, 0, 0, 0, 0) := by decide +kernel
theorem f51_14 : mFetch 51 14 = some (.if_icmp .ge 5, 3, 19, 0, 0, 0) := by decide +kernel
theorem f51_17 : mFetch 51 17 = some (.iload_n 2, 1, 0, 0, 0, 0) := by decide +kernel
theorem f51_18 : mFetch 51 18 = some (.ireturn, 1, 0, 0, 0, 0) := by decide +kernel
theorem f51_19 : mFetch 51 19 = some (.iinc 2 1, 3, 0, 0, 0, 0) := by decide +kernel
theorem f51_22 : mFetch 51 22 = some (.goto (-20), 3, 2, 0, 0, 0) := by decide +kernel
theorem f51_25 : mFetch 51 25 = some (.iconst 5, 1, 0, 0, 0, 0) := by decide +kernel
theorem f51_26 : mFetch 51 26 = some (.ireturn, 1, 0, 0, 0, 0) := by decide +kernel
theorem b51_0 {X : (Nat → Int) × Nat} {d : Nat} {s : mSt} {Q : mQ} {x1 : Int} {l2 : Option mV} (h_1 : Wp X d 51 2 [some (mR 76), some (mI x1), some (mI 0)] [] s Q) : Wp X d 51 0 [some (mR 76), some (mI x1), l2] [] s Q := Wp_step k51 f51_0 (Wp_step k51 f51_1 (h_1))
theorem b51_2 {X : (Nat → Int) × Nat} {d : Nat} {s : mSt} {Q : mQ} {x1 : Int} {x2 : Int} (h_1 : 5 ≤ x2 → Wp X d 51 25 [some (mR 76), some (mI x1), some (mI x2)] [] s Q) (h_2 : ¬ 5 ≤ x2 → Wp X d 51 7 [some (mR 76), some (mI x1), some (mI x2)] [] s Q) : Wp X d 51 2 [some (mR 76), some (mI x1), some (mI x2)] [] s Q := Wp_step k51 f51_2 (Wp_step k51 f51_3 (Wp_step k51 f51_4 ⟨h_1, h_2⟩))
theorem b51_7 {X : (Nat → Int) × Nat} {d : Nat} {s : mSt} {Q : mQ} {x1 : Int} {x2 : Int} (h_1 : 0 ≤ x2 ∧ x2 < 6) (h_2 : x1 ≤ (s 82 x2.toNat) → Wp X d 51 19 [some (mR 76), some (mI x1), some (mI x2)] [] s Q) (h_3 : ¬ x1 ≤ (s 82 x2.toNat) → Wp X d 51 17 [some (mR 76), some (mI x1), some (mI x2)] [] s Q) : Wp X d 51 7 [some (mR 76), some (mI x1), some (mI x2)] [] s Q := Wp_step k51 f51_7 (Wp_step k51 f51_8 ⟨kf_76, 82, rf_76_3, Wp_step k51 f51_11 (Wp_step k51 f51_12 ⟨6, af_82, h_1, Wp_step k51 f51_13 (Wp_step k51 f51_14 ⟨h_2, h_3⟩)⟩)⟩)
theorem b51_17 {X : (Nat → Int) × Nat} {d : Nat} {s : mSt} {Q : mQ} {x1 : Int} {x2 : Int} (h_1 : Q (some (mI x2)) s) : Wp X d 51 17 [some (mR 76), some (mI x1), some (mI x2)] [] s Q := Wp_step k51 f51_17 (Wp_step k51 f51_18 ⟨⟨rfl, trivial⟩, h_1⟩)
theorem b51_19 {X : (Nat → Int) × Nat} {d : Nat} {s : mSt} {Q : mQ} {x1 : Int} {x2 : Int} (h_1 : Wp X d 51 2 [some (mR 76), some (mI x1), some (mI (w32 (x2 + 1)))] [] s Q) : Wp X d 51 19 [some (mR 76), some (mI x1), some (mI x2)] [] s Q := Wp_step k51 f51_19 (Wp_step k51 f51_22 (h_1))
theorem b51_25 {X : (Nat → Int) × Nat} {d : Nat} {s : mSt} {Q : mQ} {x1 : Int} {x2 : Int} (h_1 : Q (some (mI 5)) s) : Wp X d 51 25 [some (mR 76), some (mI x1), some (mI x2)] [] s Q := Wp_step k51 f51_25 (Wp_step k51 f51_26 ⟨⟨rfl, trivial⟩, h_1⟩)
theorem e51 {X : (Nat → Int) × Nat} {d : Nat} {s : mSt} {Q : mQ} {x1 : Int} (h : Wp X d 51 0 [some (mR 76), some (mI x1), none] [] s Q) : Sp X d 51 [mR 76, mI x1] s Q := Sp_of (show mCe 51 = 0 by decide +kernel) (by rw [show mML 51 = 3 by decide +kernel]; rfl) (Nat.le_trans (Nat.le_of_ble_eq_true (show Nat.ble (mArgs _).length 3 = true from rfl)) (show 3 ≤ mML 51 by decide +kernel)) h
-- 53 ClashDay$Notes.copyFrom(LClashDay$Notes;)V
theorem k53 : mRk 53 = 0 := by decide +kernel
theorem f53_0 : mFetch 53 0 = some (.aload_n 0, 1, 0, 0, 0, 0) := by decide +kernel
theorem f53_1 : mFetch 53 1 = some (.aload_n 1, 1, 0, 0, 0, 0) := by decide +kernel
theorem f53_2 : mFetch 53 2 = some (.getfield 21, 3, 3, 0, 0, 1) := by decide +kernel
theorem f53_5 : mFetch 53 5 = some (.putfield 21, 3, 3, 0, 0, 1) := by decide +kernel
theorem f53_8 : mFetch 53 8 = some (.aload_n 1, 1, 0, 0, 0, 0) := by decide +kernel
theorem f53_9 : mFetch 53 9 = some (.getfield 11, 3, 3, 1, 2, 1) := by decide +kernel
theorem f53_12 : mFetch 53 12 = some (.iconst 0, 1, 0, 0, 0, 0) := by decide +kernel
theorem f53_13 : mFetch 53 13 = some (.aload_n 0, 1, 0, 0, 0, 0) := by decide +kernel
theorem f53_14 : mFetch 53 14 = some (.getfield 11, 3, 3, 1, 2, 1) := by decide +kernel
theorem f53_17 : mFetch 53 17 = some (.iconst 0, 1, 0, 0, 0, 0) := by decide +kernel
theorem f53_18 : mFetch 53 18 = some (.bipush 10, 2, 0, 0, 0, 0) := by decide +kernel
theorem f53_20 : mFetch 53 20 = some (.invokestatic 25, 3, (-2), 0, 0, 0) := by decide +kernel
theorem f53_23 : mFetch 53 23 = some (.aload_n 1, 1, 0, 0, 0, 0) := by decide +kernel
theorem f53_24 : mFetch 53 24 = some (.getfield 15, 3, 3, 2, 2, 1) := by decide +kernel
theorem f53_27 : mFetch 53 27 = some (.iconst 0, 1, 0, 0, 0, 0) := by decide +kernel
theorem f53_28 : mFetch 53 28 = some (.aload_n 0, 1, 0, 0, 0, 0) := by decide +kernel
theorem f53_29 : mFetch 53 29 = some (.getfield 15, 3, 3, 2, 2, 1) := by decide +kernel
theorem f53_32 : mFetch 53 32 = some (.iconst 0, 1, 0, 0, 0, 0) := by decide +kernel
theorem f53_33 : mFetch 53 33 = some (.bipush 10, 2, 0, 0, 0, 0) := by decide +kernel
theorem f53_35 : mFetch 53 35 = some (.invokestatic 25, 3, (-2), 0, 0, 0) := by decide +kernel
theorem f53_38 : mFetch 53 38 = some (.aload_n 1, 1, 0, 0, 0, 0) := by decide +kernel
theorem f53_39 : mFetch 53 39 = some (.getfield 18, 3, 3, 3, 2, 1) := by decide +kernel
theorem f53_42 : mFetch 53 42 = some (.iconst 0, 1, 0, 0, 0, 0) := by decide +kernel
theorem f53_43 : mFetch 53 43 = some (.aload_n 0, 1, 0, 0, 0, 0) := by decide +kernel
theorem f53_44 : mFetch 53 44 = some (.getfield 18, 3, 3, 3, 2, 1) := by decide +kernel
theorem f53_47 : mFetch 53 47 = some (.iconst 0, 1, 0, 0, 0, 0) := by decide +kernel
theorem f53_48 : mFetch 53 48 = some (.bipush 10, 2, 0, 0, 0, 0) := by decide +kernel
theorem f53_50 : mFetch 53 50 = some (.invokestatic 25, 3, (-2), 0, 0, 0) := by decide +kernel
theorem f53_53 : mFetch 53 53 = some (.return_, 1, 0, 0, 0, 0) := by decide +kernel
theorem b53_0 {X : (Nat → Int) × Nat} {d : Nat} {s : mSt} {Q : mQ} {a0 : Nat} {a1 : Nat} (h0 : isNt a0) (h1 : isNt a1) (h_1 : Q none (cS (cS (cS (uS s a0 0 (s a1 0)) (a1 + 1) 0 (a0 + 1) 0 10) (a1 + 2) 0 (a0 + 2) 0 10) (a1 + 3) 0 (a0 + 3) 0 10)) : Wp X (d + 1) 53 0 [some (mR a0), some (mR a1)] [] s Q := Wp_step k53 f53_0 (Wp_step k53 f53_1 (Wp_step k53 f53_2 ⟨(nt_k h1), Wp_step k53 f53_5 ⟨(nt_k h0), Wp_step k53 f53_8 (Wp_step k53 f53_9 ⟨(nt_k h1), (a1 + 1), (nt_r1 h1), Wp_step k53 f53_12 (Wp_step k53 f53_13 (Wp_step k53 f53_14 ⟨(nt_k h0), (a0 + 1), (nt_r1 h0), Wp_step k53 f53_17 (Wp_step k53 f53_18 (Wp_step k53 f53_20 ⟨⟨Nat.succ_pos _, Nat.le_of_ble_eq_true rfl⟩, ⟨10, (nt_a1 h1), ⟨by decide, by decide, by decide⟩⟩, ⟨10, (nt_a1 h0), ⟨by decide, by decide⟩⟩, Wp_step k53 f53_23 (Wp_step k53 f53_24 ⟨(nt_k h1), (a1 + 2), (nt_r2 h1), Wp_step k53 f53_27 (Wp_step k53 f53_28 (Wp_step k53 f53_29 ⟨(nt_k h0), (a0 + 2), (nt_r2 h0), Wp_step k53 f53_32 (Wp_step k53 f53_33 (Wp_step k53 f53_35 ⟨⟨Nat.succ_pos _, Nat.le_of_ble_eq_true rfl⟩, ⟨10, (nt_a2 h1), ⟨by decide, by decide, by decide⟩⟩, ⟨10, (nt_a2 h0), ⟨by decide, by decide⟩⟩, Wp_step k53 f53_38 (Wp_step k53 f53_39 ⟨(nt_k h1), (a1 + 3), (nt_r3 h1), Wp_step k53 f53_42 (Wp_step k53 f53_43 (Wp_step k53 f53_44 ⟨(nt_k h0), (a0 + 3), (nt_r3 h0), Wp_step k53 f53_47 (Wp_step k53 f53_48 (Wp_step k53 f53_50 ⟨⟨Nat.succ_pos _, Nat.le_of_ble_eq_true rfl⟩, ⟨10, (nt_a3 h1), ⟨by decide, by decide, by decide⟩⟩, ⟨10, (nt_a3 h0), ⟨by decide, by decide⟩⟩, Wp_step k53 f53_53 ⟨⟨rfl, Or.inl rfl⟩, h_1⟩⟩))⟩))⟩)⟩))⟩))⟩)⟩))⟩))⟩)⟩⟩))
theorem e53 {X : (Nat → Int) × Nat} {d : Nat} {s : mSt} {Q : mQ} {a0 : Nat} {a1 : Nat} (h : Wp X d 53 0 [some (mR a0), some (mR a1)] [] s Q) : Sp X d 53 [mR a0, mR a1] s Q := Sp_of (show mCe 53 = 0 by decide +kernel) (by rw [show mML 53 = 2 by decide +kernel]; rfl) (Nat.le_trans (Nat.le_of_ble_eq_true (show Nat.ble (mArgs _).length 2 = true from rfl)) (show 2 ≤ mML 53 by decide +kernel)) h
-- 54 ClashDay$Notes.isFull()Z
theorem k54 : mRk 54 = 2 := by decide +kernel
theorem f54_0 : mFetch 54 0 = some (.aload_n 0, 1, 0, 0, 0, 0) := by decide +kernel
theorem f54_1 : mFetch 54 1 = some (.getfield 21, 3, 3, 0, 0, 1) := by decide +kernel
theorem f54_4 : mFetch 54 4 = some (.bipush 10, 2, 0, 0, 0, 0) := by decide +kernel
theorem f54_6 : mFetch 54 6 = some (.if_icmp .lt 7, 3, 13, 0, 0, 0) := by decide +kernel
theorem f54_9 : mFetch 54 9 = some (.iconst 1, 1, 0, 0, 0, 0) := by decide +kernel
theorem f54_10 : mFetch 54 10 = some (.goto 4, 3, 14, 0, 0, 0) := by decide +kernel
theorem f54_13 : mFetch 54 13 = some (.iconst 0, 1, 0, 0, 0, 0) := by decide +kernel
theorem f54_14 : mFetch 54 14 = some (.ireturn, 1, 0, 0, 0, 0) := by decide +kernel
theorem b54_0 {X : (Nat → Int) × Nat} {d : Nat} {s : mSt} {Q : mQ} {a0 : Nat} (h0 : isNt a0) (h_1 : (s a0 0) < 10 → Wp X d 54 13 [some (mR a0)] [] s Q) (h_2 : ¬ (s a0 0) < 10 → Wp X d 54 9 [some (mR a0)] [] s Q) : Wp X d 54 0 [some (mR a0)] [] s Q := Wp_step k54 f54_0 (Wp_step k54 f54_1 ⟨(nt_k h0), Wp_step k54 f54_4 (Wp_step k54 f54_6 ⟨h_1, h_2⟩)⟩)
theorem b54_9 {X : (Nat → Int) × Nat} {d : Nat} {s : mSt} {Q : mQ} {a0 : Nat} (h0 : isNt a0) (h_1 : Wp X d 54 14 [some (mR a0)] [mI 1] s Q) : Wp X d 54 9 [some (mR a0)] [] s Q := Wp_step k54 f54_9 (Wp_step k54 f54_10 (h_1))
theorem b54_13 {X : (Nat → Int) × Nat} {d : Nat} {s : mSt} {Q : mQ} {a0 : Nat} (h0 : isNt a0) (h_1 : Wp X d 54 14 [some (mR a0)] [mI 0] s Q) : Wp X d 54 13 [some (mR a0)] [] s Q := Wp_step k54 f54_13 (h_1)
theorem b54_14 {X : (Nat → Int) × Nat} {d : Nat} {s : mSt} {Q : mQ} {a0 : Nat} {xt0 : Int} (h0 : isNt a0) (h_1 : Q (some (mI xt0)) s) (h_2 : xt0 = 0 ∨ xt0 = 1) : Wp X d 54 14 [some (mR a0)] [mI xt0] s Q := Wp_step k54 f54_14 ⟨⟨rfl, h_2⟩, h_1⟩
theorem e54 {X : (Nat → Int) × Nat} {d : Nat} {s : mSt} {Q : mQ} {a0 : Nat} (h : Wp X d 54 0 [some (mR a0)] [] s Q) : Sp X d 54 [mR a0] s Q := Sp_of (show mCe 54 = 0 by decide +kernel) (by rw [show mML 54 = 1 by decide +kernel]; rfl) (Nat.le_trans (Nat.le_of_ble_eq_true (show Nat.ble (mArgs _).length 1 = true from rfl)) (show 1 ≤ mML 54 by decide +kernel)) h
-- 55 ClashDay$Notes.append(III)V
theorem k55 : mRk 55 = 0 := by decide +kernel
theorem f55_0 : mFetch 55 0 = some (.aload_n 0, 1, 0, 0, 0, 0) := by decide +kernel
theorem f55_1 : mFetch 55 1 = some (.invokevirtual 31, 3, 54, 0, 1, 3) := by decide +kernel
theorem f55_4 : mFetch 55 4 = some (.ifCond .ne 43, 3, 47, 0, 0, 0) := by decide +kernel
theorem f55_7 : mFetch 55 7 = some (.aload_n 0, 1, 0, 0, 0, 0) := by decide +kernel
theorem f55_8 : mFetch 55 8 = some (.getfield 11, 3, 3, 1, 2, 1) := by decide +kernel
theorem f55_11 : mFetch 55 11 = some (.aload_n 0, 1, 0, 0, 0, 0) := by decide +kernel
theorem f55_12 : mFetch 55 12 = some (.getfield 21, 3, 3, 0, 0, 1) := by decide +kernel
theorem f55_15 : mFetch 55 15 = some (.iload_n 1, 1, 0, 0, 0, 0) := by decide +kernel
theorem f55_16 : mFetch 55 16 = some (.iastore, 1, 0, 0, 0, 0) := by decide +kernel
theorem f55_17 : mFetch 55 17 = some (.aload_n 0, 1, 0, 0, 0, 0) := by decide +kernel
theorem f55_18 : mFetch 55 18 = some (.getfield 15, 3, 3, 2, 2, 1) := by decide +kernel
theorem f55_21 : mFetch 55 21 = some (.aload_n 0, 1, 0, 0, 0, 0) := by decide +kernel
theorem f55_22 : mFetch 55 22 = some (.getfield 21, 3, 3, 0, 0, 1) := by decide +kernel
theorem f55_25 : mFetch 55 25 = some (.iload_n 2, 1, 0, 0, 0, 0) := by decide +kernel
theorem f55_26 : mFetch 55 26 = some (.iastore, 1, 0, 0, 0, 0) := by decide +kernel
theorem f55_27 : mFetch 55 27 = some (.aload_n 0, 1, 0, 0, 0, 0) := by decide +kernel
theorem f55_28 : mFetch 55 28 = some (.getfield 18, 3, 3, 3, 2, 1) := by decide +kernel
theorem f55_31 : mFetch 55 31 = some (.aload_n 0, 1, 0, 0, 0, 0) := by decide +kernel
theorem f55_32 : mFetch 55 32 = some (.getfield 21, 3, 3, 0, 0, 1) := by decide +kernel
theorem f55_35 : mFetch 55 35 = some (.iload_n 3, 1, 0, 0, 0, 0) := by decide +kernel
theorem f55_36 : mFetch 55 36 = some (.iastore, 1, 0, 0, 0, 0) := by decide +kernel
theorem f55_37 : mFetch 55 37 = some (.aload_n 0, 1, 0, 0, 0, 0) := by decide +kernel
theorem f55_38 : mFetch 55 38 = some (.dup, 1, 0, 0, 0, 0) := by decide +kernel
theorem f55_39 : mFetch 55 39 = some (.getfield 21, 3, 3, 0, 0, 1) := by decide +kernel
theorem f55_42 : mFetch 55 42 = some (.iconst 1, 1, 0, 0, 0, 0) := by decide +kernel
theorem f55_43 : mFetch 55 43 = some (.iadd, 1, 0, 0, 0, 0) := by decide +kernel
theorem f55_44 : mFetch 55 44 = some (.putfield 21, 3, 3, 0, 0, 1) := by decide +kernel
theorem f55_47 : mFetch 55 47 = some (.return_, 1, 0, 0, 0, 0) := by decide +kernel
theorem b55_0 {X : (Nat → Int) × Nat} {d : Nat} {s : mSt} {Q : mQ} {a0 : Nat} {x1 : Int} {x2 : Int} {x3 : Int} (h0 : isNt a0) (h_1 : Sp X d 54 [mR a0] s (fun r s' => ∃ v : Int, r = some (mI v) ∧ Wp X (d + 1) 55 4 [some (mR a0), some (mI x1), some (mI x2), some (mI x3)] [mI v] s' Q)) : Wp X (d + 1) 55 0 [some (mR a0), some (mI x1), some (mI x2), some (mI x3)] [] s Q := Wp_step k55 f55_0 (Wp_step k55 f55_1 ⟨⟨(nt_k h0), Nat.le_of_ble_eq_true rfl⟩, Nat.le_refl _, _, rfl, Sp_E h_1⟩)
theorem b55_4 {X : (Nat → Int) × Nat} {d : Nat} {s : mSt} {Q : mQ} {a0 : Nat} {x1 : Int} {x2 : Int} {x3 : Int} {xt0 : Int} (h0 : isNt a0) (h_1 : ¬ xt0 = 0 → Wp X d 55 47 [some (mR a0), some (mI x1), some (mI x2), some (mI x3)] [] s Q) (h_2 : xt0 = 0 → Wp X d 55 7 [some (mR a0), some (mI x1), some (mI x2), some (mI x3)] [] s Q) : Wp X d 55 4 [some (mR a0), some (mI x1), some (mI x2), some (mI x3)] [mI xt0] s Q := Wp_step k55 f55_4 ⟨h_1, h_2⟩
theorem b55_7 {X : (Nat → Int) × Nat} {d : Nat} {s : mSt} {Q : mQ} {a0 : Nat} {x1 : Int} {x2 : Int} {x3 : Int} (h0 : isNt a0) (h_1 : 0 ≤ (s a0 0) ∧ (s a0 0) < 10) (h_2 : 0 ≤ ((uS s (a0 + 1) ((s a0 0).toNat) x1) a0 0) ∧ ((uS s (a0 + 1) ((s a0 0).toNat) x1) a0 0) < 10) (h_3 : 0 ≤ ((uS (uS s (a0 + 1) ((s a0 0).toNat) x1) (a0 + 2) (((uS s (a0 + 1) ((s a0 0).toNat) x1) a0 0).toNat) x2) a0 0) ∧ ((uS (uS s (a0 + 1) ((s a0 0).toNat) x1) (a0 + 2) (((uS s (a0 + 1) ((s a0 0).toNat) x1) a0 0).toNat) x2) a0 0) < 10) (h_4 : Wp X d 55 47 [some (mR a0), some (mI x1), some (mI x2), some (mI x3)] [] (uS (uS (uS (uS s (a0 + 1) ((s a0 0).toNat) x1) (a0 + 2) (((uS s (a0 + 1) ((s a0 0).toNat) x1) a0 0).toNat) x2) (a0 + 3) (((uS (uS s (a0 + 1) ((s a0 0).toNat) x1) (a0 + 2) (((uS s (a0 + 1) ((s a0 0).toNat) x1) a0 0).toNat) x2) a0 0).toNat) x3) a0 0 (w32 (((uS (uS (uS s (a0 + 1) ((s a0 0).toNat) x1) (a0 + 2) (((uS s (a0 + 1) ((s a0 0).toNat) x1) a0 0).toNat) x2) (a0 + 3) (((uS (uS s (a0 + 1) ((s a0 0).toNat) x1) (a0 + 2) (((uS s (a0 + 1) ((s a0 0).toNat) x1) a0 0).toNat) x2) a0 0).toNat) x3) a0 0) + 1))) Q) : Wp X d 55 7 [some (mR a0), some (mI x1), some (mI x2), some (mI x3)] [] s Q := Wp_step k55 f55_7 (Wp_step k55 f55_8 ⟨(nt_k h0), (a0 + 1), (nt_r1 h0), Wp_step k55 f55_11 (Wp_step k55 f55_12 ⟨(nt_k h0), Wp_step k55 f55_15 (Wp_step k55 f55_16 ⟨10, (nt_a1 h0), h_1, Wp_step k55 f55_17 (Wp_step k55 f55_18 ⟨(nt_k h0), (a0 + 2), (nt_r2 h0), Wp_step k55 f55_21 (Wp_step k55 f55_22 ⟨(nt_k h0), Wp_step k55 f55_25 (Wp_step k55 f55_26 ⟨10, (nt_a2 h0), h_2, Wp_step k55 f55_27 (Wp_step k55 f55_28 ⟨(nt_k h0), (a0 + 3), (nt_r3 h0), Wp_step k55 f55_31 (Wp_step k55 f55_32 ⟨(nt_k h0), Wp_step k55 f55_35 (Wp_step k55 f55_36 ⟨10, (nt_a3 h0), h_3, Wp_step k55 f55_37 (Wp_step k55 f55_38 (Wp_step k55 f55_39 ⟨(nt_k h0), Wp_step k55 f55_42 (Wp_step k55 f55_43 (Wp_step k55 f55_44 ⟨(nt_k h0), h_4⟩))⟩))⟩)⟩)⟩)⟩)⟩)⟩)⟩)⟩)⟩)
theorem b55_47 {X : (Nat → Int) × Nat} {d : Nat} {s : mSt} {Q : mQ} {a0 : Nat} {x1 : Int} {x2 : Int} {x3 : Int} (h0 : isNt a0) (h_1 : Q none s) : Wp X d 55 47 [some (mR a0), some (mI x1), some (mI x2), some (mI x3)] [] s Q := Wp_step k55 f55_47 ⟨⟨rfl, Or.inl rfl⟩, h_1⟩
theorem e55 {X : (Nat → Int) × Nat} {d : Nat} {s : mSt} {Q : mQ} {a0 : Nat} {x1 : Int} {x2 : Int} {x3 : Int} (h : Wp X d 55 0 [some (mR a0), some (mI x1), some (mI x2), some (mI x3)] [] s Q) : Sp X d 55 [mR a0, mI x1, mI x2, mI x3] s Q := Sp_of (show mCe 55 = 0 by decide +kernel) (by rw [show mML 55 = 4 by decide +kernel]; rfl) (Nat.le_trans (Nat.le_of_ble_eq_true (show Nat.ble (mArgs _).length 4 = true from rfl)) (show 4 ≤ mML 55 by decide +kernel)) h
-- 56 ClashDay$Notes.lastTurn()I
theorem k56 : mRk 56 = 1 := by decide +kernel
theorem f56_0 : mFetch 56 0 = some (.iconst (-1), 1, 0, 0, 0, 0) := by decide +kernel
theorem f56_1 : mFetch 56 1 = some (.istore_n 1, 1, 0, 0, 0, 0) := by decide +kernel
theorem f56_2 : mFetch 56 2 = some (.iconst 0, 1, 0, 0, 0, 0) := by decide +kernel
theorem f56_3 : mFetch 56 3 = some (.istore_n 2, 1, 0, 0, 0, 0) := by decide +kernel
theorem f56_4 : mFetch 56 4 = some (.iload_n 2, 1, 0, 0, 0, 0) := by decide +kernel
theorem f56_5 : mFetch 56 5 = some (.aload_n 0, 1, 0, 0, 0, 0) := by decide +kernel
theorem f56_6 : mFetch 56 6 = some (.getfield 21, 3, 3, 0, 0, 1) := by decide +kernel
theorem f56_9 : mFetch 56 9 = some (.if_icmp .ge 20, 3, 29, 0, 0, 0) := by decide +kernel
theorem f56_12 : mFetch 56 12 = some (.iload_n 1, 1, 0, 0, 0, 0) := by decide +kernel
theorem f56_13 : mFetch 56 13 = some (.aload_n 0, 1, 0, 0, 0, 0) := by decide +kernel
theorem f56_14 : mFetch 56 14 = some (.getfield 11, 3, 3, 1, 2, 1) := by decide +kernel
theorem f56_17 : mFetch 56 17 = some (.iload_n 2, 1, 0, 0, 0, 0) := by decide +kernel
theorem f56_18 : mFetch 56 18 = some (.iaload, 1, 0, 0, 0, 0) := by decide +kernel
theorem f56_19 : mFetch 56 19 = some (.invokestatic 35, 3, (-5), 0, 0, 0) := by decide +kernel
theorem f56_22 : mFetch 56 22 = some (.istore_n 1, 1, 0, 0, 0, 0) := by decide +kernel
theorem f56_23 : mFetch 56 23 = some (.iinc 2 1, 3, 0, 0, 0, 0) := by decide +kernel
theorem f56_26 : mFetch 56 26 = some (.goto (-22), 3, 4, 0, 0, 0) := by decide +kernel
theorem f56_29 : mFetch 56 29 = some (.iload_n 1, 1, 0, 0, 0, 0) := by decide +kernel
theorem f56_30 : mFetch 56 30 = some (.ireturn, 1, 0, 0, 0, 0) := by decide +kernel
theorem b56_0 {X : (Nat → Int) × Nat} {d : Nat} {s : mSt} {Q : mQ} {a0 : Nat} {l1 : Option mV} {l2 : Option mV} (h0 : isNt a0) (h_1 : Wp X d 56 4 [some (mR a0), some (mI (-1)), some (mI 0)] [] s Q) : Wp X d 56 0 [some (mR a0), l1, l2] [] s Q := Wp_step k56 f56_0 (Wp_step k56 f56_1 (Wp_step k56 f56_2 (Wp_step k56 f56_3 (h_1))))
theorem b56_4 {X : (Nat → Int) × Nat} {d : Nat} {s : mSt} {Q : mQ} {a0 : Nat} {x1 : Int} {x2 : Int} (h0 : isNt a0) (h_1 : (s a0 0) ≤ x2 → Wp X d 56 29 [some (mR a0), some (mI x1), some (mI x2)] [] s Q) (h_2 : ¬ (s a0 0) ≤ x2 → Wp X d 56 12 [some (mR a0), some (mI x1), some (mI x2)] [] s Q) : Wp X d 56 4 [some (mR a0), some (mI x1), some (mI x2)] [] s Q := Wp_step k56 f56_4 (Wp_step k56 f56_5 (Wp_step k56 f56_6 ⟨(nt_k h0), Wp_step k56 f56_9 ⟨h_1, h_2⟩⟩))
theorem b56_12 {X : (Nat → Int) × Nat} {d : Nat} {s : mSt} {Q : mQ} {a0 : Nat} {x1 : Int} {x2 : Int} (h0 : isNt a0) (h_1 : 0 ≤ x2 ∧ x2 < 10) (h_2 : Wp X (d + 1) 56 4 [some (mR a0), some (mI (iMax x1 (s (a0 + 1) x2.toNat))), some (mI (w32 (x2 + 1)))] [] s Q) : Wp X (d + 1) 56 12 [some (mR a0), some (mI x1), some (mI x2)] [] s Q := Wp_step k56 f56_12 (Wp_step k56 f56_13 (Wp_step k56 f56_14 ⟨(nt_k h0), (a0 + 1), (nt_r1 h0), Wp_step k56 f56_17 (Wp_step k56 f56_18 ⟨10, (nt_a1 h0), h_1, Wp_step k56 f56_19 ⟨⟨Nat.succ_pos _, Nat.le_of_ble_eq_true rfl⟩, Wp_step k56 f56_22 (Wp_step k56 f56_23 (Wp_step k56 f56_26 (h_2)))⟩⟩)⟩))
theorem b56_29 {X : (Nat → Int) × Nat} {d : Nat} {s : mSt} {Q : mQ} {a0 : Nat} {x1 : Int} {x2 : Int} (h0 : isNt a0) (h_1 : Q (some (mI x1)) s) : Wp X d 56 29 [some (mR a0), some (mI x1), some (mI x2)] [] s Q := Wp_step k56 f56_29 (Wp_step k56 f56_30 ⟨⟨rfl, trivial⟩, h_1⟩)
theorem e56 {X : (Nat → Int) × Nat} {d : Nat} {s : mSt} {Q : mQ} {a0 : Nat} (h : Wp X d 56 0 [some (mR a0), none, none] [] s Q) : Sp X d 56 [mR a0] s Q := Sp_of (show mCe 56 = 0 by decide +kernel) (by rw [show mML 56 = 3 by decide +kernel]; rfl) (Nat.le_trans (Nat.le_of_ble_eq_true (show Nat.ble (mArgs _).length 3 = true from rfl)) (show 3 ≤ mML 56 by decide +kernel)) h
-- 57 ClashDay$Notes.agreeWith(LClashDay$Board;I)Z
theorem k57 : mRk 57 = 2 := by decide +kernel
theorem f57_0 : mFetch 57 0 = some (.iconst 0, 1, 0, 0, 0, 0) := by decide +kernel
theorem f57_1 : mFetch 57 1 = some (.istore_n 3, 1, 0, 0, 0, 0) := by decide +kernel
theorem f57_2 : mFetch 57 2 = some (.iload_n 3, 1, 0, 0, 0, 0) := by decide +kernel
theorem f57_3 : mFetch 57 3 = some (.aload_n 0, 1, 0, 0, 0, 0) := by decide +kernel
theorem f57_4 : mFetch 57 4 = some (.getfield 21, 3, 3, 0, 0, 1) := by decide +kernel
theorem f57_7 : mFetch 57 7 = some (.if_icmp .ge 40, 3, 47, 0, 0, 0) := by decide +kernel
theorem f57_10 : mFetch 57 10 = some (.aload_n 0, 1, 0, 0, 0, 0) := by decide +kernel
theorem f57_11 : mFetch 57 11 = some (.getfield 11, 3, 3, 1, 2, 1) := by decide +kernel
theorem f57_14 : mFetch 57 14 = some (.iload_n 3, 1, 0, 0, 0, 0) := by decide +kernel
theorem f57_15 : mFetch 57 15 = some (.iaload, 1, 0, 0, 0, 0) := by decide +kernel
theorem f57_16 : mFetch 57 16 = some (.iload_n 2, 1, 0, 0, 0, 0) := by decide +kernel
theorem f57_17 : mFetch 57 17 = some (.if_icmp .ne 24, 3, 41, 0, 0, 0) := by decide +kernel
theorem f57_20 : mFetch 57 20 = some (.aload_n 1, 1, 0, 0, 0, 0) := by decide +kernel
theorem f57_21 : mFetch 57 21 = some (.aload_n 0, 1, 0, 0, 0, 0) := by decide +kernel
theorem f57_22 : mFetch 57 22 = some (.getfield 15, 3, 3, 2, 2, 1) := by decide +kernel
theorem f57_25 : mFetch 57 25 = some (.iload_n 3, 1, 0, 0, 0, 0) := by decide +kernel
theorem f57_26 : mFetch 57 26 = some (.iaload, 1, 0, 0, 0, 0) := by decide +kernel
theorem f57_27 : mFetch 57 27 = some (.invokevirtual 41, 3, 17, 0, 2, 0) := by decide +kernel
theorem f57_30 : mFetch 57 30 = some (.aload_n 0, 1, 0, 0, 0, 0) := by decide +kernel
theorem f57_31 : mFetch 57 31 = some (.getfield 18, 3, 3, 3, 2, 1) := by decide +kernel
theorem f57_34 : mFetch 57 34 = some (.iload_n 3, 1, 0, 0, 0, 0) := by decide +kernel
theorem f57_35 : mFetch 57 35 = some (.iaload, 1, 0, 0, 0, 0) := by decide +kernel
theorem f57_36 : mFetch 57 36 = some (.if_icmp .eq 5, 3, 41, 0, 0, 0) := by decide +kernel
theorem f57_39 : mFetch 57 39 = some (.iconst 0, 1, 0, 0, 0, 0) := by decide +kernel
theorem f57_40 : mFetch 57 40 = some (.ireturn, 1, 0, 0, 0, 0) := by decide +kernel
theorem f57_41 : mFetch 57 41 = some (.iinc 3 1, 3, 0, 0, 0, 0) := by decide +kernel
theorem f57_44 : mFetch 57 44 = some (.goto (-42), 3, 2, 0, 0, 0) := by decide +kernel
theorem f57_47 : mFetch 57 47 = some (.iconst 1, 1, 0, 0, 0, 0) := by decide +kernel
theorem f57_48 : mFetch 57 48 = some (.ireturn, 1, 0, 0, 0, 0) := by decide +kernel
theorem b57_0 {X : (Nat → Int) × Nat} {d : Nat} {s : mSt} {Q : mQ} {a0 : Nat} {a1 : Nat} {x2 : Int} {l3 : Option mV} (h0 : isNt a0) (h1 : isBd a1) (h_1 : Wp X d 57 2 [some (mR a0), some (mR a1), some (mI x2), some (mI 0)] [] s Q) : Wp X d 57 0 [some (mR a0), some (mR a1), some (mI x2), l3] [] s Q := Wp_step k57 f57_0 (Wp_step k57 f57_1 (h_1))
theorem b57_2 {X : (Nat → Int) × Nat} {d : Nat} {s : mSt} {Q : mQ} {a0 : Nat} {a1 : Nat} {x2 : Int} {x3 : Int} (h0 : isNt a0) (h1 : isBd a1) (h_1 : (s a0 0) ≤ x3 → Wp X d 57 47 [some (mR a0), some (mR a1), some (mI x2), some (mI x3)] [] s Q) (h_2 : ¬ (s a0 0) ≤ x3 → Wp X d 57 10 [some (mR a0), some (mR a1), some (mI x2), some (mI x3)] [] s Q) : Wp X d 57 2 [some (mR a0), some (mR a1), some (mI x2), some (mI x3)] [] s Q := Wp_step k57 f57_2 (Wp_step k57 f57_3 (Wp_step k57 f57_4 ⟨(nt_k h0), Wp_step k57 f57_7 ⟨h_1, h_2⟩⟩))
theorem b57_10 {X : (Nat → Int) × Nat} {d : Nat} {s : mSt} {Q : mQ} {a0 : Nat} {a1 : Nat} {x2 : Int} {x3 : Int} (h0 : isNt a0) (h1 : isBd a1) (h_1 : 0 ≤ x3 ∧ x3 < 10) (h_2 : ¬ (s (a0 + 1) x3.toNat) = x2 → Wp X d 57 41 [some (mR a0), some (mR a1), some (mI x2), some (mI x3)] [] s Q) (h_3 : (s (a0 + 1) x3.toNat) = x2 → Wp X d 57 20 [some (mR a0), some (mR a1), some (mI x2), some (mI x3)] [] s Q) : Wp X d 57 10 [some (mR a0), some (mR a1), some (mI x2), some (mI x3)] [] s Q := Wp_step k57 f57_10 (Wp_step k57 f57_11 ⟨(nt_k h0), (a0 + 1), (nt_r1 h0), Wp_step k57 f57_14 (Wp_step k57 f57_15 ⟨10, (nt_a1 h0), h_1, Wp_step k57 f57_16 (Wp_step k57 f57_17 ⟨h_2, h_3⟩)⟩)⟩)
theorem b57_20 {X : (Nat → Int) × Nat} {d : Nat} {s : mSt} {Q : mQ} {a0 : Nat} {a1 : Nat} {x2 : Int} {x3 : Int} (h0 : isNt a0) (h1 : isBd a1) (h_1 : 0 ≤ x3 ∧ x3 < 10) (h_2 : Sp X d 17 [mR a1, mI (s (a0 + 2) x3.toNat)] s (fun r s' => ∃ v : Int, r = some (mI v) ∧ Wp X (d + 1) 57 30 [some (mR a0), some (mR a1), some (mI x2), some (mI x3)] [mI v] s' Q)) : Wp X (d + 1) 57 20 [some (mR a0), some (mR a1), some (mI x2), some (mI x3)] [] s Q := Wp_step k57 f57_20 (Wp_step k57 f57_21 (Wp_step k57 f57_22 ⟨(nt_k h0), (a0 + 2), (nt_r2 h0), Wp_step k57 f57_25 (Wp_step k57 f57_26 ⟨10, (nt_a2 h0), h_1, Wp_step k57 f57_27 ⟨⟨(bd_k h1), Nat.le_of_ble_eq_true rfl⟩, Nat.le_refl _, _, rfl, Sp_E h_2⟩⟩)⟩))
theorem b57_30 {X : (Nat → Int) × Nat} {d : Nat} {s : mSt} {Q : mQ} {a0 : Nat} {a1 : Nat} {x2 : Int} {x3 : Int} {xt0 : Int} (h0 : isNt a0) (h1 : isBd a1) (h_1 : 0 ≤ x3 ∧ x3 < 10) (h_2 : xt0 = (s (a0 + 3) x3.toNat) → Wp X d 57 41 [some (mR a0), some (mR a1), some (mI x2), some (mI x3)] [] s Q) (h_3 : ¬ xt0 = (s (a0 + 3) x3.toNat) → Wp X d 57 39 [some (mR a0), some (mR a1), some (mI x2), some (mI x3)] [] s Q) : Wp X d 57 30 [some (mR a0), some (mR a1), some (mI x2), some (mI x3)] [mI xt0] s Q := Wp_step k57 f57_30 (Wp_step k57 f57_31 ⟨(nt_k h0), (a0 + 3), (nt_r3 h0), Wp_step k57 f57_34 (Wp_step k57 f57_35 ⟨10, (nt_a3 h0), h_1, Wp_step k57 f57_36 ⟨h_2, h_3⟩⟩)⟩)
theorem b57_39 {X : (Nat → Int) × Nat} {d : Nat} {s : mSt} {Q : mQ} {a0 : Nat} {a1 : Nat} {x2 : Int} {x3 : Int} (h0 : isNt a0) (h1 : isBd a1) (h_1 : Q (some (mI 0)) s) : Wp X d 57 39 [some (mR a0), some (mR a1), some (mI x2), some (mI x3)] [] s Q := Wp_step k57 f57_39 (Wp_step k57 f57_40 ⟨⟨rfl, (Or.inl rfl)⟩, h_1⟩)
theorem b57_41 {X : (Nat → Int) × Nat} {d : Nat} {s : mSt} {Q : mQ} {a0 : Nat} {a1 : Nat} {x2 : Int} {x3 : Int} (h0 : isNt a0) (h1 : isBd a1) (h_1 : Wp X d 57 2 [some (mR a0), some (mR a1), some (mI x2), some (mI (w32 (x3 + 1)))] [] s Q) : Wp X d 57 41 [some (mR a0), some (mR a1), some (mI x2), some (mI x3)] [] s Q := Wp_step k57 f57_41 (Wp_step k57 f57_44 (h_1))
theorem b57_47 {X : (Nat → Int) × Nat} {d : Nat} {s : mSt} {Q : mQ} {a0 : Nat} {a1 : Nat} {x2 : Int} {x3 : Int} (h0 : isNt a0) (h1 : isBd a1) (h_1 : Q (some (mI 1)) s) : Wp X d 57 47 [some (mR a0), some (mR a1), some (mI x2), some (mI x3)] [] s Q := Wp_step k57 f57_47 (Wp_step k57 f57_48 ⟨⟨rfl, (Or.inr rfl)⟩, h_1⟩)
theorem e57 {X : (Nat → Int) × Nat} {d : Nat} {s : mSt} {Q : mQ} {a0 : Nat} {a1 : Nat} {x2 : Int} (h : Wp X d 57 0 [some (mR a0), some (mR a1), some (mI x2), none] [] s Q) : Sp X d 57 [mR a0, mR a1, mI x2] s Q := Sp_of (show mCe 57 = 0 by decide +kernel) (by rw [show mML 57 = 4 by decide +kernel]; rfl) (Nat.le_trans (Nat.le_of_ble_eq_true (show Nat.ble (mArgs _).length 4 = true from rfl)) (show 4 ≤ mML 57 by decide +kernel)) h
-- 59 ClashDay$Planner.finds(LClashDay$Board;II)Z
theorem k59 : mRk 59 = 2 := by decide +kernel
theorem f59_0 : mFetch 59 0 = some (.aload_n 0, 1, 0, 0, 0, 0) := by decide +kernel
theorem f59_1 : mFetch 59 1 = some (.aload_n 1, 1, 0, 0, 0, 0) := by decide +kernel
theorem f59_2 : mFetch 59 2 = some (.iload_n 2, 1, 0, 0, 0, 0) := by decide +kernel
theorem f59_3 : mFetch 59 3 = some (.iload_n 3, 1, 0, 0, 0, 0) := by decide +kernel
theorem f59_4 : mFetch 59 4 = some (.invokevirtual 27, 3, 62, 0, 4, 4) := by decide +kernel
theorem f59_7 : mFetch 59 7 = some (.aload_n 0, 1, 0, 0, 0, 0) := by decide +kernel
theorem f59_8 : mFetch 59 8 = some (.iconst 0, 1, 0, 0, 0, 0) := by decide +kernel
theorem f59_9 : mFetch 59 9 = some (.putfield 31, 3, 4, 6, 0, 1) := by decide +kernel
theorem f59_12 : mFetch 59 12 = some (.aload_n 0, 1, 0, 0, 0, 0) := by decide +kernel
theorem f59_13 : mFetch 59 13 = some (.iload_n 3, 1, 0, 0, 0, 0) := by decide +kernel
theorem f59_14 : mFetch 59 14 = some (.iconst (-1), 1, 0, 0, 0, 0) := by decide +kernel
theorem f59_15 : mFetch 59 15 = some (.iconst 0, 1, 0, 0, 0, 0) := by decide +kernel
theorem f59_16 : mFetch 59 16 = some (.iconst 0, 1, 0, 0, 0, 0) := by decide +kernel
theorem f59_17 : mFetch 59 17 = some (.iconst 0, 1, 0, 0, 0, 0) := by decide +kernel
theorem f59_18 : mFetch 59 18 = some (.invokevirtual 35, 3, 64, 0, 6, 4) := by decide +kernel
theorem f59_21 : mFetch 59 21 = some (.aload_n 0, 1, 0, 0, 0, 0) := by decide +kernel
theorem f59_22 : mFetch 59 22 = some (.getfield 31, 3, 4, 6, 0, 1) := by decide +kernel
theorem f59_25 : mFetch 59 25 = some (.ifCond .le 7, 3, 32, 0, 0, 0) := by decide +kernel
theorem f59_28 : mFetch 59 28 = some (.iconst 1, 1, 0, 0, 0, 0) := by decide +kernel
theorem f59_29 : mFetch 59 29 = some (.goto 4, 3, 33, 0, 0, 0) := by decide +kernel
theorem f59_32 : mFetch 59 32 = some (.iconst 0, 1, 0, 0, 0, 0) := by decide +kernel
theorem f59_33 : mFetch 59 33 = some (.ireturn, 1, 0, 0, 0, 0) := by decide +kernel
theorem b59_0 {X : (Nat → Int) × Nat} {d : Nat} {s : mSt} {Q : mQ} {a1 : Nat} {x2 : Int} {x3 : Int} (h1 : isBd a1) (h_1 : Sp X d 62 [mR 44, mR a1, mI x2, mI x3] s (fun r s' => r = none ∧ Wp X (d + 1) 59 7 [some (mR 44), some (mR a1), some (mI x2), some (mI x3)] [] s' Q)) : Wp X (d + 1) 59 0 [some (mR 44), some (mR a1), some (mI x2), some (mI x3)] [] s Q := Wp_step k59 f59_0 (Wp_step k59 f59_1 (Wp_step k59 f59_2 (Wp_step k59 f59_3 (Wp_step k59 f59_4 ⟨⟨kf_44, Nat.le_of_ble_eq_true rfl⟩, Nat.le_refl _, _, rfl, Sp_V h_1⟩))))
theorem b59_7 {X : (Nat → Int) × Nat} {d : Nat} {s : mSt} {Q : mQ} {a1 : Nat} {x2 : Int} {x3 : Int} (h1 : isBd a1) (h_1 : Sp X d 64 [mR 44, mI x3, mI (-1), mI 0, mI 0, mI 0] (uS s 44 6 0) (fun r s' => r = none ∧ Wp X (d + 1) 59 21 [some (mR 44), some (mR a1), some (mI x2), some (mI x3)] [] s' Q)) : Wp X (d + 1) 59 7 [some (mR 44), some (mR a1), some (mI x2), some (mI x3)] [] s Q := Wp_step k59 f59_7 (Wp_step k59 f59_8 (Wp_step k59 f59_9 ⟨kf_44, Wp_step k59 f59_12 (Wp_step k59 f59_13 (Wp_step k59 f59_14 (Wp_step k59 f59_15 (Wp_step k59 f59_16 (Wp_step k59 f59_17 (Wp_step k59 f59_18 ⟨⟨kf_44, Nat.le_of_ble_eq_true rfl⟩, Nat.le_refl _, _, rfl, Sp_V h_1⟩))))))⟩))
theorem b59_21 {X : (Nat → Int) × Nat} {d : Nat} {s : mSt} {Q : mQ} {a1 : Nat} {x2 : Int} {x3 : Int} (h1 : isBd a1) (h_1 : (s 44 6) ≤ 0 → Wp X d 59 32 [some (mR 44), some (mR a1), some (mI x2), some (mI x3)] [] s Q) (h_2 : ¬ (s 44 6) ≤ 0 → Wp X d 59 28 [some (mR 44), some (mR a1), some (mI x2), some (mI x3)] [] s Q) : Wp X d 59 21 [some (mR 44), some (mR a1), some (mI x2), some (mI x3)] [] s Q := Wp_step k59 f59_21 (Wp_step k59 f59_22 ⟨kf_44, Wp_step k59 f59_25 ⟨h_1, h_2⟩⟩)
theorem b59_28 {X : (Nat → Int) × Nat} {d : Nat} {s : mSt} {Q : mQ} {a1 : Nat} {x2 : Int} {x3 : Int} (h1 : isBd a1) (h_1 : Wp X d 59 33 [some (mR 44), some (mR a1), some (mI x2), some (mI x3)] [mI 1] s Q) : Wp X d 59 28 [some (mR 44), some (mR a1), some (mI x2), some (mI x3)] [] s Q := Wp_step k59 f59_28 (Wp_step k59 f59_29 (h_1))
theorem b59_32 {X : (Nat → Int) × Nat} {d : Nat} {s : mSt} {Q : mQ} {a1 : Nat} {x2 : Int} {x3 : Int} (h1 : isBd a1) (h_1 : Wp X d 59 33 [some (mR 44), some (mR a1), some (mI x2), some (mI x3)] [mI 0] s Q) : Wp X d 59 32 [some (mR 44), some (mR a1), some (mI x2), some (mI x3)] [] s Q := Wp_step k59 f59_32 (h_1)
theorem b59_33 {X : (Nat → Int) × Nat} {d : Nat} {s : mSt} {Q : mQ} {a1 : Nat} {x2 : Int} {x3 : Int} {xt0 : Int} (h1 : isBd a1) (h_1 : Q (some (mI xt0)) s) (h_2 : xt0 = 0 ∨ xt0 = 1) : Wp X d 59 33 [some (mR 44), some (mR a1), some (mI x2), some (mI x3)] [mI xt0] s Q := Wp_step k59 f59_33 ⟨⟨rfl, h_2⟩, h_1⟩
theorem e59 {X : (Nat → Int) × Nat} {d : Nat} {s : mSt} {Q : mQ} {a1 : Nat} {x2 : Int} {x3 : Int} (h : Wp X d 59 0 [some (mR 44), some (mR a1), some (mI x2), some (mI x3)] [] s Q) : Sp X d 59 [mR 44, mR a1, mI x2, mI x3] s Q := Sp_of (show mCe 59 = 0 by decide +kernel) (by rw [show mML 59 = 4 by decide +kernel]; rfl) (Nat.le_trans (Nat.le_of_ble_eq_true (show Nat.ble (mArgs _).length 4 = true from rfl)) (show 4 ≤ mML 59 by decide +kernel)) h
-- 60 ClashDay$Planner.settles(LClashDay$Board;I)Z
theorem k60 : mRk 60 = 2 := by decide +kernel
theorem f60_0 : mFetch 60 0 = some (.aload_n 1, 1, 0, 0, 0, 0) := by decide +kernel
theorem f60_1 : mFetch 60 1 = some (.iload_n 2, 1, 0, 0, 0, 0) := by decide +kernel
theorem f60_2 : mFetch 60 2 = some (.invokevirtual 39, 3, 10, 0, 2, 0) := by decide +kernel
theorem f60_5 : mFetch 60 5 = some (.ifCond .eq 18, 3, 23, 0, 0, 0) := by decide +kernel
theorem f60_8 : mFetch 60 8 = some (.aload_n 0, 1, 0, 0, 0, 0) := by decide +kernel
theorem f60_9 : mFetch 60 9 = some (.aload_n 1, 1, 0, 0, 0, 0) := by decide +kernel
theorem f60_10 : mFetch 60 10 = some (.iload_n 2, 1, 0, 0, 0, 0) := by decide +kernel
theorem f60_11 : mFetch 60 11 = some (.aload_n 1, 1, 0, 0, 0, 0) := by decide +kernel
theorem f60_12 : mFetch 60 12 = some (.getfield 45, 3, 0, 8, 2, 0) := by decide +kernel
theorem f60_15 : mFetch 60 15 = some (.iload_n 2, 1, 0, 0, 0, 0) := by decide +kernel
theorem f60_16 : mFetch 60 16 = some (.iaload, 1, 0, 0, 0, 0) := by decide +kernel
theorem f60_17 : mFetch 60 17 = some (.invokevirtual 48, 3, 59, 0, 4, 4) := by decide +kernel
theorem f60_20 : mFetch 60 20 = some (.ifCond .ne 5, 3, 25, 0, 0, 0) := by decide +kernel
theorem f60_23 : mFetch 60 23 = some (.iconst 0, 1, 0, 0, 0, 0) := by decide +kernel
theorem f60_24 : mFetch 60 24 = some (.ireturn, 1, 0, 0, 0, 0) := by decide +kernel
theorem f60_25 : mFetch 60 25 = some (.aload_n 1, 1, 0, 0, 0, 0) := by decide +kernel
theorem f60_26 : mFetch 60 26 = some (.iload_n 2, 1, 0, 0, 0, 0) := by decide +kernel
theorem f60_27 : mFetch 60 27 = some (.aload_n 0, 1, 0, 0, 0, 0) := by decide +kernel
theorem f60_28 : mFetch 60 28 = some (.invokevirtual 52, 3, 23, 0, 3, 0) := by decide +kernel
theorem f60_31 : mFetch 60 31 = some (.iconst 1, 1, 0, 0, 0, 0) := by decide +kernel
theorem f60_32 : mFetch 60 32 = some (.ireturn, 1, 0, 0, 0, 0) := by decide +kernel
theorem b60_0 {X : (Nat → Int) × Nat} {d : Nat} {s : mSt} {Q : mQ} {a1 : Nat} {x2 : Int} (h1 : isBd a1) (h_1 : Sp X d 10 [mR a1, mI x2] s (fun r s' => ∃ v : Int, r = some (mI v) ∧ Wp X (d + 1) 60 5 [some (mR 44), some (mR a1), some (mI x2)] [mI v] s' Q)) : Wp X (d + 1) 60 0 [some (mR 44), some (mR a1), some (mI x2)] [] s Q := Wp_step k60 f60_0 (Wp_step k60 f60_1 (Wp_step k60 f60_2 ⟨⟨(bd_k h1), Nat.le_of_ble_eq_true rfl⟩, Nat.le_refl _, _, rfl, Sp_E h_1⟩))
theorem b60_5 {X : (Nat → Int) × Nat} {d : Nat} {s : mSt} {Q : mQ} {a1 : Nat} {x2 : Int} {xt0 : Int} (h1 : isBd a1) (h_1 : xt0 = 0 → Wp X d 60 23 [some (mR 44), some (mR a1), some (mI x2)] [] s Q) (h_2 : ¬ xt0 = 0 → Wp X d 60 8 [some (mR 44), some (mR a1), some (mI x2)] [] s Q) : Wp X d 60 5 [some (mR 44), some (mR a1), some (mI x2)] [mI xt0] s Q := Wp_step k60 f60_5 ⟨h_1, h_2⟩
theorem b60_8 {X : (Nat → Int) × Nat} {d : Nat} {s : mSt} {Q : mQ} {a1 : Nat} {x2 : Int} (h1 : isBd a1) (h_1 : 0 ≤ x2 ∧ x2 < 6) (h_2 : Sp X d 59 [mR 44, mR a1, mI x2, mI (s (a1 + 3) x2.toNat)] s (fun r s' => ∃ v : Int, r = some (mI v) ∧ Wp X (d + 1) 60 20 [some (mR 44), some (mR a1), some (mI x2)] [mI v] s' Q)) : Wp X (d + 1) 60 8 [some (mR 44), some (mR a1), some (mI x2)] [] s Q := Wp_step k60 f60_8 (Wp_step k60 f60_9 (Wp_step k60 f60_10 (Wp_step k60 f60_11 (Wp_step k60 f60_12 ⟨(bd_k h1), (a1 + 3), (bd_r8 h1), Wp_step k60 f60_15 (Wp_step k60 f60_16 ⟨6, (bd_a8 h1), h_1, Wp_step k60 f60_17 ⟨⟨kf_44, Nat.le_of_ble_eq_true rfl⟩, Nat.le_refl _, _, rfl, Sp_E h_2⟩⟩)⟩))))
theorem b60_20 {X : (Nat → Int) × Nat} {d : Nat} {s : mSt} {Q : mQ} {a1 : Nat} {x2 : Int} {xt0 : Int} (h1 : isBd a1) (h_1 : ¬ xt0 = 0 → Wp X d 60 25 [some (mR 44), some (mR a1), some (mI x2)] [] s Q) (h_2 : xt0 = 0 → Wp X d 60 23 [some (mR 44), some (mR a1), some (mI x2)] [] s Q) : Wp X d 60 20 [some (mR 44), some (mR a1), some (mI x2)] [mI xt0] s Q := Wp_step k60 f60_20 ⟨h_1, h_2⟩
theorem b60_23 {X : (Nat → Int) × Nat} {d : Nat} {s : mSt} {Q : mQ} {a1 : Nat} {x2 : Int} (h1 : isBd a1) (h_1 : Q (some (mI 0)) s) : Wp X d 60 23 [some (mR 44), some (mR a1), some (mI x2)] [] s Q := Wp_step k60 f60_23 (Wp_step k60 f60_24 ⟨⟨rfl, (Or.inl rfl)⟩, h_1⟩)
theorem b60_25 {X : (Nat → Int) × Nat} {d : Nat} {s : mSt} {Q : mQ} {a1 : Nat} {x2 : Int} (h1 : isBd a1) (h_1 : Sp X d 23 [mR a1, mI x2, mR 44] s (fun r s' => r = none ∧ Wp X (d + 1) 60 31 [some (mR 44), some (mR a1), some (mI x2)] [] s' Q)) : Wp X (d + 1) 60 25 [some (mR 44), some (mR a1), some (mI x2)] [] s Q := Wp_step k60 f60_25 (Wp_step k60 f60_26 (Wp_step k60 f60_27 (Wp_step k60 f60_28 ⟨⟨(bd_k h1), Nat.le_of_ble_eq_true rfl⟩, Nat.le_refl _, _, rfl, Sp_V h_1⟩)))
theorem b60_31 {X : (Nat → Int) × Nat} {d : Nat} {s : mSt} {Q : mQ} {a1 : Nat} {x2 : Int} (h1 : isBd a1) (h_1 : Q (some (mI 1)) s) : Wp X d 60 31 [some (mR 44), some (mR a1), some (mI x2)] [] s Q := Wp_step k60 f60_31 (Wp_step k60 f60_32 ⟨⟨rfl, (Or.inr rfl)⟩, h_1⟩)
theorem e60 {X : (Nat → Int) × Nat} {d : Nat} {s : mSt} {Q : mQ} {a1 : Nat} {x2 : Int} (h : Wp X d 60 0 [some (mR 44), some (mR a1), some (mI x2)] [] s Q) : Sp X d 60 [mR 44, mR a1, mI x2] s Q := Sp_of (show mCe 60 = 0 by decide +kernel) (by rw [show mML 60 = 3 by decide +kernel]; rfl) (Nat.le_trans (Nat.le_of_ble_eq_true (show Nat.ble (mArgs _).length 3 = true from rfl)) (show 3 ≤ mML 60 by decide +kernel)) h
-- 61 ClashDay$Planner.leastClash(LClashDay$Board;I)I
theorem k61 : mRk 61 = 1 := by decide +kernel
theorem f61_0 : mFetch 61 0 = some (.aload_n 1, 1, 0, 0, 0, 0) := by decide +kernel
theorem f61_1 : mFetch 61 1 = some (.getfield 45, 3, 0, 8, 2, 0) := by decide +kernel
theorem f61_4 : mFetch 61 4 = some (.iload_n 2, 1, 0, 0, 0, 0) := by decide +kernel
theorem f61_5 : mFetch 61 5 = some (.iaload, 1, 0, 0, 0, 0) := by decide +kernel
theorem f61_6 : mFetch 61 6 = some (.istore_n 3, 1, 0, 0, 0, 0) := by decide +kernel
theorem f61_7 : mFetch 61 7 = some (.iconst 1, 1, 0, 0, 0, 0) := by decide +kernel
theorem f61_8 : mFetch 61 8 = some (.istore 4, 2, 0, 0, 0, 0) := by decide +kernel
theorem f61_10 : mFetch 61 10 = some (.iload 4, 2, 0, 0, 0, 0) := by decide +kernel
theorem f61_12 : mFetch 61 12 = some (.iconst 5, 1, 0, 0, 0, 0) := by decide +kernel
theorem f61_13 : mFetch 61 13 = some (.if_icmp .gt 69, 3, 82, 0, 0, 0) := by decide +kernel
theorem f61_16 : mFetch 61 16 = some (.iconst 1, 1, 0, 0, 0, 0) := by decide +kernel
theorem f61_17 : mFetch 61 17 = some (.istore 5, 2, 0, 0, 0, 0) := by decide +kernel
theorem f61_19 : mFetch 61 19 = some (.iload 5, 2, 0, 0, 0, 0) := by decide +kernel
theorem f61_21 : mFetch 61 21 = some (.iload_n 3, 1, 0, 0, 0, 0) := by decide +kernel
theorem f61_22 : mFetch 61 22 = some (.if_icmp .gt 54, 3, 76, 0, 0, 0) := by decide +kernel
theorem f61_25 : mFetch 61 25 = some (.iload 5, 2, 0, 0, 0, 0) := by decide +kernel
theorem f61_27 : mFetch 61 27 = some (.iload_n 3, 1, 0, 0, 0, 0) := by decide +kernel
theorem f61_28 : mFetch 61 28 = some (.iconst (-1), 1, 0, 0, 0, 0) := by decide +kernel
theorem f61_29 : mFetch 61 29 = some (.ixor, 1, 0, 0, 0, 0) := by decide +kernel
theorem f61_30 : mFetch 61 30 = some (.iand, 1, 0, 0, 0, 0) := by decide +kernel
theorem f61_31 : mFetch 61 31 = some (.ifCond .ne 7, 3, 38, 0, 0, 0) := by decide +kernel
theorem f61_34 : mFetch 61 34 = some (.iconst 1, 1, 0, 0, 0, 0) := by decide +kernel
theorem f61_35 : mFetch 61 35 = some (.goto 4, 3, 39, 0, 0, 0) := by decide +kernel
theorem f61_38 : mFetch 61 38 = some (.iconst 0, 1, 0, 0, 0, 0) := by decide +kernel
theorem f61_39 : mFetch 61 39 = some (.istore 6, 2, 0, 0, 0, 0) := by decide +kernel
theorem f61_41 : mFetch 61 41 = some (.iload 6, 2, 0, 0, 0, 0) := by decide +kernel
theorem f61_43 : mFetch 61 43 = some (.ifCond .eq 27, 3, 70, 0, 0, 0) := by decide +kernel
theorem f61_46 : mFetch 61 46 = some (.iload 5, 2, 0, 0, 0, 0) := by decide +kernel
theorem f61_48 : mFetch 61 48 = some (.invokestatic 56, 3, 309, 0, 1, 99) := by decide +kernel
theorem f61_51 : mFetch 61 51 = some (.iload 4, 2, 0, 0, 0, 0) := by decide +kernel
theorem f61_53 : mFetch 61 53 = some (.if_icmp .ne 17, 3, 70, 0, 0, 0) := by decide +kernel
theorem f61_56 : mFetch 61 56 = some (.aload_n 0, 1, 0, 0, 0, 0) := by decide +kernel
theorem f61_57 : mFetch 61 57 = some (.aload_n 1, 1, 0, 0, 0, 0) := by decide +kernel
theorem f61_58 : mFetch 61 58 = some (.iload_n 2, 1, 0, 0, 0, 0) := by decide +kernel
theorem f61_59 : mFetch 61 59 = some (.iload 5, 2, 0, 0, 0, 0) := by decide +kernel
theorem f61_61 : mFetch 61 61 = some (.invokevirtual 48, 3, 59, 0, 4, 4) := by decide +kernel
theorem f61_64 : mFetch 61 64 = some (.ifCond .ne 6, 3, 70, 0, 0, 0) := by decide +kernel
theorem f61_67 : mFetch 61 67 = some (.iload 5, 2, 0, 0, 0, 0) := by decide +kernel
theorem f61_69 : mFetch 61 69 = some (.ireturn, 1, 0, 0, 0, 0) := by decide +kernel
theorem f61_70 : mFetch 61 70 = some (.iinc 5 1, 3, 0, 0, 0, 0) := by decide +kernel
theorem f61_73 : mFetch 61 73 = some (.goto (-54), 3, 19, 0, 0, 0) := by decide +kernel
theorem f61_76 : mFetch 61 76 = some (.iinc 4 1, 3, 0, 0, 0, 0) := by decide +kernel
theorem f61_79 : mFetch 61 79 = some (.goto (-69), 3, 10, 0, 0, 0) := by decide +kernel
theorem f61_82 : mFetch 61 82 = some (.iload_n 3, 1, 0, 0, 0, 0) := by decide +kernel
theorem f61_83 : mFetch 61 83 = some (.ireturn, 1, 0, 0, 0, 0) := by decide +kernel
theorem b61_0 {X : (Nat → Int) × Nat} {d : Nat} {s : mSt} {Q : mQ} {a1 : Nat} {x2 : Int} {l3 : Option mV} {l4 : Option mV} {l5 : Option mV} {l6 : Option mV} (h1 : isBd a1) (h_1 : 0 ≤ x2 ∧ x2 < 6) (h_2 : Wp X d 61 10 [some (mR 44), some (mR a1), some (mI x2), some (mI (s (a1 + 3) x2.toNat)), some (mI 1), l5, l6] [] s Q) : Wp X d 61 0 [some (mR 44), some (mR a1), some (mI x2), l3, l4, l5, l6] [] s Q := Wp_step k61 f61_0 (Wp_step k61 f61_1 ⟨(bd_k h1), (a1 + 3), (bd_r8 h1), Wp_step k61 f61_4 (Wp_step k61 f61_5 ⟨6, (bd_a8 h1), h_1, Wp_step k61 f61_6 (Wp_step k61 f61_7 (Wp_step k61 f61_8 (h_2)))⟩)⟩)
theorem b61_10 {X : (Nat → Int) × Nat} {d : Nat} {s : mSt} {Q : mQ} {a1 : Nat} {x2 : Int} {x3 : Int} {x4 : Int} {l5 : Option mV} {l6 : Option mV} (h1 : isBd a1) (h_1 : 5 < x4 → Wp X d 61 82 [some (mR 44), some (mR a1), some (mI x2), some (mI x3), some (mI x4), l5, l6] [] s Q) (h_2 : ¬ 5 < x4 → Wp X d 61 16 [some (mR 44), some (mR a1), some (mI x2), some (mI x3), some (mI x4), l5, l6] [] s Q) : Wp X d 61 10 [some (mR 44), some (mR a1), some (mI x2), some (mI x3), some (mI x4), l5, l6] [] s Q := Wp_step k61 f61_10 (Wp_step k61 f61_12 (Wp_step k61 f61_13 ⟨h_1, h_2⟩))
theorem b61_16 {X : (Nat → Int) × Nat} {d : Nat} {s : mSt} {Q : mQ} {a1 : Nat} {x2 : Int} {x3 : Int} {x4 : Int} {l5 : Option mV} {l6 : Option mV} (h1 : isBd a1) (h_1 : Wp X d 61 19 [some (mR 44), some (mR a1), some (mI x2), some (mI x3), some (mI x4), some (mI 1), l6] [] s Q) : Wp X d 61 16 [some (mR 44), some (mR a1), some (mI x2), some (mI x3), some (mI x4), l5, l6] [] s Q := Wp_step k61 f61_16 (Wp_step k61 f61_17 (h_1))
theorem b61_19 {X : (Nat → Int) × Nat} {d : Nat} {s : mSt} {Q : mQ} {a1 : Nat} {x2 : Int} {x3 : Int} {x4 : Int} {x5 : Int} {l6 : Option mV} (h1 : isBd a1) (h_1 : x3 < x5 → Wp X d 61 76 [some (mR 44), some (mR a1), some (mI x2), some (mI x3), some (mI x4), some (mI x5), l6] [] s Q) (h_2 : ¬ x3 < x5 → Wp X d 61 25 [some (mR 44), some (mR a1), some (mI x2), some (mI x3), some (mI x4), some (mI x5), l6] [] s Q) : Wp X d 61 19 [some (mR 44), some (mR a1), some (mI x2), some (mI x3), some (mI x4), some (mI x5), l6] [] s Q := Wp_step k61 f61_19 (Wp_step k61 f61_21 (Wp_step k61 f61_22 ⟨h_1, h_2⟩))
theorem b61_25 {X : (Nat → Int) × Nat} {d : Nat} {s : mSt} {Q : mQ} {a1 : Nat} {x2 : Int} {x3 : Int} {x4 : Int} {x5 : Int} {l6 : Option mV} (h1 : isBd a1) (h_1 : ¬ (iAnd x5 (iXor x3 (-1))) = 0 → Wp X d 61 38 [some (mR 44), some (mR a1), some (mI x2), some (mI x3), some (mI x4), some (mI x5), l6] [] s Q) (h_2 : (iAnd x5 (iXor x3 (-1))) = 0 → Wp X d 61 34 [some (mR 44), some (mR a1), some (mI x2), some (mI x3), some (mI x4), some (mI x5), l6] [] s Q) : Wp X d 61 25 [some (mR 44), some (mR a1), some (mI x2), some (mI x3), some (mI x4), some (mI x5), l6] [] s Q := Wp_step k61 f61_25 (Wp_step k61 f61_27 (Wp_step k61 f61_28 (Wp_step k61 f61_29 (Wp_step k61 f61_30 (Wp_step k61 f61_31 ⟨h_1, h_2⟩)))))
theorem b61_34 {X : (Nat → Int) × Nat} {d : Nat} {s : mSt} {Q : mQ} {a1 : Nat} {x2 : Int} {x3 : Int} {x4 : Int} {x5 : Int} {l6 : Option mV} (h1 : isBd a1) (h_1 : Wp X d 61 39 [some (mR 44), some (mR a1), some (mI x2), some (mI x3), some (mI x4), some (mI x5), l6] [mI 1] s Q) : Wp X d 61 34 [some (mR 44), some (mR a1), some (mI x2), some (mI x3), some (mI x4), some (mI x5), l6] [] s Q := Wp_step k61 f61_34 (Wp_step k61 f61_35 (h_1))
theorem b61_38 {X : (Nat → Int) × Nat} {d : Nat} {s : mSt} {Q : mQ} {a1 : Nat} {x2 : Int} {x3 : Int} {x4 : Int} {x5 : Int} {l6 : Option mV} (h1 : isBd a1) (h_1 : Wp X d 61 39 [some (mR 44), some (mR a1), some (mI x2), some (mI x3), some (mI x4), some (mI x5), l6] [mI 0] s Q) : Wp X d 61 38 [some (mR 44), some (mR a1), some (mI x2), some (mI x3), some (mI x4), some (mI x5), l6] [] s Q := Wp_step k61 f61_38 (h_1)
theorem b61_39 {X : (Nat → Int) × Nat} {d : Nat} {s : mSt} {Q : mQ} {a1 : Nat} {x2 : Int} {x3 : Int} {x4 : Int} {x5 : Int} {l6 : Option mV} {xt0 : Int} (h1 : isBd a1) (h_1 : xt0 = 0 → Wp X d 61 70 [some (mR 44), some (mR a1), some (mI x2), some (mI x3), some (mI x4), some (mI x5), some (mI xt0)] [] s Q) (h_2 : ¬ xt0 = 0 → Wp X d 61 46 [some (mR 44), some (mR a1), some (mI x2), some (mI x3), some (mI x4), some (mI x5), some (mI xt0)] [] s Q) : Wp X d 61 39 [some (mR 44), some (mR a1), some (mI x2), some (mI x3), some (mI x4), some (mI x5), l6] [mI xt0] s Q := Wp_step k61 f61_39 (Wp_step k61 f61_41 (Wp_step k61 f61_43 ⟨h_1, h_2⟩))
theorem b61_46 {X : (Nat → Int) × Nat} {d : Nat} {s : mSt} {Q : mQ} {a1 : Nat} {x2 : Int} {x3 : Int} {x4 : Int} {x5 : Int} {x6 : Int} (h1 : isBd a1) (h_1 : Sp X d 309 [mI x5] s (fun r s' => ∃ v : Int, r = some (mI v) ∧ Wp X (d + 1) 61 51 [some (mR 44), some (mR a1), some (mI x2), some (mI x3), some (mI x4), some (mI x5), some (mI x6)] [mI v] s' Q)) : Wp X (d + 1) 61 46 [some (mR 44), some (mR a1), some (mI x2), some (mI x3), some (mI x4), some (mI x5), some (mI x6)] [] s Q := Wp_step k61 f61_46 (Wp_step k61 f61_48 ⟨⟨Nat.le_of_ble_eq_true rfl, Nat.le_refl _⟩, _, rfl, Sp_E h_1⟩)
theorem b61_51 {X : (Nat → Int) × Nat} {d : Nat} {s : mSt} {Q : mQ} {a1 : Nat} {x2 : Int} {x3 : Int} {x4 : Int} {x5 : Int} {x6 : Int} {xt0 : Int} (h1 : isBd a1) (h_1 : ¬ xt0 = x4 → Wp X d 61 70 [some (mR 44), some (mR a1), some (mI x2), some (mI x3), some (mI x4), some (mI x5), some (mI x6)] [] s Q) (h_2 : xt0 = x4 → Wp X d 61 56 [some (mR 44), some (mR a1), some (mI x2), some (mI x3), some (mI x4), some (mI x5), some (mI x6)] [] s Q) : Wp X d 61 51 [some (mR 44), some (mR a1), some (mI x2), some (mI x3), some (mI x4), some (mI x5), some (mI x6)] [mI xt0] s Q := Wp_step k61 f61_51 (Wp_step k61 f61_53 ⟨h_1, h_2⟩)
theorem b61_56 {X : (Nat → Int) × Nat} {d : Nat} {s : mSt} {Q : mQ} {a1 : Nat} {x2 : Int} {x3 : Int} {x4 : Int} {x5 : Int} {x6 : Int} (h1 : isBd a1) (h_1 : Sp X d 59 [mR 44, mR a1, mI x2, mI x5] s (fun r s' => ∃ v : Int, r = some (mI v) ∧ Wp X (d + 1) 61 64 [some (mR 44), some (mR a1), some (mI x2), some (mI x3), some (mI x4), some (mI x5), some (mI x6)] [mI v] s' Q)) : Wp X (d + 1) 61 56 [some (mR 44), some (mR a1), some (mI x2), some (mI x3), some (mI x4), some (mI x5), some (mI x6)] [] s Q := Wp_step k61 f61_56 (Wp_step k61 f61_57 (Wp_step k61 f61_58 (Wp_step k61 f61_59 (Wp_step k61 f61_61 ⟨⟨kf_44, Nat.le_of_ble_eq_true rfl⟩, Nat.le_refl _, _, rfl, Sp_E h_1⟩))))
theorem b61_64 {X : (Nat → Int) × Nat} {d : Nat} {s : mSt} {Q : mQ} {a1 : Nat} {x2 : Int} {x3 : Int} {x4 : Int} {x5 : Int} {x6 : Int} {xt0 : Int} (h1 : isBd a1) (h_1 : ¬ xt0 = 0 → Wp X d 61 70 [some (mR 44), some (mR a1), some (mI x2), some (mI x3), some (mI x4), some (mI x5), some (mI x6)] [] s Q) (h_2 : xt0 = 0 → Wp X d 61 67 [some (mR 44), some (mR a1), some (mI x2), some (mI x3), some (mI x4), some (mI x5), some (mI x6)] [] s Q) : Wp X d 61 64 [some (mR 44), some (mR a1), some (mI x2), some (mI x3), some (mI x4), some (mI x5), some (mI x6)] [mI xt0] s Q := Wp_step k61 f61_64 ⟨h_1, h_2⟩
theorem b61_67 {X : (Nat → Int) × Nat} {d : Nat} {s : mSt} {Q : mQ} {a1 : Nat} {x2 : Int} {x3 : Int} {x4 : Int} {x5 : Int} {x6 : Int} (h1 : isBd a1) (h_1 : Q (some (mI x5)) s) : Wp X d 61 67 [some (mR 44), some (mR a1), some (mI x2), some (mI x3), some (mI x4), some (mI x5), some (mI x6)] [] s Q := Wp_step k61 f61_67 (Wp_step k61 f61_69 ⟨⟨rfl, trivial⟩, h_1⟩)
theorem b61_70 {X : (Nat → Int) × Nat} {d : Nat} {s : mSt} {Q : mQ} {a1 : Nat} {x2 : Int} {x3 : Int} {x4 : Int} {x5 : Int} {x6 : Int} (h1 : isBd a1) (h_1 : Wp X d 61 19 [some (mR 44), some (mR a1), some (mI x2), some (mI x3), some (mI x4), some (mI (w32 (x5 + 1))), some (mI x6)] [] s Q) : Wp X d 61 70 [some (mR 44), some (mR a1), some (mI x2), some (mI x3), some (mI x4), some (mI x5), some (mI x6)] [] s Q := Wp_step k61 f61_70 (Wp_step k61 f61_73 (h_1))
theorem b61_76 {X : (Nat → Int) × Nat} {d : Nat} {s : mSt} {Q : mQ} {a1 : Nat} {x2 : Int} {x3 : Int} {x4 : Int} {x5 : Int} {l6 : Option mV} (h1 : isBd a1) (h_1 : Wp X d 61 10 [some (mR 44), some (mR a1), some (mI x2), some (mI x3), some (mI (w32 (x4 + 1))), some (mI x5), l6] [] s Q) : Wp X d 61 76 [some (mR 44), some (mR a1), some (mI x2), some (mI x3), some (mI x4), some (mI x5), l6] [] s Q := Wp_step k61 f61_76 (Wp_step k61 f61_79 (h_1))
theorem b61_82 {X : (Nat → Int) × Nat} {d : Nat} {s : mSt} {Q : mQ} {a1 : Nat} {x2 : Int} {x3 : Int} {x4 : Int} {l5 : Option mV} {l6 : Option mV} (h1 : isBd a1) (h_1 : Q (some (mI x3)) s) : Wp X d 61 82 [some (mR 44), some (mR a1), some (mI x2), some (mI x3), some (mI x4), l5, l6] [] s Q := Wp_step k61 f61_82 (Wp_step k61 f61_83 ⟨⟨rfl, trivial⟩, h_1⟩)
theorem e61 {X : (Nat → Int) × Nat} {d : Nat} {s : mSt} {Q : mQ} {a1 : Nat} {x2 : Int} (h : Wp X d 61 0 [some (mR 44), some (mR a1), some (mI x2), none, none, none, none] [] s Q) : Sp X d 61 [mR 44, mR a1, mI x2] s Q := Sp_of (show mCe 61 = 0 by decide +kernel) (by rw [show mML 61 = 7 by decide +kernel]; rfl) (Nat.le_trans (Nat.le_of_ble_eq_true (show Nat.ble (mArgs _).length 7 = true from rfl)) (show 7 ≤ mML 61 by decide +kernel)) h
-- 62 ClashDay$Planner.prepare(LClashDay$Board;II)V
theorem k62 : mRk 62 = 0 := by decide +kernel
theorem f62_0 : mFetch 62 0 = some (.aload_n 1, 1, 0, 0, 0, 0) := by decide +kernel
theorem f62_1 : mFetch 62 1 = some (.invokevirtual 62, 3, 18, 0, 1, 0) := by decide +kernel
theorem f62_4 : mFetch 62 4 = some (.istore 4, 2, 0, 0, 0, 0) := by decide +kernel
theorem f62_6 : mFetch 62 6 = some (.aload_n 0, 1, 0, 0, 0, 0) := by decide +kernel
theorem f62_7 : mFetch 62 7 = some (.aload_n 1, 1, 0, 0, 0, 0) := by decide +kernel
theorem f62_8 : mFetch 62 8 = some (.getfield 66, 3, 0, 1, 0, 0) := by decide +kernel
theorem f62_11 : mFetch 62 11 = some (.putfield 69, 3, 4, 4, 0, 1) := by decide +kernel
theorem f62_14 : mFetch 62 14 = some (.aload_n 0, 1, 0, 0, 0, 0) := by decide +kernel
theorem f62_15 : mFetch 62 15 = some (.aload_n 1, 1, 0, 0, 0, 0) := by decide +kernel
theorem f62_16 : mFetch 62 16 = some (.getfield 70, 3, 0, 10, 2, 0) := by decide +kernel
theorem f62_19 : mFetch 62 19 = some (.iload_n 2, 1, 0, 0, 0, 0) := by decide +kernel
theorem f62_20 : mFetch 62 20 = some (.iaload, 1, 0, 0, 0, 0) := by decide +kernel
theorem f62_21 : mFetch 62 21 = some (.putfield 73, 3, 4, 5, 0, 1) := by decide +kernel
theorem f62_24 : mFetch 62 24 = some (.iconst 0, 1, 0, 0, 0, 0) := by decide +kernel
theorem f62_25 : mFetch 62 25 = some (.istore 5, 2, 0, 0, 0, 0) := by decide +kernel
theorem f62_27 : mFetch 62 27 = some (.iload 5, 2, 0, 0, 0, 0) := by decide +kernel
theorem f62_29 : mFetch 62 29 = some (.iconst 5, 1, 0, 0, 0, 0) := by decide +kernel
theorem f62_30 : mFetch 62 30 = some (.if_icmp .ge 108, 3, 138, 0, 0, 0) := by decide +kernel
theorem f62_33 : mFetch 62 33 = some (.aload_n 0, 1, 0, 0, 0, 0) := by decide +kernel
theorem f62_34 : mFetch 62 34 = some (.getfield 21, 3, 4, 3, 2, 1) := by decide +kernel
theorem f62_37 : mFetch 62 37 = some (.iload 5, 2, 0, 0, 0, 0) := by decide +kernel
theorem f62_39 : mFetch 62 39 = some (.iconst (-1), 1, 0, 0, 0, 0) := by decide +kernel
theorem f62_40 : mFetch 62 40 = some (.iastore, 1, 0, 0, 0, 0) := by decide +kernel
theorem f62_41 : mFetch 62 41 = some (.iload_n 3, 1, 0, 0, 0, 0) := by decide +kernel
theorem f62_42 : mFetch 62 42 = some (.iload 5, 2, 0, 0, 0, 0) := by decide +kernel
theorem f62_44 : mFetch 62 44 = some (.ishr, 1, 0, 0, 0, 0) := by decide +kernel
theorem f62_45 : mFetch 62 45 = some (.iconst 1, 1, 0, 0, 0, 0) := by decide +kernel
theorem f62_46 : mFetch 62 46 = some (.iand, 1, 0, 0, 0, 0) := by decide +kernel
theorem f62_47 : mFetch 62 47 = some (.iconst 1, 1, 0, 0, 0, 0) := by decide +kernel
theorem f62_48 : mFetch 62 48 = some (.if_icmp .ne 84, 3, 132, 0, 0, 0) := by decide +kernel
theorem f62_51 : mFetch 62 51 = some (.aload_n 0, 1, 0, 0, 0, 0) := by decide +kernel
theorem f62_52 : mFetch 62 52 = some (.getfield 9, 3, 4, 0, 2, 1) := by decide +kernel
theorem f62_55 : mFetch 62 55 = some (.iload 5, 2, 0, 0, 0, 0) := by decide +kernel
theorem f62_57 : mFetch 62 57 = some (.aload_n 1, 1, 0, 0, 0, 0) := by decide +kernel
theorem f62_58 : mFetch 62 58 = some (.getfield 75, 3, 0, 6, 2, 0) := by decide +kernel
theorem f62_61 : mFetch 62 61 = some (.iload 5, 2, 0, 0, 0, 0) := by decide +kernel
theorem f62_63 : mFetch 62 63 = some (.iaload, 1, 0, 0, 0, 0) := by decide +kernel
theorem f62_64 : mFetch 62 64 = some (.iastore, 1, 0, 0, 0, 0) := by decide +kernel
theorem f62_65 : mFetch 62 65 = some (.aload_n 0, 1, 0, 0, 0, 0) := by decide +kernel
theorem f62_66 : mFetch 62 66 = some (.getfield 15, 3, 4, 1, 2, 1) := by decide +kernel
theorem f62_69 : mFetch 62 69 = some (.iload 5, 2, 0, 0, 0, 0) := by decide +kernel
theorem f62_71 : mFetch 62 71 = some (.aload_n 1, 1, 0, 0, 0, 0) := by decide +kernel
theorem f62_72 : mFetch 62 72 = some (.iload_n 2, 1, 0, 0, 0, 0) := by decide +kernel
theorem f62_73 : mFetch 62 73 = some (.iload 5, 2, 0, 0, 0, 0) := by decide +kernel
theorem f62_75 : mFetch 62 75 = some (.invokevirtual 76, 3, 14, 0, 3, 0) := by decide +kernel
theorem f62_78 : mFetch 62 78 = some (.iastore, 1, 0, 0, 0, 0) := by decide +kernel
theorem f62_79 : mFetch 62 79 = some (.iload 4, 2, 0, 0, 0, 0) := by decide +kernel
theorem f62_81 : mFetch 62 81 = some (.ldc 80, 2, 1048575, 0, 0, 0) := by decide +kernel
theorem f62_83 : mFetch 62 83 = some (.iand, 1, 0, 0, 0, 0) := by decide +kernel
theorem f62_84 : mFetch 62 84 = some (.aload_n 0, 1, 0, 0, 0, 0) := by decide +kernel
theorem f62_85 : mFetch 62 85 = some (.getfield 15, 3, 4, 1, 2, 1) := by decide +kernel
theorem f62_88 : mFetch 62 88 = some (.iload 5, 2, 0, 0, 0, 0) := by decide +kernel
theorem f62_90 : mFetch 62 90 = some (.iaload, 1, 0, 0, 0, 0) := by decide +kernel
theorem f62_91 : mFetch 62 91 = some (.invokestatic 81, 3, 63, 0, 2, 99) := by decide +kernel
theorem f62_94 : mFetch 62 94 = some (.iload 4, 2, 0, 0, 0, 0) := by decide +kernel
theorem f62_96 : mFetch 62 96 = some (.ldc 84, 2, (-1048576), 0, 0, 0) := by decide +kernel
theorem f62_98 : mFetch 62 98 = some (.iand, 1, 0, 0, 0, 0) := by decide +kernel
theorem f62_99 : mFetch 62 99 = some (.aload_n 0, 1, 0, 0, 0, 0) := by decide +kernel
theorem f62_100 : mFetch 62 100 = some (.getfield 15, 3, 4, 1, 2, 1) := by decide +kernel
theorem f62_103 : mFetch 62 103 = some (.iload 5, 2, 0, 0, 0, 0) := by decide +kernel
theorem f62_105 : mFetch 62 105 = some (.iaload, 1, 0, 0, 0, 0) := by decide +kernel
theorem f62_106 : mFetch 62 106 = some (.invokestatic 81, 3, 63, 0, 2, 99) := by decide +kernel
theorem f62_109 : mFetch 62 109 = some (.ior, 1, 0, 0, 0, 0) := by decide +kernel
theorem f62_110 : mFetch 62 110 = some (.istore 6, 2, 0, 0, 0, 0) := by decide +kernel
theorem f62_112 : mFetch 62 112 = some (.aload_n 0, 1, 0, 0, 0, 0) := by decide +kernel
theorem f62_113 : mFetch 62 113 = some (.getfield 18, 3, 4, 2, 2, 1) := by decide +kernel
theorem f62_116 : mFetch 62 116 = some (.iload 5, 2, 0, 0, 0, 0) := by decide +kernel
theorem f62_118 : mFetch 62 118 = some (.iload 6, 2, 0, 0, 0, 0) := by decide +kernel
theorem f62_120 : mFetch 62 120 = some (.aload_n 0, 1, 0, 0, 0, 0) := by decide +kernel
theorem f62_121 : mFetch 62 121 = some (.getfield 9, 3, 4, 0, 2, 1) := by decide +kernel
theorem f62_124 : mFetch 62 124 = some (.iload 5, 2, 0, 0, 0, 0) := by decide +kernel
theorem f62_126 : mFetch 62 126 = some (.iaload, 1, 0, 0, 0, 0) := by decide +kernel
theorem f62_127 : mFetch 62 127 = some (.invokestatic 85, 3, 31, 0, 1, 99) := by decide +kernel
theorem f62_130 : mFetch 62 130 = some (.iand, 1, 0, 0, 0, 0) := by decide +kernel
theorem f62_131 : mFetch 62 131 = some (.iastore, 1, 0, 0, 0, 0) := by decide +kernel
theorem f62_132 : mFetch 62 132 = some (.iinc 5 1, 3, 0, 0, 0, 0) := by decide +kernel
theorem f62_135 : mFetch 62 135 = some (.goto (-108), 3, 27, 0, 0, 0) := by decide +kernel
theorem f62_138 : mFetch 62 138 = some (.return_, 1, 0, 0, 0, 0) := by decide +kernel
theorem b62_0 {X : (Nat → Int) × Nat} {d : Nat} {s : mSt} {Q : mQ} {a1 : Nat} {x2 : Int} {x3 : Int} {l4 : Option mV} {l5 : Option mV} {l6 : Option mV} (h1 : isBd a1) (h_1 : Sp X d 18 [mR a1] s (fun r s' => ∃ v : Int, r = some (mI v) ∧ Wp X (d + 1) 62 4 [some (mR 44), some (mR a1), some (mI x2), some (mI x3), l4, l5, l6] [mI v] s' Q)) : Wp X (d + 1) 62 0 [some (mR 44), some (mR a1), some (mI x2), some (mI x3), l4, l5, l6] [] s Q := Wp_step k62 f62_0 (Wp_step k62 f62_1 ⟨⟨(bd_k h1), Nat.le_of_ble_eq_true rfl⟩, Nat.le_refl _, _, rfl, Sp_E h_1⟩)
theorem b62_4 {X : (Nat → Int) × Nat} {d : Nat} {s : mSt} {Q : mQ} {a1 : Nat} {x2 : Int} {x3 : Int} {l4 : Option mV} {l5 : Option mV} {l6 : Option mV} {xt0 : Int} (h1 : isBd a1) (h_1 : 0 ≤ x2 ∧ x2 < 6) (h_2 : Wp X d 62 27 [some (mR 44), some (mR a1), some (mI x2), some (mI x3), some (mI xt0), some (mI 0), l6] [] (uS (uS s 44 4 (s a1 1)) 44 5 ((uS s 44 4 (s a1 1)) (a1 + 5) x2.toNat)) Q) : Wp X d 62 4 [some (mR 44), some (mR a1), some (mI x2), some (mI x3), l4, l5, l6] [mI xt0] s Q := Wp_step k62 f62_4 (Wp_step k62 f62_6 (Wp_step k62 f62_7 (Wp_step k62 f62_8 ⟨(bd_k h1), Wp_step k62 f62_11 ⟨kf_44, Wp_step k62 f62_14 (Wp_step k62 f62_15 (Wp_step k62 f62_16 ⟨(bd_k h1), (a1 + 5), (bd_r10 h1), Wp_step k62 f62_19 (Wp_step k62 f62_20 ⟨6, (bd_a10 h1), h_1, Wp_step k62 f62_21 ⟨kf_44, Wp_step k62 f62_24 (Wp_step k62 f62_25 (h_2))⟩⟩)⟩))⟩⟩)))
theorem b62_27 {X : (Nat → Int) × Nat} {d : Nat} {s : mSt} {Q : mQ} {a1 : Nat} {x2 : Int} {x3 : Int} {x4 : Int} {x5 : Int} {l6 : Option mV} (h1 : isBd a1) (h_1 : 5 ≤ x5 → Wp X d 62 138 [some (mR 44), some (mR a1), some (mI x2), some (mI x3), some (mI x4), some (mI x5), l6] [] s Q) (h_2 : ¬ 5 ≤ x5 → Wp X d 62 33 [some (mR 44), some (mR a1), some (mI x2), some (mI x3), some (mI x4), some (mI x5), l6] [] s Q) : Wp X d 62 27 [some (mR 44), some (mR a1), some (mI x2), some (mI x3), some (mI x4), some (mI x5), l6] [] s Q := Wp_step k62 f62_27 (Wp_step k62 f62_29 (Wp_step k62 f62_30 ⟨h_1, h_2⟩))
theorem b62_33 {X : (Nat → Int) × Nat} {d : Nat} {s : mSt} {Q : mQ} {a1 : Nat} {x2 : Int} {x3 : Int} {x4 : Int} {x5 : Int} {l6 : Option mV} (h1 : isBd a1) (h_1 : 0 ≤ x5 ∧ x5 < 5) (h_2 : ¬ (iAnd (iShr x3 x5) 1) = 1 → Wp X d 62 132 [some (mR 44), some (mR a1), some (mI x2), some (mI x3), some (mI x4), some (mI x5), l6] [] (uS s 48 x5.toNat (-1)) Q) (h_3 : (iAnd (iShr x3 x5) 1) = 1 → Wp X d 62 51 [some (mR 44), some (mR a1), some (mI x2), some (mI x3), some (mI x4), some (mI x5), l6] [] (uS s 48 x5.toNat (-1)) Q) : Wp X d 62 33 [some (mR 44), some (mR a1), some (mI x2), some (mI x3), some (mI x4), some (mI x5), l6] [] s Q := Wp_step k62 f62_33 (Wp_step k62 f62_34 ⟨kf_44, 48, rf_44_3, Wp_step k62 f62_37 (Wp_step k62 f62_39 (Wp_step k62 f62_40 ⟨5, af_48, h_1, Wp_step k62 f62_41 (Wp_step k62 f62_42 (Wp_step k62 f62_44 (Wp_step k62 f62_45 (Wp_step k62 f62_46 (Wp_step k62 f62_47 (Wp_step k62 f62_48 ⟨h_2, h_3⟩))))))⟩))⟩)
theorem b62_51 {X : (Nat → Int) × Nat} {d : Nat} {s : mSt} {Q : mQ} {a1 : Nat} {x2 : Int} {x3 : Int} {x4 : Int} {x5 : Int} {l6 : Option mV} (h1 : isBd a1) (h_1 : 0 ≤ x5 ∧ x5 < 5) (h_2 : 0 ≤ x5 ∧ x5 < 5) (h_3 : Sp X d 14 [mR a1, mI x2, mI x5] (uS s 45 x5.toNat (s (a1 + 1) x5.toNat)) (fun r s' => ∃ v : Int, r = some (mI v) ∧ Wp X (d + 1) 62 78 [some (mR 44), some (mR a1), some (mI x2), some (mI x3), some (mI x4), some (mI x5), l6] [mI v, mI x5, mR 46] s' Q)) : Wp X (d + 1) 62 51 [some (mR 44), some (mR a1), some (mI x2), some (mI x3), some (mI x4), some (mI x5), l6] [] s Q := Wp_step k62 f62_51 (Wp_step k62 f62_52 ⟨kf_44, 45, rf_44_0, Wp_step k62 f62_55 (Wp_step k62 f62_57 (Wp_step k62 f62_58 ⟨(bd_k h1), (a1 + 1), (bd_r6 h1), Wp_step k62 f62_61 (Wp_step k62 f62_63 ⟨5, (bd_a6 h1), h_1, Wp_step k62 f62_64 ⟨5, af_45, h_2, Wp_step k62 f62_65 (Wp_step k62 f62_66 ⟨kf_44, 46, rf_44_1, Wp_step k62 f62_69 (Wp_step k62 f62_71 (Wp_step k62 f62_72 (Wp_step k62 f62_73 (Wp_step k62 f62_75 ⟨⟨(bd_k h1), Nat.le_of_ble_eq_true rfl⟩, Nat.le_refl _, _, rfl, Sp_E h_3⟩))))⟩)⟩⟩)⟩))⟩)
theorem b62_78 {X : (Nat → Int) × Nat} {d : Nat} {s : mSt} {Q : mQ} {a1 : Nat} {x2 : Int} {x3 : Int} {x4 : Int} {x5 : Int} {l6 : Option mV} {xt1 : Int} {xt2 : Int} (h1 : isBd a1) (h_1 : 0 ≤ xt1 ∧ xt1 < 5) (h_2 : 0 ≤ x5 ∧ x5 < 5) (h_3 : Sp X d 63 [mI (iAnd x4 1048575), mI ((uS s 46 xt1.toNat xt2) 46 x5.toNat)] (uS s 46 xt1.toNat xt2) (fun r s' => ∃ v : Int, r = some (mI v) ∧ Wp X (d + 1) 62 94 [some (mR 44), some (mR a1), some (mI x2), some (mI x3), some (mI x4), some (mI x5), l6] [mI v] s' Q)) : Wp X (d + 1) 62 78 [some (mR 44), some (mR a1), some (mI x2), some (mI x3), some (mI x4), some (mI x5), l6] [mI xt2, mI xt1, mR 46] s Q := Wp_step k62 f62_78 ⟨5, af_46, h_1, Wp_step k62 f62_79 (Wp_step k62 f62_81 (Wp_step k62 f62_83 (Wp_step k62 f62_84 (Wp_step k62 f62_85 ⟨kf_44, 46, rf_44_1, Wp_step k62 f62_88 (Wp_step k62 f62_90 ⟨5, af_46, h_2, Wp_step k62 f62_91 ⟨⟨Nat.le_of_ble_eq_true rfl, Nat.le_refl _⟩, _, rfl, Sp_E h_3⟩⟩)⟩))))⟩
theorem b62_94 {X : (Nat → Int) × Nat} {d : Nat} {s : mSt} {Q : mQ} {a1 : Nat} {x2 : Int} {x3 : Int} {x4 : Int} {x5 : Int} {l6 : Option mV} {xt0 : Int} (h1 : isBd a1) (h_1 : 0 ≤ x5 ∧ x5 < 5) (h_2 : Sp X d 63 [mI (iAnd x4 (-1048576)), mI (s 46 x5.toNat)] s (fun r s' => ∃ v : Int, r = some (mI v) ∧ Wp X (d + 1) 62 109 [some (mR 44), some (mR a1), some (mI x2), some (mI x3), some (mI x4), some (mI x5), l6] [mI v, mI xt0] s' Q)) : Wp X (d + 1) 62 94 [some (mR 44), some (mR a1), some (mI x2), some (mI x3), some (mI x4), some (mI x5), l6] [mI xt0] s Q := Wp_step k62 f62_94 (Wp_step k62 f62_96 (Wp_step k62 f62_98 (Wp_step k62 f62_99 (Wp_step k62 f62_100 ⟨kf_44, 46, rf_44_1, Wp_step k62 f62_103 (Wp_step k62 f62_105 ⟨5, af_46, h_1, Wp_step k62 f62_106 ⟨⟨Nat.le_of_ble_eq_true rfl, Nat.le_refl _⟩, _, rfl, Sp_E h_2⟩⟩)⟩))))
theorem b62_109 {X : (Nat → Int) × Nat} {d : Nat} {s : mSt} {Q : mQ} {a1 : Nat} {x2 : Int} {x3 : Int} {x4 : Int} {x5 : Int} {l6 : Option mV} {xt0 : Int} {xt1 : Int} (h1 : isBd a1) (h_1 : 0 ≤ x5 ∧ x5 < 5) (h_2 : Sp X d 31 [mI (s 45 x5.toNat)] s (fun r s' => ∃ v : Int, r = some (mI v) ∧ Wp X (d + 1) 62 130 [some (mR 44), some (mR a1), some (mI x2), some (mI x3), some (mI x4), some (mI x5), some (mI (iOr xt0 xt1))] [mI v, mI (iOr xt0 xt1), mI x5, mR 47] s' Q)) : Wp X (d + 1) 62 109 [some (mR 44), some (mR a1), some (mI x2), some (mI x3), some (mI x4), some (mI x5), l6] [mI xt1, mI xt0] s Q := Wp_step k62 f62_109 (Wp_step k62 f62_110 (Wp_step k62 f62_112 (Wp_step k62 f62_113 ⟨kf_44, 47, rf_44_2, Wp_step k62 f62_116 (Wp_step k62 f62_118 (Wp_step k62 f62_120 (Wp_step k62 f62_121 ⟨kf_44, 45, rf_44_0, Wp_step k62 f62_124 (Wp_step k62 f62_126 ⟨5, af_45, h_1, Wp_step k62 f62_127 ⟨⟨Nat.le_of_ble_eq_true rfl, Nat.le_refl _⟩, _, rfl, Sp_E h_2⟩⟩)⟩)))⟩)))
theorem b62_130 {X : (Nat → Int) × Nat} {d : Nat} {s : mSt} {Q : mQ} {a1 : Nat} {x2 : Int} {x3 : Int} {x4 : Int} {x5 : Int} {x6 : Int} {xt1 : Int} {xt2 : Int} {xt3 : Int} (h1 : isBd a1) (h_1 : 0 ≤ xt1 ∧ xt1 < 5) (h_2 : Wp X d 62 132 [some (mR 44), some (mR a1), some (mI x2), some (mI x3), some (mI x4), some (mI x5), some (mI x6)] [] (uS s 47 xt1.toNat (iAnd xt2 xt3)) Q) : Wp X d 62 130 [some (mR 44), some (mR a1), some (mI x2), some (mI x3), some (mI x4), some (mI x5), some (mI x6)] [mI xt3, mI xt2, mI xt1, mR 47] s Q := Wp_step k62 f62_130 (Wp_step k62 f62_131 ⟨5, af_47, h_1, h_2⟩)
theorem b62_132 {X : (Nat → Int) × Nat} {d : Nat} {s : mSt} {Q : mQ} {a1 : Nat} {x2 : Int} {x3 : Int} {x4 : Int} {x5 : Int} {l6 : Option mV} (h1 : isBd a1) (h_1 : Wp X d 62 27 [some (mR 44), some (mR a1), some (mI x2), some (mI x3), some (mI x4), some (mI (w32 (x5 + 1))), l6] [] s Q) : Wp X d 62 132 [some (mR 44), some (mR a1), some (mI x2), some (mI x3), some (mI x4), some (mI x5), l6] [] s Q := Wp_step k62 f62_132 (Wp_step k62 f62_135 (h_1))
theorem b62_138 {X : (Nat → Int) × Nat} {d : Nat} {s : mSt} {Q : mQ} {a1 : Nat} {x2 : Int} {x3 : Int} {x4 : Int} {x5 : Int} {l6 : Option mV} (h1 : isBd a1) (h_1 : Q none s) : Wp X d 62 138 [some (mR 44), some (mR a1), some (mI x2), some (mI x3), some (mI x4), some (mI x5), l6] [] s Q := Wp_step k62 f62_138 ⟨⟨rfl, Or.inl rfl⟩, h_1⟩
theorem e62 {X : (Nat → Int) × Nat} {d : Nat} {s : mSt} {Q : mQ} {a1 : Nat} {x2 : Int} {x3 : Int} (h : Wp X d 62 0 [some (mR 44), some (mR a1), some (mI x2), some (mI x3), none, none, none] [] s Q) : Sp X d 62 [mR 44, mR a1, mI x2, mI x3] s Q := Sp_of (show mCe 62 = 0 by decide +kernel) (by rw [show mML 62 = 7 by decide +kernel]; rfl) (Nat.le_trans (Nat.le_of_ble_eq_true (show Nat.ble (mArgs _).length 7 = true from rfl)) (show 7 ≤ mML 62 by decide +kernel)) h
-- 63 ClashDay$Planner.runs(II)I
theorem k63 : mRk 63 = 1 := by decide +kernel
theorem f63_0 : mFetch 63 0 = some (.iload_n 0, 1, 0, 0, 0, 0) := by decide +kernel
theorem f63_1 : mFetch 63 1 = some (.istore_n 2, 1, 0, 0, 0, 0) := by decide +kernel
theorem f63_2 : mFetch 63 2 = some (.iconst 1, 1, 0, 0, 0, 0) := by decide +kernel
theorem f63_3 : mFetch 63 3 = some (.istore_n 3, 1, 0, 0, 0, 0) := by decide +kernel
theorem f63_4 : mFetch 63 4 = some (.iload_n 3, 1, 0, 0, 0, 0) := by decide +kernel
theorem f63_5 : mFetch 63 5 = some (.iload_n 1, 1, 0, 0, 0, 0) := by decide +kernel
theorem f63_6 : mFetch 63 6 = some (.if_icmp .ge 21, 3, 27, 0, 0, 0) := by decide +kernel
theorem f63_9 : mFetch 63 9 = some (.iload_n 3, 1, 0, 0, 0, 0) := by decide +kernel
theorem f63_10 : mFetch 63 10 = some (.bipush 30, 2, 0, 0, 0, 0) := by decide +kernel
theorem f63_12 : mFetch 63 12 = some (.if_icmp .ge 15, 3, 27, 0, 0, 0) := by decide +kernel
theorem f63_15 : mFetch 63 15 = some (.iload_n 2, 1, 0, 0, 0, 0) := by decide +kernel
theorem f63_16 : mFetch 63 16 = some (.iload_n 0, 1, 0, 0, 0, 0) := by decide +kernel
theorem f63_17 : mFetch 63 17 = some (.iload_n 3, 1, 0, 0, 0, 0) := by decide +kernel
theorem f63_18 : mFetch 63 18 = some (.iushr, 1, 0, 0, 0, 0) := by decide +kernel
theorem f63_19 : mFetch 63 19 = some (.iand, 1, 0, 0, 0, 0) := by decide +kernel
theorem f63_20 : mFetch 63 20 = some (.istore_n 2, 1, 0, 0, 0, 0) := by decide +kernel
theorem f63_21 : mFetch 63 21 = some (.iinc 3 1, 3, 0, 0, 0, 0) := by decide +kernel
theorem f63_24 : mFetch 63 24 = some (.goto (-20), 3, 4, 0, 0, 0) := by decide +kernel
theorem f63_27 : mFetch 63 27 = some (.iload_n 2, 1, 0, 0, 0, 0) := by decide +kernel
theorem f63_28 : mFetch 63 28 = some (.ireturn, 1, 0, 0, 0, 0) := by decide +kernel
theorem b63_0 {X : (Nat → Int) × Nat} {d : Nat} {s : mSt} {Q : mQ} {x0 : Int} {x1 : Int} {l2 : Option mV} {l3 : Option mV} (h_1 : Wp X d 63 4 [some (mI x0), some (mI x1), some (mI x0), some (mI 1)] [] s Q) : Wp X d 63 0 [some (mI x0), some (mI x1), l2, l3] [] s Q := Wp_step k63 f63_0 (Wp_step k63 f63_1 (Wp_step k63 f63_2 (Wp_step k63 f63_3 (h_1))))
theorem b63_4 {X : (Nat → Int) × Nat} {d : Nat} {s : mSt} {Q : mQ} {x0 : Int} {x1 : Int} {x2 : Int} {x3 : Int} (h_1 : x1 ≤ x3 → Wp X d 63 27 [some (mI x0), some (mI x1), some (mI x2), some (mI x3)] [] s Q) (h_2 : ¬ x1 ≤ x3 → Wp X d 63 9 [some (mI x0), some (mI x1), some (mI x2), some (mI x3)] [] s Q) : Wp X d 63 4 [some (mI x0), some (mI x1), some (mI x2), some (mI x3)] [] s Q := Wp_step k63 f63_4 (Wp_step k63 f63_5 (Wp_step k63 f63_6 ⟨h_1, h_2⟩))
theorem b63_9 {X : (Nat → Int) × Nat} {d : Nat} {s : mSt} {Q : mQ} {x0 : Int} {x1 : Int} {x2 : Int} {x3 : Int} (h_1 : 30 ≤ x3 → Wp X d 63 27 [some (mI x0), some (mI x1), some (mI x2), some (mI x3)] [] s Q) (h_2 : ¬ 30 ≤ x3 → Wp X d 63 15 [some (mI x0), some (mI x1), some (mI x2), some (mI x3)] [] s Q) : Wp X d 63 9 [some (mI x0), some (mI x1), some (mI x2), some (mI x3)] [] s Q := Wp_step k63 f63_9 (Wp_step k63 f63_10 (Wp_step k63 f63_12 ⟨h_1, h_2⟩))
theorem b63_15 {X : (Nat → Int) × Nat} {d : Nat} {s : mSt} {Q : mQ} {x0 : Int} {x1 : Int} {x2 : Int} {x3 : Int} (h_1 : Wp X d 63 4 [some (mI x0), some (mI x1), some (mI (iAnd x2 (iUsh x0 x3))), some (mI (w32 (x3 + 1)))] [] s Q) : Wp X d 63 15 [some (mI x0), some (mI x1), some (mI x2), some (mI x3)] [] s Q := Wp_step k63 f63_15 (Wp_step k63 f63_16 (Wp_step k63 f63_17 (Wp_step k63 f63_18 (Wp_step k63 f63_19 (Wp_step k63 f63_20 (Wp_step k63 f63_21 (Wp_step k63 f63_24 (h_1))))))))
theorem b63_27 {X : (Nat → Int) × Nat} {d : Nat} {s : mSt} {Q : mQ} {x0 : Int} {x1 : Int} {x2 : Int} {x3 : Int} (h_1 : Q (some (mI x2)) s) : Wp X d 63 27 [some (mI x0), some (mI x1), some (mI x2), some (mI x3)] [] s Q := Wp_step k63 f63_27 (Wp_step k63 f63_28 ⟨⟨rfl, trivial⟩, h_1⟩)
theorem e63 {X : (Nat → Int) × Nat} {d : Nat} {s : mSt} {Q : mQ} {x0 : Int} {x1 : Int} (h : Wp X d 63 0 [some (mI x0), some (mI x1), none, none] [] s Q) : Sp X d 63 [mI x0, mI x1] s Q := Sp_of (show mCe 63 = 0 by decide +kernel) (by rw [show mML 63 = 4 by decide +kernel]; rfl) (Nat.le_trans (Nat.le_of_ble_eq_true (show Nat.ble (mArgs _).length 4 = true from rfl)) (show 4 ≤ mML 63 by decide +kernel)) h
