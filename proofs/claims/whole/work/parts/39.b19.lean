-- 286 ClashDayModel.ahead(II)I
theorem k286 : mRk 286 = 1 := by decide +kernel
theorem f286_0 : mFetch 286 0 = some (.aload_n 0, 1, 0, 0, 0, 0) := by decide +kernel
theorem f286_1 : mFetch 286 1 = some (.invokevirtual 354, 3, 212, 0, 1, 12) := by decide +kernel
theorem f286_4 : mFetch 286 4 = some (.ifCond .eq 27, 3, 31, 0, 0, 0) := by decide +kernel
theorem f286_7 : mFetch 286 7 = some (.iload_n 1, 1, 0, 0, 0, 0) := by decide +kernel
theorem f286_8 : mFetch 286 8 = some (.i2l, 1, 0, 0, 0, 0) := by decide +kernel
theorem f286_9 : mFetch 286 9 = some (.lconst 0, 1, 0, 0, 0, 0) := by decide +kernel
theorem f286_10 : mFetch 286 10 = some (.ldc2_w 514, 3, 20, 0, 0, 0) := by decide +kernel
theorem f286_13 : mFetch 286 13 = some (.invokestatic 151, 3, 167, 0, 3, 99) := by decide +kernel
theorem f286_16 : mFetch 286 16 = some (.ifCond .eq 15, 3, 31, 0, 0, 0) := by decide +kernel
theorem f286_19 : mFetch 286 19 = some (.iload_n 2, 1, 0, 0, 0, 0) := by decide +kernel
theorem f286_20 : mFetch 286 20 = some (.i2l, 1, 0, 0, 0, 0) := by decide +kernel
theorem f286_21 : mFetch 286 21 = some (.lconst 0, 1, 0, 0, 0, 0) := by decide +kernel
theorem f286_22 : mFetch 286 22 = some (.ldc2_w 352, 3, 2, 0, 0, 0) := by decide +kernel
theorem f286_25 : mFetch 286 25 = some (.invokestatic 151, 3, 167, 0, 3, 99) := by decide +kernel
theorem f286_28 : mFetch 286 28 = some (.ifCond .ne 5, 3, 33, 0, 0, 0) := by decide +kernel
theorem f286_31 : mFetch 286 31 = some (.iconst (-1), 1, 0, 0, 0, 0) := by decide +kernel
theorem f286_32 : mFetch 286 32 = some (.ireturn, 1, 0, 0, 0, 0) := by decide +kernel
theorem f286_33 : mFetch 286 33 = some (.aload_n 0, 1, 0, 0, 0, 0) := by decide +kernel
theorem f286_34 : mFetch 286 34 = some (.invokevirtual 502, 3, 277, 0, 1, 12) := by decide +kernel
theorem f286_37 : mFetch 286 37 = some (.aload_n 0, 1, 0, 0, 0, 0) := by decide +kernel
theorem f286_38 : mFetch 286 38 = some (.iload_n 1, 1, 0, 0, 0, 0) := by decide +kernel
theorem f286_39 : mFetch 286 39 = some (.invokevirtual 516, 3, 252, 0, 2, 12) := by decide +kernel
theorem f286_42 : mFetch 286 42 = some (.iload_n 2, 1, 0, 0, 0, 0) := by decide +kernel
theorem f286_43 : mFetch 286 43 = some (.ifCond .ne 10, 3, 53, 0, 0, 0) := by decide +kernel
theorem f286_46 : mFetch 286 46 = some (.aload_n 0, 1, 0, 0, 0, 0) := by decide +kernel
theorem f286_47 : mFetch 286 47 = some (.invokevirtual 519, 3, 285, 0, 1, 12) := by decide +kernel
theorem f286_50 : mFetch 286 50 = some (.goto 19, 3, 69, 0, 0, 0) := by decide +kernel
theorem f286_53 : mFetch 286 53 = some (.iload_n 2, 1, 0, 0, 0, 0) := by decide +kernel
theorem f286_54 : mFetch 286 54 = some (.iconst 1, 1, 0, 0, 0, 0) := by decide +kernel
theorem f286_55 : mFetch 286 55 = some (.if_icmp .ne 10, 3, 65, 0, 0, 0) := by decide +kernel
theorem f286_58 : mFetch 286 58 = some (.aload_n 0, 1, 0, 0, 0, 0) := by decide +kernel
theorem f286_59 : mFetch 286 59 = some (.invokevirtual 522, 3, 226, 0, 1, 12) := by decide +kernel
theorem f286_62 : mFetch 286 62 = some (.goto 7, 3, 69, 0, 0, 0) := by decide +kernel
theorem f286_65 : mFetch 286 65 = some (.aload_n 0, 1, 0, 0, 0, 0) := by decide +kernel
theorem f286_66 : mFetch 286 66 = some (.invokevirtual 525, 3, 284, 0, 1, 12) := by decide +kernel
theorem f286_69 : mFetch 286 69 = some (.istore_n 3, 1, 0, 0, 0, 0) := by decide +kernel
theorem f286_70 : mFetch 286 70 = some (.aload_n 0, 1, 0, 0, 0, 0) := by decide +kernel
theorem f286_71 : mFetch 286 71 = some (.invokevirtual 491, 3, 278, 0, 1, 12) := by decide +kernel
theorem f286_74 : mFetch 286 74 = some (.iload_n 3, 1, 0, 0, 0, 0) := by decide +kernel
theorem f286_75 : mFetch 286 75 = some (.ireturn, 1, 0, 0, 0, 0) := by decide +kernel
theorem b286_0 {X : (Nat → Int) × Nat} {d : Nat} {s : mSt} {Q : mQ} {x1 : Int} {x2 : Int} (h_1 : Sp X d 212 [mR 407] s (fun r s' => ∃ v : Int, r = some (mI v) ∧ Wp X (d + 1) 286 4 [some (mR 407), some (mI x1), some (mI x2), none] [mI v] s' Q)) : Wp X (d + 1) 286 0 [some (mR 407), some (mI x1), some (mI x2), none] [] s Q := Wp_step k286 f286_0 (Wp_step k286 f286_1 ⟨⟨kf_407, Nat.le_of_ble_eq_true rfl⟩, Nat.le_refl _, _, rfl, Sp_E h_1⟩)
theorem b286_4 {X : (Nat → Int) × Nat} {d : Nat} {s : mSt} {Q : mQ} {x1 : Int} {x2 : Int} {xt0 : Int} (h_1 : xt0 = 0 → Wp X d 286 31 [some (mR 407), some (mI x1), some (mI x2), none] [] s Q) (h_2 : ¬ xt0 = 0 → Wp X d 286 7 [some (mR 407), some (mI x1), some (mI x2), none] [] s Q) : Wp X d 286 4 [some (mR 407), some (mI x1), some (mI x2), none] [mI xt0] s Q := Wp_step k286 f286_4 ⟨h_1, h_2⟩
theorem b286_7 {X : (Nat → Int) × Nat} {d : Nat} {s : mSt} {Q : mQ} {x1 : Int} {x2 : Int} (h_1 : Sp X d 167 [mJ x1, mJ 0, mJ 20] s (fun r s' => ∃ v : Int, r = some (mI v) ∧ Wp X (d + 1) 286 16 [some (mR 407), some (mI x1), some (mI x2), none] [mI v] s' Q)) : Wp X (d + 1) 286 7 [some (mR 407), some (mI x1), some (mI x2), none] [] s Q := Wp_step k286 f286_7 (Wp_step k286 f286_8 (Wp_step k286 f286_9 (Wp_step k286 f286_10 (Wp_step k286 f286_13 ⟨⟨Nat.le_of_ble_eq_true rfl, Nat.le_refl _⟩, _, rfl, Sp_E h_1⟩))))
theorem b286_16 {X : (Nat → Int) × Nat} {d : Nat} {s : mSt} {Q : mQ} {x1 : Int} {x2 : Int} {xt0 : Int} (h_1 : xt0 = 0 → Wp X d 286 31 [some (mR 407), some (mI x1), some (mI x2), none] [] s Q) (h_2 : ¬ xt0 = 0 → Wp X d 286 19 [some (mR 407), some (mI x1), some (mI x2), none] [] s Q) : Wp X d 286 16 [some (mR 407), some (mI x1), some (mI x2), none] [mI xt0] s Q := Wp_step k286 f286_16 ⟨h_1, h_2⟩
theorem b286_19 {X : (Nat → Int) × Nat} {d : Nat} {s : mSt} {Q : mQ} {x1 : Int} {x2 : Int} (h_1 : Sp X d 167 [mJ x2, mJ 0, mJ 2] s (fun r s' => ∃ v : Int, r = some (mI v) ∧ Wp X (d + 1) 286 28 [some (mR 407), some (mI x1), some (mI x2), none] [mI v] s' Q)) : Wp X (d + 1) 286 19 [some (mR 407), some (mI x1), some (mI x2), none] [] s Q := Wp_step k286 f286_19 (Wp_step k286 f286_20 (Wp_step k286 f286_21 (Wp_step k286 f286_22 (Wp_step k286 f286_25 ⟨⟨Nat.le_of_ble_eq_true rfl, Nat.le_refl _⟩, _, rfl, Sp_E h_1⟩))))
theorem b286_28 {X : (Nat → Int) × Nat} {d : Nat} {s : mSt} {Q : mQ} {x1 : Int} {x2 : Int} {xt0 : Int} (h_1 : ¬ xt0 = 0 → Wp X d 286 33 [some (mR 407), some (mI x1), some (mI x2), none] [] s Q) (h_2 : xt0 = 0 → Wp X d 286 31 [some (mR 407), some (mI x1), some (mI x2), none] [] s Q) : Wp X d 286 28 [some (mR 407), some (mI x1), some (mI x2), none] [mI xt0] s Q := Wp_step k286 f286_28 ⟨h_1, h_2⟩
theorem b286_31 {X : (Nat → Int) × Nat} {d : Nat} {s : mSt} {Q : mQ} {x1 : Int} {x2 : Int} (h_1 : Q (some (mI (-1))) s) : Wp X d 286 31 [some (mR 407), some (mI x1), some (mI x2), none] [] s Q := Wp_step k286 f286_31 (Wp_step k286 f286_32 ⟨⟨rfl, trivial⟩, h_1⟩)
theorem b286_33 {X : (Nat → Int) × Nat} {d : Nat} {s : mSt} {Q : mQ} {x1 : Int} {x2 : Int} (h_1 : Sp X d 277 [mR 407] s (fun r s' => r = none ∧ Wp X (d + 1) 286 37 [some (mR 407), some (mI x1), some (mI x2), none] [] s' Q)) : Wp X (d + 1) 286 33 [some (mR 407), some (mI x1), some (mI x2), none] [] s Q := Wp_step k286 f286_33 (Wp_step k286 f286_34 ⟨⟨kf_407, Nat.le_of_ble_eq_true rfl⟩, Nat.le_refl _, _, rfl, Sp_V h_1⟩)
theorem b286_37 {X : (Nat → Int) × Nat} {d : Nat} {s : mSt} {Q : mQ} {x1 : Int} {x2 : Int} (h_1 : Sp X d 252 [mR 407, mI x1] s (fun r s' => r = none ∧ Wp X (d + 1) 286 42 [some (mR 407), some (mI x1), some (mI x2), none] [] s' Q)) : Wp X (d + 1) 286 37 [some (mR 407), some (mI x1), some (mI x2), none] [] s Q := Wp_step k286 f286_37 (Wp_step k286 f286_38 (Wp_step k286 f286_39 ⟨⟨kf_407, Nat.le_of_ble_eq_true rfl⟩, Nat.le_refl _, _, rfl, Sp_V h_1⟩))
theorem b286_42 {X : (Nat → Int) × Nat} {d : Nat} {s : mSt} {Q : mQ} {x1 : Int} {x2 : Int} (h_1 : ¬ x2 = 0 → Wp X d 286 53 [some (mR 407), some (mI x1), some (mI x2), none] [] s Q) (h_2 : x2 = 0 → Wp X d 286 46 [some (mR 407), some (mI x1), some (mI x2), none] [] s Q) : Wp X d 286 42 [some (mR 407), some (mI x1), some (mI x2), none] [] s Q := Wp_step k286 f286_42 (Wp_step k286 f286_43 ⟨h_1, h_2⟩)
theorem b286_46 {X : (Nat → Int) × Nat} {d : Nat} {s : mSt} {Q : mQ} {x1 : Int} {x2 : Int} (h_1 : Sp X d 285 [mR 407] s (fun r s' => ∃ v : Int, r = some (mI v) ∧ Wp X (d + 1) 286 50 [some (mR 407), some (mI x1), some (mI x2), none] [mI v] s' Q)) : Wp X (d + 1) 286 46 [some (mR 407), some (mI x1), some (mI x2), none] [] s Q := Wp_step k286 f286_46 (Wp_step k286 f286_47 ⟨⟨kf_407, Nat.le_of_ble_eq_true rfl⟩, Nat.le_refl _, _, rfl, Sp_E h_1⟩)
theorem b286_50 {X : (Nat → Int) × Nat} {d : Nat} {s : mSt} {Q : mQ} {x1 : Int} {x2 : Int} {xt0 : Int} (h_1 : Wp X d 286 69 [some (mR 407), some (mI x1), some (mI x2), none] [mI xt0] s Q) : Wp X d 286 50 [some (mR 407), some (mI x1), some (mI x2), none] [mI xt0] s Q := Wp_step k286 f286_50 (h_1)
theorem b286_53 {X : (Nat → Int) × Nat} {d : Nat} {s : mSt} {Q : mQ} {x1 : Int} {x2 : Int} (h_1 : ¬ x2 = 1 → Wp X d 286 65 [some (mR 407), some (mI x1), some (mI x2), none] [] s Q) (h_2 : x2 = 1 → Wp X d 286 58 [some (mR 407), some (mI x1), some (mI x2), none] [] s Q) : Wp X d 286 53 [some (mR 407), some (mI x1), some (mI x2), none] [] s Q := Wp_step k286 f286_53 (Wp_step k286 f286_54 (Wp_step k286 f286_55 ⟨h_1, h_2⟩))
theorem b286_58 {X : (Nat → Int) × Nat} {d : Nat} {s : mSt} {Q : mQ} {x1 : Int} {x2 : Int} (h_1 : Sp X d 226 [mR 407] s (fun r s' => ∃ v : Int, r = some (mI v) ∧ Wp X (d + 1) 286 62 [some (mR 407), some (mI x1), some (mI x2), none] [mI v] s' Q)) : Wp X (d + 1) 286 58 [some (mR 407), some (mI x1), some (mI x2), none] [] s Q := Wp_step k286 f286_58 (Wp_step k286 f286_59 ⟨⟨kf_407, Nat.le_of_ble_eq_true rfl⟩, Nat.le_refl _, _, rfl, Sp_E h_1⟩)
theorem b286_62 {X : (Nat → Int) × Nat} {d : Nat} {s : mSt} {Q : mQ} {x1 : Int} {x2 : Int} {xt0 : Int} (h_1 : Wp X d 286 69 [some (mR 407), some (mI x1), some (mI x2), none] [mI xt0] s Q) : Wp X d 286 62 [some (mR 407), some (mI x1), some (mI x2), none] [mI xt0] s Q := Wp_step k286 f286_62 (h_1)
theorem b286_65 {X : (Nat → Int) × Nat} {d : Nat} {s : mSt} {Q : mQ} {x1 : Int} {x2 : Int} (h_1 : Sp X d 284 [mR 407] s (fun r s' => ∃ v : Int, r = some (mI v) ∧ Wp X (d + 1) 286 69 [some (mR 407), some (mI x1), some (mI x2), none] [mI v] s' Q)) : Wp X (d + 1) 286 65 [some (mR 407), some (mI x1), some (mI x2), none] [] s Q := Wp_step k286 f286_65 (Wp_step k286 f286_66 ⟨⟨kf_407, Nat.le_of_ble_eq_true rfl⟩, Nat.le_refl _, _, rfl, Sp_E h_1⟩)
theorem b286_69 {X : (Nat → Int) × Nat} {d : Nat} {s : mSt} {Q : mQ} {x1 : Int} {x2 : Int} {xt0 : Int} (h_1 : Sp X d 278 [mR 407] s (fun r s' => r = none ∧ Wp X (d + 1) 286 74 [some (mR 407), some (mI x1), some (mI x2), some (mI xt0)] [] s' Q)) : Wp X (d + 1) 286 69 [some (mR 407), some (mI x1), some (mI x2), none] [mI xt0] s Q := Wp_step k286 f286_69 (Wp_step k286 f286_70 (Wp_step k286 f286_71 ⟨⟨kf_407, Nat.le_of_ble_eq_true rfl⟩, Nat.le_refl _, _, rfl, Sp_V h_1⟩))
theorem b286_74 {X : (Nat → Int) × Nat} {d : Nat} {s : mSt} {Q : mQ} {x1 : Int} {x2 : Int} {x3 : Int} (h_1 : Q (some (mI x3)) s) : Wp X d 286 74 [some (mR 407), some (mI x1), some (mI x2), some (mI x3)] [] s Q := Wp_step k286 f286_74 (Wp_step k286 f286_75 ⟨⟨rfl, trivial⟩, h_1⟩)
theorem e286 {X : (Nat → Int) × Nat} {d : Nat} {s : mSt} {Q : mQ} {x1 : Int} {x2 : Int} (h : Wp X d 286 0 [some (mR 407), some (mI x1), some (mI x2), none] [] s Q) : Sp X d 286 [mR 407, mI x1, mI x2] s Q := Sp_of (show mCe 286 = 0 by decide +kernel) (by rw [show mML 286 = 4 by decide +kernel]; rfl) (Nat.le_trans (Nat.le_of_ble_eq_true (show Nat.ble (mArgs _).length 4 = true from rfl)) (show 4 ≤ mML 286 by decide +kernel)) h
-- 287 ClashDayModel.when(I)I
theorem k287 : mRk 287 = 1 := by decide +kernel
theorem f287_0 : mFetch 287 0 = some (.aload_n 0, 1, 0, 0, 0, 0) := by decide +kernel
theorem f287_1 : mFetch 287 1 = some (.iload_n 1, 1, 0, 0, 0, 0) := by decide +kernel
theorem f287_2 : mFetch 287 2 = some (.invokevirtual 328, 3, 215, 0, 2, 12) := by decide +kernel
theorem f287_5 : mFetch 287 5 = some (.ifCond .ne 5, 3, 10, 0, 0, 0) := by decide +kernel
theorem f287_8 : mFetch 287 8 = some (.iconst (-1), 1, 0, 0, 0, 0) := by decide +kernel
theorem f287_9 : mFetch 287 9 = some (.ireturn, 1, 0, 0, 0, 0) := by decide +kernel
theorem f287_10 : mFetch 287 10 = some (.bipush (-2), 2, 0, 0, 0, 0) := by decide +kernel
theorem f287_12 : mFetch 287 12 = some (.istore_n 2, 1, 0, 0, 0, 0) := by decide +kernel
theorem f287_13 : mFetch 287 13 = some (.aload_n 0, 1, 0, 0, 0, 0) := by decide +kernel
theorem f287_14 : mFetch 287 14 = some (.invokevirtual 502, 3, 277, 0, 1, 12) := by decide +kernel
theorem f287_17 : mFetch 287 17 = some (.iconst 0, 1, 0, 0, 0, 0) := by decide +kernel
theorem f287_18 : mFetch 287 18 = some (.istore_n 3, 1, 0, 0, 0, 0) := by decide +kernel
theorem f287_19 : mFetch 287 19 = some (.iload_n 3, 1, 0, 0, 0, 0) := by decide +kernel
theorem f287_20 : mFetch 287 20 = some (.bipush 20, 2, 0, 0, 0, 0) := by decide +kernel
theorem f287_22 : mFetch 287 22 = some (.if_icmp .ge 30, 3, 52, 0, 0, 0) := by decide +kernel
theorem f287_25 : mFetch 287 25 = some (.iload_n 2, 1, 0, 0, 0, 0) := by decide +kernel
theorem f287_26 : mFetch 287 26 = some (.ifCond .ge 26, 3, 52, 0, 0, 0) := by decide +kernel
theorem f287_29 : mFetch 287 29 = some (.aload_n 0, 1, 0, 0, 0, 0) := by decide +kernel
theorem f287_30 : mFetch 287 30 = some (.invokevirtual 452, 3, 251, 0, 1, 12) := by decide +kernel
theorem f287_33 : mFetch 287 33 = some (.iload_n 1, 1, 0, 0, 0, 0) := by decide +kernel
theorem f287_34 : mFetch 287 34 = some (.if_icmp .ne 12, 3, 46, 0, 0, 0) := by decide +kernel
theorem f287_37 : mFetch 287 37 = some (.aload_n 0, 1, 0, 0, 0, 0) := by decide +kernel
theorem f287_38 : mFetch 287 38 = some (.getfield 39, 3, 12, 20, 2, 1) := by decide +kernel
theorem f287_41 : mFetch 287 41 = some (.iconst 5, 1, 0, 0, 0, 0) := by decide +kernel
theorem f287_42 : mFetch 287 42 = some (.iaload, 1, 0, 0, 0, 0) := by decide +kernel
theorem f287_43 : mFetch 287 43 = some (.iconst 1, 1, 0, 0, 0, 0) := by decide +kernel
theorem f287_44 : mFetch 287 44 = some (.isub, 1, 0, 0, 0, 0) := by decide +kernel
theorem f287_45 : mFetch 287 45 = some (.istore_n 2, 1, 0, 0, 0, 0) := by decide +kernel
theorem f287_46 : mFetch 287 46 = some (.iinc 3 1, 3, 0, 0, 0, 0) := by decide +kernel
theorem f287_49 : mFetch 287 49 = some (.goto (-30), 3, 19, 0, 0, 0) := by decide +kernel
theorem f287_52 : mFetch 287 52 = some (.aload_n 0, 1, 0, 0, 0, 0) := by decide +kernel
theorem f287_53 : mFetch 287 53 = some (.invokevirtual 491, 3, 278, 0, 1, 12) := by decide +kernel
theorem f287_56 : mFetch 287 56 = some (.iload_n 2, 1, 0, 0, 0, 0) := by decide +kernel
theorem f287_57 : mFetch 287 57 = some (.ireturn, 1, 0, 0, 0, 0) := by decide +kernel
theorem b287_0 {X : (Nat → Int) × Nat} {d : Nat} {s : mSt} {Q : mQ} {x1 : Int} (h_1 : Sp X d 215 [mR 407, mI x1] s (fun r s' => ∃ v : Int, r = some (mI v) ∧ Wp X (d + 1) 287 5 [some (mR 407), some (mI x1), none, none] [mI v] s' Q)) : Wp X (d + 1) 287 0 [some (mR 407), some (mI x1), none, none] [] s Q := Wp_step k287 f287_0 (Wp_step k287 f287_1 (Wp_step k287 f287_2 ⟨⟨kf_407, Nat.le_of_ble_eq_true rfl⟩, Nat.le_refl _, _, rfl, Sp_E h_1⟩))
theorem b287_5 {X : (Nat → Int) × Nat} {d : Nat} {s : mSt} {Q : mQ} {x1 : Int} {xt0 : Int} (h_1 : ¬ xt0 = 0 → Wp X d 287 10 [some (mR 407), some (mI x1), none, none] [] s Q) (h_2 : xt0 = 0 → Wp X d 287 8 [some (mR 407), some (mI x1), none, none] [] s Q) : Wp X d 287 5 [some (mR 407), some (mI x1), none, none] [mI xt0] s Q := Wp_step k287 f287_5 ⟨h_1, h_2⟩
theorem b287_8 {X : (Nat → Int) × Nat} {d : Nat} {s : mSt} {Q : mQ} {x1 : Int} (h_1 : Q (some (mI (-1))) s) : Wp X d 287 8 [some (mR 407), some (mI x1), none, none] [] s Q := Wp_step k287 f287_8 (Wp_step k287 f287_9 ⟨⟨rfl, trivial⟩, h_1⟩)
theorem b287_10 {X : (Nat → Int) × Nat} {d : Nat} {s : mSt} {Q : mQ} {x1 : Int} (h_1 : Sp X d 277 [mR 407] s (fun r s' => r = none ∧ Wp X (d + 1) 287 17 [some (mR 407), some (mI x1), some (mI (-2)), none] [] s' Q)) : Wp X (d + 1) 287 10 [some (mR 407), some (mI x1), none, none] [] s Q := Wp_step k287 f287_10 (Wp_step k287 f287_12 (Wp_step k287 f287_13 (Wp_step k287 f287_14 ⟨⟨kf_407, Nat.le_of_ble_eq_true rfl⟩, Nat.le_refl _, _, rfl, Sp_V h_1⟩)))
theorem b287_17 {X : (Nat → Int) × Nat} {d : Nat} {s : mSt} {Q : mQ} {x1 : Int} {x2 : Int} (h_1 : Wp X d 287 19 [some (mR 407), some (mI x1), some (mI x2), some (mI 0)] [] s Q) : Wp X d 287 17 [some (mR 407), some (mI x1), some (mI x2), none] [] s Q := Wp_step k287 f287_17 (Wp_step k287 f287_18 (h_1))
theorem b287_19 {X : (Nat → Int) × Nat} {d : Nat} {s : mSt} {Q : mQ} {x1 : Int} {x2 : Int} {x3 : Int} (h_1 : 20 ≤ x3 → Wp X d 287 52 [some (mR 407), some (mI x1), some (mI x2), some (mI x3)] [] s Q) (h_2 : ¬ 20 ≤ x3 → Wp X d 287 25 [some (mR 407), some (mI x1), some (mI x2), some (mI x3)] [] s Q) : Wp X d 287 19 [some (mR 407), some (mI x1), some (mI x2), some (mI x3)] [] s Q := Wp_step k287 f287_19 (Wp_step k287 f287_20 (Wp_step k287 f287_22 ⟨h_1, h_2⟩))
theorem b287_25 {X : (Nat → Int) × Nat} {d : Nat} {s : mSt} {Q : mQ} {x1 : Int} {x2 : Int} {x3 : Int} (h_1 : 0 ≤ x2 → Wp X d 287 52 [some (mR 407), some (mI x1), some (mI x2), some (mI x3)] [] s Q) (h_2 : ¬ 0 ≤ x2 → Wp X d 287 29 [some (mR 407), some (mI x1), some (mI x2), some (mI x3)] [] s Q) : Wp X d 287 25 [some (mR 407), some (mI x1), some (mI x2), some (mI x3)] [] s Q := Wp_step k287 f287_25 (Wp_step k287 f287_26 ⟨h_1, h_2⟩)
theorem b287_29 {X : (Nat → Int) × Nat} {d : Nat} {s : mSt} {Q : mQ} {x1 : Int} {x2 : Int} {x3 : Int} (h_1 : Sp X d 251 [mR 407] s (fun r s' => ∃ v : Int, r = some (mI v) ∧ Wp X (d + 1) 287 33 [some (mR 407), some (mI x1), some (mI x2), some (mI x3)] [mI v] s' Q)) : Wp X (d + 1) 287 29 [some (mR 407), some (mI x1), some (mI x2), some (mI x3)] [] s Q := Wp_step k287 f287_29 (Wp_step k287 f287_30 ⟨⟨kf_407, Nat.le_of_ble_eq_true rfl⟩, Nat.le_refl _, _, rfl, Sp_E h_1⟩)
theorem b287_33 {X : (Nat → Int) × Nat} {d : Nat} {s : mSt} {Q : mQ} {x1 : Int} {x2 : Int} {x3 : Int} {xt0 : Int} (h_1 : ¬ xt0 = x1 → Wp X d 287 46 [some (mR 407), some (mI x1), some (mI x2), some (mI x3)] [] s Q) (h_2 : xt0 = x1 → Wp X d 287 37 [some (mR 407), some (mI x1), some (mI x2), some (mI x3)] [] s Q) : Wp X d 287 33 [some (mR 407), some (mI x1), some (mI x2), some (mI x3)] [mI xt0] s Q := Wp_step k287 f287_33 (Wp_step k287 f287_34 ⟨h_1, h_2⟩)
theorem b287_37 {X : (Nat → Int) × Nat} {d : Nat} {s : mSt} {Q : mQ} {x1 : Int} {x2 : Int} {x3 : Int} (h_1 : Wp X d 287 46 [some (mR 407), some (mI x1), some (mI (w32 ((s 417 5) - 1))), some (mI x3)] [] s Q) : Wp X d 287 37 [some (mR 407), some (mI x1), some (mI x2), some (mI x3)] [] s Q := Wp_step k287 f287_37 (Wp_step k287 f287_38 ⟨kf_407, 417, rf_407_20, Wp_step k287 f287_41 (Wp_step k287 f287_42 ⟨166, af_417, ⟨by decide, by decide⟩, Wp_step k287 f287_43 (Wp_step k287 f287_44 (Wp_step k287 f287_45 (h_1)))⟩)⟩)
theorem b287_46 {X : (Nat → Int) × Nat} {d : Nat} {s : mSt} {Q : mQ} {x1 : Int} {x2 : Int} {x3 : Int} (h_1 : Wp X d 287 19 [some (mR 407), some (mI x1), some (mI x2), some (mI (w32 (x3 + 1)))] [] s Q) : Wp X d 287 46 [some (mR 407), some (mI x1), some (mI x2), some (mI x3)] [] s Q := Wp_step k287 f287_46 (Wp_step k287 f287_49 (h_1))
theorem b287_52 {X : (Nat → Int) × Nat} {d : Nat} {s : mSt} {Q : mQ} {x1 : Int} {x2 : Int} {x3 : Int} (h_1 : Sp X d 278 [mR 407] s (fun r s' => r = none ∧ Wp X (d + 1) 287 56 [some (mR 407), some (mI x1), some (mI x2), some (mI x3)] [] s' Q)) : Wp X (d + 1) 287 52 [some (mR 407), some (mI x1), some (mI x2), some (mI x3)] [] s Q := Wp_step k287 f287_52 (Wp_step k287 f287_53 ⟨⟨kf_407, Nat.le_of_ble_eq_true rfl⟩, Nat.le_refl _, _, rfl, Sp_V h_1⟩)
theorem b287_56 {X : (Nat → Int) × Nat} {d : Nat} {s : mSt} {Q : mQ} {x1 : Int} {x2 : Int} {x3 : Int} (h_1 : Q (some (mI x2)) s) : Wp X d 287 56 [some (mR 407), some (mI x1), some (mI x2), some (mI x3)] [] s Q := Wp_step k287 f287_56 (Wp_step k287 f287_57 ⟨⟨rfl, trivial⟩, h_1⟩)
theorem e287 {X : (Nat → Int) × Nat} {d : Nat} {s : mSt} {Q : mQ} {x1 : Int} (h : Wp X d 287 0 [some (mR 407), some (mI x1), none, none] [] s Q) : Sp X d 287 [mR 407, mI x1] s Q := Sp_of (show mCe 287 = 0 by decide +kernel) (by rw [show mML 287 = 4 by decide +kernel]; rfl) (Nat.le_trans (Nat.le_of_ble_eq_true (show Nat.ble (mArgs _).length 4 = true from rfl)) (show 4 ≤ mML 287 by decide +kernel)) h
-- 288 ClashDayModel.isRest(II)Z
theorem k288 : mRk 288 = 2 := by decide +kernel
theorem f288_0 : mFetch 288 0 = some (.iconst 0, 1, 0, 0, 0, 0) := by decide +kernel
theorem f288_1 : mFetch 288 1 = some (.istore_n 3, 1, 0, 0, 0, 0) := by decide +kernel
theorem f288_2 : mFetch 288 2 = some (.iload_n 3, 1, 0, 0, 0, 0) := by decide +kernel
theorem f288_3 : mFetch 288 3 = some (.iconst 4, 1, 0, 0, 0, 0) := by decide +kernel
theorem f288_4 : mFetch 288 4 = some (.if_icmp .ge 69, 3, 73, 0, 0, 0) := by decide +kernel
theorem f288_7 : mFetch 288 7 = some (.aload_n 0, 1, 0, 0, 0, 0) := by decide +kernel
theorem f288_8 : mFetch 288 8 = some (.getfield 91, 3, 12, 50, 2, 1) := by decide +kernel
theorem f288_11 : mFetch 288 11 = some (.iconst 2, 1, 0, 0, 0, 0) := by decide +kernel
theorem f288_12 : mFetch 288 12 = some (.iconst 4, 1, 0, 0, 0, 0) := by decide +kernel
theorem f288_13 : mFetch 288 13 = some (.iload_n 3, 1, 0, 0, 0, 0) := by decide +kernel
theorem f288_14 : mFetch 288 14 = some (.imul, 1, 0, 0, 0, 0) := by decide +kernel
theorem f288_15 : mFetch 288 15 = some (.iload_n 2, 1, 0, 0, 0, 0) := by decide +kernel
theorem f288_16 : mFetch 288 16 = some (.iadd, 1, 0, 0, 0, 0) := by decide +kernel
theorem f288_17 : mFetch 288 17 = some (.imul, 1, 0, 0, 0, 0) := by decide +kernel
theorem f288_18 : mFetch 288 18 = some (.iaload, 1, 0, 0, 0, 0) := by decide +kernel
theorem f288_19 : mFetch 288 19 = some (.aload_n 0, 1, 0, 0, 0, 0) := by decide +kernel
theorem f288_20 : mFetch 288 20 = some (.getfield 91, 3, 12, 50, 2, 1) := by decide +kernel
theorem f288_23 : mFetch 288 23 = some (.iconst 2, 1, 0, 0, 0, 0) := by decide +kernel
theorem f288_24 : mFetch 288 24 = some (.iconst 4, 1, 0, 0, 0, 0) := by decide +kernel
theorem f288_25 : mFetch 288 25 = some (.iload_n 1, 1, 0, 0, 0, 0) := by decide +kernel
theorem f288_26 : mFetch 288 26 = some (.imul, 1, 0, 0, 0, 0) := by decide +kernel
theorem f288_27 : mFetch 288 27 = some (.iload_n 2, 1, 0, 0, 0, 0) := by decide +kernel
theorem f288_28 : mFetch 288 28 = some (.iadd, 1, 0, 0, 0, 0) := by decide +kernel
theorem f288_29 : mFetch 288 29 = some (.imul, 1, 0, 0, 0, 0) := by decide +kernel
theorem f288_30 : mFetch 288 30 = some (.iaload, 1, 0, 0, 0, 0) := by decide +kernel
theorem f288_31 : mFetch 288 31 = some (.if_icmp .gt 34, 3, 65, 0, 0, 0) := by decide +kernel
theorem f288_34 : mFetch 288 34 = some (.aload_n 0, 1, 0, 0, 0, 0) := by decide +kernel
theorem f288_35 : mFetch 288 35 = some (.getfield 91, 3, 12, 50, 2, 1) := by decide +kernel
theorem f288_38 : mFetch 288 38 = some (.iconst 2, 1, 0, 0, 0, 0) := by decide +kernel
theorem f288_39 : mFetch 288 39 = some (.iconst 4, 1, 0, 0, 0, 0) := by decide +kernel
theorem f288_40 : mFetch 288 40 = some (.iload_n 1, 1, 0, 0, 0, 0) := by decide +kernel
theorem f288_41 : mFetch 288 41 = some (.imul, 1, 0, 0, 0, 0) := by decide +kernel
theorem f288_42 : mFetch 288 42 = some (.iload_n 3, 1, 0, 0, 0, 0) := by decide +kernel
theorem f288_43 : mFetch 288 43 = some (.iadd, 1, 0, 0, 0, 0) := by decide +kernel
theorem f288_44 : mFetch 288 44 = some (.imul, 1, 0, 0, 0, 0) := by decide +kernel
theorem f288_45 : mFetch 288 45 = some (.iconst 1, 1, 0, 0, 0, 0) := by decide +kernel
theorem f288_46 : mFetch 288 46 = some (.iadd, 1, 0, 0, 0, 0) := by decide +kernel
theorem f288_47 : mFetch 288 47 = some (.iaload, 1, 0, 0, 0, 0) := by decide +kernel
theorem f288_48 : mFetch 288 48 = some (.aload_n 0, 1, 0, 0, 0, 0) := by decide +kernel
theorem f288_49 : mFetch 288 49 = some (.getfield 91, 3, 12, 50, 2, 1) := by decide +kernel
theorem f288_52 : mFetch 288 52 = some (.iconst 2, 1, 0, 0, 0, 0) := by decide +kernel
theorem f288_53 : mFetch 288 53 = some (.iconst 4, 1, 0, 0, 0, 0) := by decide +kernel
theorem f288_54 : mFetch 288 54 = some (.iload_n 1, 1, 0, 0, 0, 0) := by decide +kernel
theorem f288_55 : mFetch 288 55 = some (.imul, 1, 0, 0, 0, 0) := by decide +kernel
theorem f288_56 : mFetch 288 56 = some (.iload_n 2, 1, 0, 0, 0, 0) := by decide +kernel
theorem f288_57 : mFetch 288 57 = some (.iadd, 1, 0, 0, 0, 0) := by decide +kernel
theorem f288_58 : mFetch 288 58 = some (.imul, 1, 0, 0, 0, 0) := by decide +kernel
theorem f288_59 : mFetch 288 59 = some (.iconst 1, 1, 0, 0, 0, 0) := by decide +kernel
theorem f288_60 : mFetch 288 60 = some (.iadd, 1, 0, 0, 0, 0) := by decide +kernel
theorem f288_61 : mFetch 288 61 = some (.iaload, 1, 0, 0, 0, 0) := by decide +kernel
theorem f288_62 : mFetch 288 62 = some (.if_icmp .le 5, 3, 67, 0, 0, 0) := by decide +kernel
theorem f288_65 : mFetch 288 65 = some (.iconst 0, 1, 0, 0, 0, 0) := by decide +kernel
theorem f288_66 : mFetch 288 66 = some (.ireturn, 1, 0, 0, 0, 0) := by decide +kernel
theorem f288_67 : mFetch 288 67 = some (.iinc 3 1, 3, 0, 0, 0, 0) := by decide +kernel
theorem f288_70 : mFetch 288 70 = some (.goto (-68), 3, 2, 0, 0, 0) := by decide +kernel
theorem f288_73 : mFetch 288 73 = some (.iconst 1, 1, 0, 0, 0, 0) := by decide +kernel
theorem f288_74 : mFetch 288 74 = some (.ireturn, 1, 0, 0, 0, 0) := by decide +kernel
theorem b288_0 {X : (Nat → Int) × Nat} {d : Nat} {s : mSt} {Q : mQ} {x1 : Int} {x2 : Int} (h_1 : Wp X d 288 2 [some (mR 407), some (mI x1), some (mI x2), some (mI 0)] [] s Q) : Wp X d 288 0 [some (mR 407), some (mI x1), some (mI x2), none] [] s Q := Wp_step k288 f288_0 (Wp_step k288 f288_1 (h_1))
theorem b288_2 {X : (Nat → Int) × Nat} {d : Nat} {s : mSt} {Q : mQ} {x1 : Int} {x2 : Int} {x3 : Int} (h_1 : 4 ≤ x3 → Wp X d 288 73 [some (mR 407), some (mI x1), some (mI x2), some (mI x3)] [] s Q) (h_2 : ¬ 4 ≤ x3 → Wp X d 288 7 [some (mR 407), some (mI x1), some (mI x2), some (mI x3)] [] s Q) : Wp X d 288 2 [some (mR 407), some (mI x1), some (mI x2), some (mI x3)] [] s Q := Wp_step k288 f288_2 (Wp_step k288 f288_3 (Wp_step k288 f288_4 ⟨h_1, h_2⟩))
theorem b288_7 {X : (Nat → Int) × Nat} {d : Nat} {s : mSt} {Q : mQ} {x1 : Int} {x2 : Int} {x3 : Int} (h_1 : 0 ≤ (w32 (2 * (w32 ((w32 (4 * x3)) + x2)))) ∧ (w32 (2 * (w32 ((w32 (4 * x3)) + x2)))) < 32) (h_2 : 0 ≤ (w32 (2 * (w32 ((w32 (4 * x1)) + x2)))) ∧ (w32 (2 * (w32 ((w32 (4 * x1)) + x2)))) < 32) (h_3 : (s 433 (w32 (2 * (w32 ((w32 (4 * x1)) + x2)))).toNat) < (s 433 (w32 (2 * (w32 ((w32 (4 * x3)) + x2)))).toNat) → Wp X d 288 65 [some (mR 407), some (mI x1), some (mI x2), some (mI x3)] [] s Q) (h_4 : ¬ (s 433 (w32 (2 * (w32 ((w32 (4 * x1)) + x2)))).toNat) < (s 433 (w32 (2 * (w32 ((w32 (4 * x3)) + x2)))).toNat) → Wp X d 288 34 [some (mR 407), some (mI x1), some (mI x2), some (mI x3)] [] s Q) : Wp X d 288 7 [some (mR 407), some (mI x1), some (mI x2), some (mI x3)] [] s Q := Wp_step k288 f288_7 (Wp_step k288 f288_8 ⟨kf_407, 433, rf_407_50, Wp_step k288 f288_11 (Wp_step k288 f288_12 (Wp_step k288 f288_13 (Wp_step k288 f288_14 (Wp_step k288 f288_15 (Wp_step k288 f288_16 (Wp_step k288 f288_17 (Wp_step k288 f288_18 ⟨32, af_433, h_1, Wp_step k288 f288_19 (Wp_step k288 f288_20 ⟨kf_407, 433, rf_407_50, Wp_step k288 f288_23 (Wp_step k288 f288_24 (Wp_step k288 f288_25 (Wp_step k288 f288_26 (Wp_step k288 f288_27 (Wp_step k288 f288_28 (Wp_step k288 f288_29 (Wp_step k288 f288_30 ⟨32, af_433, h_2, Wp_step k288 f288_31 ⟨h_3, h_4⟩⟩)))))))⟩)⟩)))))))⟩)
theorem b288_34 {X : (Nat → Int) × Nat} {d : Nat} {s : mSt} {Q : mQ} {x1 : Int} {x2 : Int} {x3 : Int} (h_1 : 0 ≤ (w32 ((w32 (2 * (w32 ((w32 (4 * x1)) + x3)))) + 1)) ∧ (w32 ((w32 (2 * (w32 ((w32 (4 * x1)) + x3)))) + 1)) < 32) (h_2 : 0 ≤ (w32 ((w32 (2 * (w32 ((w32 (4 * x1)) + x2)))) + 1)) ∧ (w32 ((w32 (2 * (w32 ((w32 (4 * x1)) + x2)))) + 1)) < 32) (h_3 : (s 433 (w32 ((w32 (2 * (w32 ((w32 (4 * x1)) + x3)))) + 1)).toNat) ≤ (s 433 (w32 ((w32 (2 * (w32 ((w32 (4 * x1)) + x2)))) + 1)).toNat) → Wp X d 288 67 [some (mR 407), some (mI x1), some (mI x2), some (mI x3)] [] s Q) (h_4 : ¬ (s 433 (w32 ((w32 (2 * (w32 ((w32 (4 * x1)) + x3)))) + 1)).toNat) ≤ (s 433 (w32 ((w32 (2 * (w32 ((w32 (4 * x1)) + x2)))) + 1)).toNat) → Wp X d 288 65 [some (mR 407), some (mI x1), some (mI x2), some (mI x3)] [] s Q) : Wp X d 288 34 [some (mR 407), some (mI x1), some (mI x2), some (mI x3)] [] s Q := Wp_step k288 f288_34 (Wp_step k288 f288_35 ⟨kf_407, 433, rf_407_50, Wp_step k288 f288_38 (Wp_step k288 f288_39 (Wp_step k288 f288_40 (Wp_step k288 f288_41 (Wp_step k288 f288_42 (Wp_step k288 f288_43 (Wp_step k288 f288_44 (Wp_step k288 f288_45 (Wp_step k288 f288_46 (Wp_step k288 f288_47 ⟨32, af_433, h_1, Wp_step k288 f288_48 (Wp_step k288 f288_49 ⟨kf_407, 433, rf_407_50, Wp_step k288 f288_52 (Wp_step k288 f288_53 (Wp_step k288 f288_54 (Wp_step k288 f288_55 (Wp_step k288 f288_56 (Wp_step k288 f288_57 (Wp_step k288 f288_58 (Wp_step k288 f288_59 (Wp_step k288 f288_60 (Wp_step k288 f288_61 ⟨32, af_433, h_2, Wp_step k288 f288_62 ⟨h_3, h_4⟩⟩)))))))))⟩)⟩)))))))))⟩)
theorem b288_65 {X : (Nat → Int) × Nat} {d : Nat} {s : mSt} {Q : mQ} {x1 : Int} {x2 : Int} {x3 : Int} (h_1 : Q (some (mI 0)) s) : Wp X d 288 65 [some (mR 407), some (mI x1), some (mI x2), some (mI x3)] [] s Q := Wp_step k288 f288_65 (Wp_step k288 f288_66 ⟨⟨rfl, (Or.inl rfl)⟩, h_1⟩)
theorem b288_67 {X : (Nat → Int) × Nat} {d : Nat} {s : mSt} {Q : mQ} {x1 : Int} {x2 : Int} {x3 : Int} (h_1 : Wp X d 288 2 [some (mR 407), some (mI x1), some (mI x2), some (mI (w32 (x3 + 1)))] [] s Q) : Wp X d 288 67 [some (mR 407), some (mI x1), some (mI x2), some (mI x3)] [] s Q := Wp_step k288 f288_67 (Wp_step k288 f288_70 (h_1))
theorem b288_73 {X : (Nat → Int) × Nat} {d : Nat} {s : mSt} {Q : mQ} {x1 : Int} {x2 : Int} {x3 : Int} (h_1 : Q (some (mI 1)) s) : Wp X d 288 73 [some (mR 407), some (mI x1), some (mI x2), some (mI x3)] [] s Q := Wp_step k288 f288_73 (Wp_step k288 f288_74 ⟨⟨rfl, (Or.inr rfl)⟩, h_1⟩)
theorem e288 {X : (Nat → Int) × Nat} {d : Nat} {s : mSt} {Q : mQ} {x1 : Int} {x2 : Int} (h : Wp X d 288 0 [some (mR 407), some (mI x1), some (mI x2), none] [] s Q) : Sp X d 288 [mR 407, mI x1, mI x2] s Q := Sp_of (show mCe 288 = 0 by decide +kernel) (by rw [show mML 288 = 4 by decide +kernel]; rfl) (Nat.le_trans (Nat.le_of_ble_eq_true (show Nat.ble (mArgs _).length 4 = true from rfl)) (show 4 ≤ mML 288 by decide +kernel)) h
-- 289 ClashDayModel.worthOf(I)I
theorem k289 : mRk 289 = 1 := by decide +kernel
theorem f289_0 : mFetch 289 0 = some (.aload_n 0, 1, 0, 0, 0, 0) := by decide +kernel
theorem f289_1 : mFetch 289 1 = some (.iload_n 1, 1, 0, 0, 0, 0) := by decide +kernel
theorem f289_2 : mFetch 289 2 = some (.invokevirtual 449, 3, 245, 0, 2, 12) := by decide +kernel
theorem f289_5 : mFetch 289 5 = some (.ifCond .eq 26, 3, 31, 0, 0, 0) := by decide +kernel
theorem f289_8 : mFetch 289 8 = some (.bipush 30, 2, 0, 0, 0, 0) := by decide +kernel
theorem f289_10 : mFetch 289 10 = some (.aload_n 0, 1, 0, 0, 0, 0) := by decide +kernel
theorem f289_11 : mFetch 289 11 = some (.getfield 402, 3, 12, 31, 0, 1) := by decide +kernel
theorem f289_14 : mFetch 289 14 = some (.isub, 1, 0, 0, 0, 0) := by decide +kernel
theorem f289_15 : mFetch 289 15 = some (.iconst 2, 1, 0, 0, 0, 0) := by decide +kernel
theorem f289_16 : mFetch 289 16 = some (.aload_n 0, 1, 0, 0, 0, 0) := by decide +kernel
theorem f289_17 : mFetch 289 17 = some (.getfield 39, 3, 12, 20, 2, 1) := by decide +kernel
theorem f289_20 : mFetch 289 20 = some (.sipush 129, 3, 0, 0, 0, 0) := by decide +kernel
theorem f289_23 : mFetch 289 23 = some (.iload_n 1, 1, 0, 0, 0, 0) := by decide +kernel
theorem f289_24 : mFetch 289 24 = some (.iadd, 1, 0, 0, 0, 0) := by decide +kernel
theorem f289_25 : mFetch 289 25 = some (.iaload, 1, 0, 0, 0, 0) := by decide +kernel
theorem f289_26 : mFetch 289 26 = some (.imul, 1, 0, 0, 0, 0) := by decide +kernel
theorem f289_27 : mFetch 289 27 = some (.iadd, 1, 0, 0, 0, 0) := by decide +kernel
theorem f289_28 : mFetch 289 28 = some (.goto 4, 3, 32, 0, 0, 0) := by decide +kernel
theorem f289_31 : mFetch 289 31 = some (.iconst 0, 1, 0, 0, 0, 0) := by decide +kernel
theorem f289_32 : mFetch 289 32 = some (.ireturn, 1, 0, 0, 0, 0) := by decide +kernel
theorem b289_0 {X : (Nat → Int) × Nat} {d : Nat} {s : mSt} {Q : mQ} {x1 : Int} (h_1 : Sp X d 245 [mR 407, mI x1] s (fun r s' => ∃ v : Int, r = some (mI v) ∧ Wp X (d + 1) 289 5 [some (mR 407), some (mI x1)] [mI v] s' Q)) : Wp X (d + 1) 289 0 [some (mR 407), some (mI x1)] [] s Q := Wp_step k289 f289_0 (Wp_step k289 f289_1 (Wp_step k289 f289_2 ⟨⟨kf_407, Nat.le_of_ble_eq_true rfl⟩, Nat.le_refl _, _, rfl, Sp_E h_1⟩))
theorem b289_5 {X : (Nat → Int) × Nat} {d : Nat} {s : mSt} {Q : mQ} {x1 : Int} {xt0 : Int} (h_1 : xt0 = 0 → Wp X d 289 31 [some (mR 407), some (mI x1)] [] s Q) (h_2 : ¬ xt0 = 0 → Wp X d 289 8 [some (mR 407), some (mI x1)] [] s Q) : Wp X d 289 5 [some (mR 407), some (mI x1)] [mI xt0] s Q := Wp_step k289 f289_5 ⟨h_1, h_2⟩
theorem b289_8 {X : (Nat → Int) × Nat} {d : Nat} {s : mSt} {Q : mQ} {x1 : Int} (h_1 : 0 ≤ (w32 (129 + x1)) ∧ (w32 (129 + x1)) < 166) (h_2 : Wp X d 289 32 [some (mR 407), some (mI x1)] [mI (w32 ((w32 (30 - (s 407 31))) + (w32 (2 * (s 417 (w32 (129 + x1)).toNat)))))] s Q) : Wp X d 289 8 [some (mR 407), some (mI x1)] [] s Q := Wp_step k289 f289_8 (Wp_step k289 f289_10 (Wp_step k289 f289_11 ⟨kf_407, Wp_step k289 f289_14 (Wp_step k289 f289_15 (Wp_step k289 f289_16 (Wp_step k289 f289_17 ⟨kf_407, 417, rf_407_20, Wp_step k289 f289_20 (Wp_step k289 f289_23 (Wp_step k289 f289_24 (Wp_step k289 f289_25 ⟨166, af_417, h_1, Wp_step k289 f289_26 (Wp_step k289 f289_27 (Wp_step k289 f289_28 (h_2)))⟩)))⟩)))⟩))
theorem b289_31 {X : (Nat → Int) × Nat} {d : Nat} {s : mSt} {Q : mQ} {x1 : Int} (h_1 : Wp X d 289 32 [some (mR 407), some (mI x1)] [mI 0] s Q) : Wp X d 289 31 [some (mR 407), some (mI x1)] [] s Q := Wp_step k289 f289_31 (h_1)
theorem b289_32 {X : (Nat → Int) × Nat} {d : Nat} {s : mSt} {Q : mQ} {x1 : Int} {xt0 : Int} (h_1 : Q (some (mI xt0)) s) : Wp X d 289 32 [some (mR 407), some (mI x1)] [mI xt0] s Q := Wp_step k289 f289_32 ⟨⟨rfl, trivial⟩, h_1⟩
theorem e289 {X : (Nat → Int) × Nat} {d : Nat} {s : mSt} {Q : mQ} {x1 : Int} (h : Wp X d 289 0 [some (mR 407), some (mI x1)] [] s Q) : Sp X d 289 [mR 407, mI x1] s Q := Sp_of (show mCe 289 = 0 by decide +kernel) (by rw [show mML 289 = 2 by decide +kernel]; rfl) (Nat.le_trans (Nat.le_of_ble_eq_true (show Nat.ble (mArgs _).length 2 = true from rfl)) (show 2 ≤ mML 289 by decide +kernel)) h
-- 290 ClashDayModel.fillsRests(II)V
theorem k290 : mRk 290 = 0 := by decide +kernel
theorem f290_0 : mFetch 290 0 = some (.aload_n 0, 1, 0, 0, 0, 0) := by decide +kernel
theorem f290_1 : mFetch 290 1 = some (.getfield 39, 3, 12, 20, 2, 1) := by decide +kernel
theorem f290_4 : mFetch 290 4 = some (.sipush 129, 3, 0, 0, 0, 0) := by decide +kernel
theorem f290_7 : mFetch 290 7 = some (.iload_n 1, 1, 0, 0, 0, 0) := by decide +kernel
theorem f290_8 : mFetch 290 8 = some (.iadd, 1, 0, 0, 0, 0) := by decide +kernel
theorem f290_9 : mFetch 290 9 = some (.iaload, 1, 0, 0, 0, 0) := by decide +kernel
theorem f290_10 : mFetch 290 10 = some (.istore_n 3, 1, 0, 0, 0, 0) := by decide +kernel
theorem f290_11 : mFetch 290 11 = some (.aload_n 0, 1, 0, 0, 0, 0) := by decide +kernel
theorem f290_12 : mFetch 290 12 = some (.getfield 39, 3, 12, 20, 2, 1) := by decide +kernel
theorem f290_15 : mFetch 290 15 = some (.sipush 129, 3, 0, 0, 0, 0) := by decide +kernel
theorem f290_18 : mFetch 290 18 = some (.iload_n 2, 1, 0, 0, 0, 0) := by decide +kernel
theorem f290_19 : mFetch 290 19 = some (.iadd, 1, 0, 0, 0, 0) := by decide +kernel
theorem f290_20 : mFetch 290 20 = some (.iaload, 1, 0, 0, 0, 0) := by decide +kernel
theorem f290_21 : mFetch 290 21 = some (.istore 4, 2, 0, 0, 0, 0) := by decide +kernel
theorem f290_23 : mFetch 290 23 = some (.aload_n 0, 1, 0, 0, 0, 0) := by decide +kernel
theorem f290_24 : mFetch 290 24 = some (.invokevirtual 502, 3, 277, 0, 1, 12) := by decide +kernel
theorem f290_27 : mFetch 290 27 = some (.iconst 0, 1, 0, 0, 0, 0) := by decide +kernel
theorem f290_28 : mFetch 290 28 = some (.istore 5, 2, 0, 0, 0, 0) := by decide +kernel
theorem f290_30 : mFetch 290 30 = some (.iload 5, 2, 0, 0, 0, 0) := by decide +kernel
theorem f290_32 : mFetch 290 32 = some (.bipush 16, 2, 0, 0, 0, 0) := by decide +kernel
theorem f290_34 : mFetch 290 34 = some (.if_icmp .ge 71, 3, 105, 0, 0, 0) := by decide +kernel
theorem f290_37 : mFetch 290 37 = some (.aload_n 0, 1, 0, 0, 0, 0) := by decide +kernel
theorem f290_38 : mFetch 290 38 = some (.getfield 39, 3, 12, 20, 2, 1) := by decide +kernel
theorem f290_41 : mFetch 290 41 = some (.sipush 129, 3, 0, 0, 0, 0) := by decide +kernel
theorem f290_44 : mFetch 290 44 = some (.iload_n 1, 1, 0, 0, 0, 0) := by decide +kernel
theorem f290_45 : mFetch 290 45 = some (.iadd, 1, 0, 0, 0, 0) := by decide +kernel
theorem f290_46 : mFetch 290 46 = some (.iload 5, 2, 0, 0, 0, 0) := by decide +kernel
theorem f290_48 : mFetch 290 48 = some (.iconst 4, 1, 0, 0, 0, 0) := by decide +kernel
theorem f290_49 : mFetch 290 49 = some (.idiv, 1, 0, 0, 0, 0) := by decide +kernel
theorem f290_50 : mFetch 290 50 = some (.iastore, 1, 0, 0, 0, 0) := by decide +kernel
theorem f290_51 : mFetch 290 51 = some (.aload_n 0, 1, 0, 0, 0, 0) := by decide +kernel
theorem f290_52 : mFetch 290 52 = some (.getfield 39, 3, 12, 20, 2, 1) := by decide +kernel
theorem f290_55 : mFetch 290 55 = some (.sipush 129, 3, 0, 0, 0, 0) := by decide +kernel
theorem f290_58 : mFetch 290 58 = some (.iload_n 2, 1, 0, 0, 0, 0) := by decide +kernel
theorem f290_59 : mFetch 290 59 = some (.iadd, 1, 0, 0, 0, 0) := by decide +kernel
theorem f290_60 : mFetch 290 60 = some (.iload 5, 2, 0, 0, 0, 0) := by decide +kernel
theorem f290_62 : mFetch 290 62 = some (.iconst 4, 1, 0, 0, 0, 0) := by decide +kernel
theorem f290_63 : mFetch 290 63 = some (.irem, 1, 0, 0, 0, 0) := by decide +kernel
theorem f290_64 : mFetch 290 64 = some (.iastore, 1, 0, 0, 0, 0) := by decide +kernel
theorem f290_65 : mFetch 290 65 = some (.aload_n 0, 1, 0, 0, 0, 0) := by decide +kernel
theorem f290_66 : mFetch 290 66 = some (.getfield 91, 3, 12, 50, 2, 1) := by decide +kernel
theorem f290_69 : mFetch 290 69 = some (.iconst 2, 1, 0, 0, 0, 0) := by decide +kernel
theorem f290_70 : mFetch 290 70 = some (.iload 5, 2, 0, 0, 0, 0) := by decide +kernel
theorem f290_72 : mFetch 290 72 = some (.imul, 1, 0, 0, 0, 0) := by decide +kernel
theorem f290_73 : mFetch 290 73 = some (.aload_n 0, 1, 0, 0, 0, 0) := by decide +kernel
theorem f290_74 : mFetch 290 74 = some (.iload_n 1, 1, 0, 0, 0, 0) := by decide +kernel
theorem f290_75 : mFetch 290 75 = some (.invokevirtual 528, 3, 289, 0, 2, 12) := by decide +kernel
theorem f290_78 : mFetch 290 78 = some (.iastore, 1, 0, 0, 0, 0) := by decide +kernel
theorem f290_79 : mFetch 290 79 = some (.aload_n 0, 1, 0, 0, 0, 0) := by decide +kernel
theorem f290_80 : mFetch 290 80 = some (.getfield 91, 3, 12, 50, 2, 1) := by decide +kernel
theorem f290_83 : mFetch 290 83 = some (.iconst 2, 1, 0, 0, 0, 0) := by decide +kernel
theorem f290_84 : mFetch 290 84 = some (.iload 5, 2, 0, 0, 0, 0) := by decide +kernel
theorem f290_86 : mFetch 290 86 = some (.imul, 1, 0, 0, 0, 0) := by decide +kernel
theorem f290_87 : mFetch 290 87 = some (.iconst 1, 1, 0, 0, 0, 0) := by decide +kernel
theorem f290_88 : mFetch 290 88 = some (.iadd, 1, 0, 0, 0, 0) := by decide +kernel
theorem f290_89 : mFetch 290 89 = some (.aload_n 0, 1, 0, 0, 0, 0) := by decide +kernel
theorem f290_90 : mFetch 290 90 = some (.iload_n 2, 1, 0, 0, 0, 0) := by decide +kernel
theorem f290_91 : mFetch 290 91 = some (.invokevirtual 528, 3, 289, 0, 2, 12) := by decide +kernel
theorem f290_94 : mFetch 290 94 = some (.iastore, 1, 0, 0, 0, 0) := by decide +kernel
theorem f290_95 : mFetch 290 95 = some (.aload_n 0, 1, 0, 0, 0, 0) := by decide +kernel
theorem f290_96 : mFetch 290 96 = some (.invokevirtual 491, 3, 278, 0, 1, 12) := by decide +kernel
theorem f290_99 : mFetch 290 99 = some (.iinc 5 1, 3, 0, 0, 0, 0) := by decide +kernel
theorem f290_102 : mFetch 290 102 = some (.goto (-72), 3, 30, 0, 0, 0) := by decide +kernel
theorem f290_105 : mFetch 290 105 = some (.aload_n 0, 1, 0, 0, 0, 0) := by decide +kernel
theorem f290_106 : mFetch 290 106 = some (.getfield 39, 3, 12, 20, 2, 1) := by decide +kernel
theorem f290_109 : mFetch 290 109 = some (.sipush 129, 3, 0, 0, 0, 0) := by decide +kernel
theorem f290_112 : mFetch 290 112 = some (.iload_n 1, 1, 0, 0, 0, 0) := by decide +kernel
theorem f290_113 : mFetch 290 113 = some (.iadd, 1, 0, 0, 0, 0) := by decide +kernel
theorem f290_114 : mFetch 290 114 = some (.iload_n 3, 1, 0, 0, 0, 0) := by decide +kernel
theorem f290_115 : mFetch 290 115 = some (.iastore, 1, 0, 0, 0, 0) := by decide +kernel
theorem f290_116 : mFetch 290 116 = some (.aload_n 0, 1, 0, 0, 0, 0) := by decide +kernel
theorem f290_117 : mFetch 290 117 = some (.getfield 39, 3, 12, 20, 2, 1) := by decide +kernel
theorem f290_120 : mFetch 290 120 = some (.sipush 129, 3, 0, 0, 0, 0) := by decide +kernel
theorem f290_123 : mFetch 290 123 = some (.iload_n 2, 1, 0, 0, 0, 0) := by decide +kernel
theorem f290_124 : mFetch 290 124 = some (.iadd, 1, 0, 0, 0, 0) := by decide +kernel
theorem f290_125 : mFetch 290 125 = some (.iload 4, 2, 0, 0, 0, 0) := by decide +kernel
theorem f290_127 : mFetch 290 127 = some (.iastore, 1, 0, 0, 0, 0) := by decide +kernel
theorem f290_128 : mFetch 290 128 = some (.return_, 1, 0, 0, 0, 0) := by decide +kernel
theorem b290_0 {X : (Nat → Int) × Nat} {d : Nat} {s : mSt} {Q : mQ} {x1 : Int} {x2 : Int} (h_1 : 0 ≤ (w32 (129 + x1)) ∧ (w32 (129 + x1)) < 166) (h_2 : 0 ≤ (w32 (129 + x2)) ∧ (w32 (129 + x2)) < 166) (h_3 : Sp X d 277 [mR 407] s (fun r s' => r = none ∧ Wp X (d + 1) 290 27 [some (mR 407), some (mI x1), some (mI x2), some (mI (s 417 (w32 (129 + x1)).toNat)), some (mI (s 417 (w32 (129 + x2)).toNat)), none] [] s' Q)) : Wp X (d + 1) 290 0 [some (mR 407), some (mI x1), some (mI x2), none, none, none] [] s Q := Wp_step k290 f290_0 (Wp_step k290 f290_1 ⟨kf_407, 417, rf_407_20, Wp_step k290 f290_4 (Wp_step k290 f290_7 (Wp_step k290 f290_8 (Wp_step k290 f290_9 ⟨166, af_417, h_1, Wp_step k290 f290_10 (Wp_step k290 f290_11 (Wp_step k290 f290_12 ⟨kf_407, 417, rf_407_20, Wp_step k290 f290_15 (Wp_step k290 f290_18 (Wp_step k290 f290_19 (Wp_step k290 f290_20 ⟨166, af_417, h_2, Wp_step k290 f290_21 (Wp_step k290 f290_23 (Wp_step k290 f290_24 ⟨⟨kf_407, Nat.le_of_ble_eq_true rfl⟩, Nat.le_refl _, _, rfl, Sp_V h_3⟩))⟩)))⟩))⟩)))⟩)
theorem b290_27 {X : (Nat → Int) × Nat} {d : Nat} {s : mSt} {Q : mQ} {x1 : Int} {x2 : Int} {x3 : Int} {x4 : Int} (h_1 : Wp X d 290 30 [some (mR 407), some (mI x1), some (mI x2), some (mI x3), some (mI x4), some (mI 0)] [] s Q) : Wp X d 290 27 [some (mR 407), some (mI x1), some (mI x2), some (mI x3), some (mI x4), none] [] s Q := Wp_step k290 f290_27 (Wp_step k290 f290_28 (h_1))
theorem b290_30 {X : (Nat → Int) × Nat} {d : Nat} {s : mSt} {Q : mQ} {x1 : Int} {x2 : Int} {x3 : Int} {x4 : Int} {x5 : Int} (h_1 : 16 ≤ x5 → Wp X d 290 105 [some (mR 407), some (mI x1), some (mI x2), some (mI x3), some (mI x4), some (mI x5)] [] s Q) (h_2 : ¬ 16 ≤ x5 → Wp X d 290 37 [some (mR 407), some (mI x1), some (mI x2), some (mI x3), some (mI x4), some (mI x5)] [] s Q) : Wp X d 290 30 [some (mR 407), some (mI x1), some (mI x2), some (mI x3), some (mI x4), some (mI x5)] [] s Q := Wp_step k290 f290_30 (Wp_step k290 f290_32 (Wp_step k290 f290_34 ⟨h_1, h_2⟩))
theorem b290_37 {X : (Nat → Int) × Nat} {d : Nat} {s : mSt} {Q : mQ} {x1 : Int} {x2 : Int} {x3 : Int} {x4 : Int} {x5 : Int} (h_1 : 0 ≤ (w32 (129 + x1)) ∧ (w32 (129 + x1)) < 166) (h_2 : 0 ≤ (w32 (129 + x2)) ∧ (w32 (129 + x2)) < 166) (h_3 : Sp X d 289 [mR 407, mI x1] (uS (uS s 417 ((w32 (129 + x1)).toNat) (w32 (Int.tdiv x5 4))) 417 ((w32 (129 + x2)).toNat) (Int.tmod x5 4)) (fun r s' => ∃ v : Int, r = some (mI v) ∧ Wp X (d + 1) 290 78 [some (mR 407), some (mI x1), some (mI x2), some (mI x3), some (mI x4), some (mI x5)] [mI v, mI (w32 (2 * x5)), mR 433] s' Q)) : Wp X (d + 1) 290 37 [some (mR 407), some (mI x1), some (mI x2), some (mI x3), some (mI x4), some (mI x5)] [] s Q := Wp_step k290 f290_37 (Wp_step k290 f290_38 ⟨kf_407, 417, rf_407_20, Wp_step k290 f290_41 (Wp_step k290 f290_44 (Wp_step k290 f290_45 (Wp_step k290 f290_46 (Wp_step k290 f290_48 (Wp_step k290 f290_49 ⟨(by decide), Wp_step k290 f290_50 ⟨166, af_417, h_1, Wp_step k290 f290_51 (Wp_step k290 f290_52 ⟨kf_407, 417, rf_407_20, Wp_step k290 f290_55 (Wp_step k290 f290_58 (Wp_step k290 f290_59 (Wp_step k290 f290_60 (Wp_step k290 f290_62 (Wp_step k290 f290_63 ⟨(by decide), Wp_step k290 f290_64 ⟨166, af_417, h_2, Wp_step k290 f290_65 (Wp_step k290 f290_66 ⟨kf_407, 433, rf_407_50, Wp_step k290 f290_69 (Wp_step k290 f290_70 (Wp_step k290 f290_72 (Wp_step k290 f290_73 (Wp_step k290 f290_74 (Wp_step k290 f290_75 ⟨⟨kf_407, Nat.le_of_ble_eq_true rfl⟩, Nat.le_refl _, _, rfl, Sp_E h_3⟩)))))⟩)⟩⟩)))))⟩)⟩⟩)))))⟩)
theorem b290_78 {X : (Nat → Int) × Nat} {d : Nat} {s : mSt} {Q : mQ} {x1 : Int} {x2 : Int} {x3 : Int} {x4 : Int} {x5 : Int} {xt1 : Int} {xt2 : Int} (h_1 : 0 ≤ xt1 ∧ xt1 < 32) (h_2 : Sp X d 289 [mR 407, mI x2] (uS s 433 xt1.toNat xt2) (fun r s' => ∃ v : Int, r = some (mI v) ∧ Wp X (d + 1) 290 94 [some (mR 407), some (mI x1), some (mI x2), some (mI x3), some (mI x4), some (mI x5)] [mI v, mI (w32 ((w32 (2 * x5)) + 1)), mR 433] s' Q)) : Wp X (d + 1) 290 78 [some (mR 407), some (mI x1), some (mI x2), some (mI x3), some (mI x4), some (mI x5)] [mI xt2, mI xt1, mR 433] s Q := Wp_step k290 f290_78 ⟨32, af_433, h_1, Wp_step k290 f290_79 (Wp_step k290 f290_80 ⟨kf_407, 433, rf_407_50, Wp_step k290 f290_83 (Wp_step k290 f290_84 (Wp_step k290 f290_86 (Wp_step k290 f290_87 (Wp_step k290 f290_88 (Wp_step k290 f290_89 (Wp_step k290 f290_90 (Wp_step k290 f290_91 ⟨⟨kf_407, Nat.le_of_ble_eq_true rfl⟩, Nat.le_refl _, _, rfl, Sp_E h_2⟩)))))))⟩)⟩
theorem b290_94 {X : (Nat → Int) × Nat} {d : Nat} {s : mSt} {Q : mQ} {x1 : Int} {x2 : Int} {x3 : Int} {x4 : Int} {x5 : Int} {xt1 : Int} {xt2 : Int} (h_1 : 0 ≤ xt1 ∧ xt1 < 32) (h_2 : Sp X d 278 [mR 407] (uS s 433 xt1.toNat xt2) (fun r s' => r = none ∧ Wp X (d + 1) 290 99 [some (mR 407), some (mI x1), some (mI x2), some (mI x3), some (mI x4), some (mI x5)] [] s' Q)) : Wp X (d + 1) 290 94 [some (mR 407), some (mI x1), some (mI x2), some (mI x3), some (mI x4), some (mI x5)] [mI xt2, mI xt1, mR 433] s Q := Wp_step k290 f290_94 ⟨32, af_433, h_1, Wp_step k290 f290_95 (Wp_step k290 f290_96 ⟨⟨kf_407, Nat.le_of_ble_eq_true rfl⟩, Nat.le_refl _, _, rfl, Sp_V h_2⟩)⟩
theorem b290_99 {X : (Nat → Int) × Nat} {d : Nat} {s : mSt} {Q : mQ} {x1 : Int} {x2 : Int} {x3 : Int} {x4 : Int} {x5 : Int} (h_1 : Wp X d 290 30 [some (mR 407), some (mI x1), some (mI x2), some (mI x3), some (mI x4), some (mI (w32 (x5 + 1)))] [] s Q) : Wp X d 290 99 [some (mR 407), some (mI x1), some (mI x2), some (mI x3), some (mI x4), some (mI x5)] [] s Q := Wp_step k290 f290_99 (Wp_step k290 f290_102 (h_1))
theorem b290_105 {X : (Nat → Int) × Nat} {d : Nat} {s : mSt} {Q : mQ} {x1 : Int} {x2 : Int} {x3 : Int} {x4 : Int} {x5 : Int} (h_1 : 0 ≤ (w32 (129 + x1)) ∧ (w32 (129 + x1)) < 166) (h_2 : 0 ≤ (w32 (129 + x2)) ∧ (w32 (129 + x2)) < 166) (h_3 : Q none (uS (uS s 417 ((w32 (129 + x1)).toNat) x3) 417 ((w32 (129 + x2)).toNat) x4)) : Wp X d 290 105 [some (mR 407), some (mI x1), some (mI x2), some (mI x3), some (mI x4), some (mI x5)] [] s Q := Wp_step k290 f290_105 (Wp_step k290 f290_106 ⟨kf_407, 417, rf_407_20, Wp_step k290 f290_109 (Wp_step k290 f290_112 (Wp_step k290 f290_113 (Wp_step k290 f290_114 (Wp_step k290 f290_115 ⟨166, af_417, h_1, Wp_step k290 f290_116 (Wp_step k290 f290_117 ⟨kf_407, 417, rf_407_20, Wp_step k290 f290_120 (Wp_step k290 f290_123 (Wp_step k290 f290_124 (Wp_step k290 f290_125 (Wp_step k290 f290_127 ⟨166, af_417, h_2, Wp_step k290 f290_128 ⟨⟨rfl, Or.inl rfl⟩, h_3⟩⟩))))⟩)⟩))))⟩)
theorem e290 {X : (Nat → Int) × Nat} {d : Nat} {s : mSt} {Q : mQ} {x1 : Int} {x2 : Int} (h : Wp X d 290 0 [some (mR 407), some (mI x1), some (mI x2), none, none, none] [] s Q) : Sp X d 290 [mR 407, mI x1, mI x2] s Q := Sp_of (show mCe 290 = 0 by decide +kernel) (by rw [show mML 290 = 6 by decide +kernel]; rfl) (Nat.le_trans (Nat.le_of_ble_eq_true (show Nat.ble (mArgs _).length 6 = true from rfl)) (show 6 ≤ mML 290 by decide +kernel)) h
-- 291 ClashDayModel.rests(III)I
theorem k291 : mRk 291 = 1 := by decide +kernel
theorem f291_0 : mFetch 291 0 = some (.aload_n 0, 1, 0, 0, 0, 0) := by decide +kernel
theorem f291_1 : mFetch 291 1 = some (.iload_n 1, 1, 0, 0, 0, 0) := by decide +kernel
theorem f291_2 : mFetch 291 2 = some (.invokevirtual 328, 3, 215, 0, 2, 12) := by decide +kernel
theorem f291_5 : mFetch 291 5 = some (.ifCond .eq 28, 3, 33, 0, 0, 0) := by decide +kernel
theorem f291_8 : mFetch 291 8 = some (.aload_n 0, 1, 0, 0, 0, 0) := by decide +kernel
theorem f291_9 : mFetch 291 9 = some (.iload_n 2, 1, 0, 0, 0, 0) := by decide +kernel
theorem f291_10 : mFetch 291 10 = some (.invokevirtual 328, 3, 215, 0, 2, 12) := by decide +kernel
theorem f291_13 : mFetch 291 13 = some (.ifCond .eq 20, 3, 33, 0, 0, 0) := by decide +kernel
theorem f291_16 : mFetch 291 16 = some (.iload_n 1, 1, 0, 0, 0, 0) := by decide +kernel
theorem f291_17 : mFetch 291 17 = some (.iload_n 2, 1, 0, 0, 0, 0) := by decide +kernel
theorem f291_18 : mFetch 291 18 = some (.if_icmp .eq 15, 3, 33, 0, 0, 0) := by decide +kernel
theorem f291_21 : mFetch 291 21 = some (.iload_n 3, 1, 0, 0, 0, 0) := by decide +kernel
theorem f291_22 : mFetch 291 22 = some (.i2l, 1, 0, 0, 0, 0) := by decide +kernel
theorem f291_23 : mFetch 291 23 = some (.lconst 0, 1, 0, 0, 0, 0) := by decide +kernel
theorem f291_24 : mFetch 291 24 = some (.ldc2_w 352, 3, 2, 0, 0, 0) := by decide +kernel
theorem f291_27 : mFetch 291 27 = some (.invokestatic 151, 3, 167, 0, 3, 99) := by decide +kernel
theorem f291_30 : mFetch 291 30 = some (.ifCond .ne 5, 3, 35, 0, 0, 0) := by decide +kernel
theorem f291_33 : mFetch 291 33 = some (.iconst (-1), 1, 0, 0, 0, 0) := by decide +kernel
theorem f291_34 : mFetch 291 34 = some (.ireturn, 1, 0, 0, 0, 0) := by decide +kernel
theorem f291_35 : mFetch 291 35 = some (.aload_n 0, 1, 0, 0, 0, 0) := by decide +kernel
theorem f291_36 : mFetch 291 36 = some (.iload_n 1, 1, 0, 0, 0, 0) := by decide +kernel
theorem f291_37 : mFetch 291 37 = some (.iload_n 2, 1, 0, 0, 0, 0) := by decide +kernel
theorem f291_38 : mFetch 291 38 = some (.invokevirtual 531, 3, 290, 0, 3, 12) := by decide +kernel
theorem f291_41 : mFetch 291 41 = some (.iconst 0, 1, 0, 0, 0, 0) := by decide +kernel
theorem f291_42 : mFetch 291 42 = some (.istore 4, 2, 0, 0, 0, 0) := by decide +kernel
theorem f291_44 : mFetch 291 44 = some (.iconst (-1), 1, 0, 0, 0, 0) := by decide +kernel
theorem f291_45 : mFetch 291 45 = some (.istore 5, 2, 0, 0, 0, 0) := by decide +kernel
theorem f291_47 : mFetch 291 47 = some (.bipush 15, 2, 0, 0, 0, 0) := by decide +kernel
theorem f291_49 : mFetch 291 49 = some (.istore 6, 2, 0, 0, 0, 0) := by decide +kernel
theorem f291_51 : mFetch 291 51 = some (.iload 6, 2, 0, 0, 0, 0) := by decide +kernel
theorem f291_53 : mFetch 291 53 = some (.ifCond .lt 34, 3, 87, 0, 0, 0) := by decide +kernel
theorem f291_56 : mFetch 291 56 = some (.aload_n 0, 1, 0, 0, 0, 0) := by decide +kernel
theorem f291_57 : mFetch 291 57 = some (.iload 6, 2, 0, 0, 0, 0) := by decide +kernel
theorem f291_59 : mFetch 291 59 = some (.iconst 4, 1, 0, 0, 0, 0) := by decide +kernel
theorem f291_60 : mFetch 291 60 = some (.idiv, 1, 0, 0, 0, 0) := by decide +kernel
theorem f291_61 : mFetch 291 61 = some (.iload 6, 2, 0, 0, 0, 0) := by decide +kernel
theorem f291_63 : mFetch 291 63 = some (.iconst 4, 1, 0, 0, 0, 0) := by decide +kernel
theorem f291_64 : mFetch 291 64 = some (.irem, 1, 0, 0, 0, 0) := by decide +kernel
theorem f291_65 : mFetch 291 65 = some (.invokevirtual 534, 3, 288, 0, 3, 12) := by decide +kernel
theorem f291_68 : mFetch 291 68 = some (.ifCond .ne 6, 3, 74, 0, 0, 0) := by decide +kernel
theorem f291_71 : mFetch 291 71 = some (.goto 10, 3, 81, 0, 0, 0) := by decide +kernel
theorem f291_74 : mFetch 291 74 = some (.iload 6, 2, 0, 0, 0, 0) := by decide +kernel
theorem f291_76 : mFetch 291 76 = some (.istore 5, 2, 0, 0, 0, 0) := by decide +kernel
theorem f291_78 : mFetch 291 78 = some (.iinc 4 1, 3, 0, 0, 0, 0) := by decide +kernel
theorem f291_81 : mFetch 291 81 = some (.iinc 6 (-1), 3, 0, 0, 0, 0) := by decide +kernel
theorem f291_84 : mFetch 291 84 = some (.goto (-33), 3, 51, 0, 0, 0) := by decide +kernel
theorem f291_87 : mFetch 291 87 = some (.iload_n 3, 1, 0, 0, 0, 0) := by decide +kernel
theorem f291_88 : mFetch 291 88 = some (.ifCond .ne 6, 3, 94, 0, 0, 0) := by decide +kernel
theorem f291_91 : mFetch 291 91 = some (.iload 4, 2, 0, 0, 0, 0) := by decide +kernel
theorem f291_93 : mFetch 291 93 = some (.ireturn, 1, 0, 0, 0, 0) := by decide +kernel
theorem f291_94 : mFetch 291 94 = some (.iload 5, 2, 0, 0, 0, 0) := by decide +kernel
theorem f291_96 : mFetch 291 96 = some (.ifCond .ge 8, 3, 104, 0, 0, 0) := by decide +kernel
theorem f291_99 : mFetch 291 99 = some (.bipush (-2), 2, 0, 0, 0, 0) := by decide +kernel
theorem f291_101 : mFetch 291 101 = some (.goto 19, 3, 120, 0, 0, 0) := by decide +kernel
theorem f291_104 : mFetch 291 104 = some (.iload_n 3, 1, 0, 0, 0, 0) := by decide +kernel
theorem f291_105 : mFetch 291 105 = some (.iconst 1, 1, 0, 0, 0, 0) := by decide +kernel
theorem f291_106 : mFetch 291 106 = some (.if_icmp .ne 10, 3, 116, 0, 0, 0) := by decide +kernel
theorem f291_109 : mFetch 291 109 = some (.iload 5, 2, 0, 0, 0, 0) := by decide +kernel
theorem f291_111 : mFetch 291 111 = some (.iconst 4, 1, 0, 0, 0, 0) := by decide +kernel
theorem f291_112 : mFetch 291 112 = some (.idiv, 1, 0, 0, 0, 0) := by decide +kernel
theorem f291_113 : mFetch 291 113 = some (.goto 7, 3, 120, 0, 0, 0) := by decide +kernel
theorem f291_116 : mFetch 291 116 = some (.iload 5, 2, 0, 0, 0, 0) := by decide +kernel
theorem f291_118 : mFetch 291 118 = some (.iconst 4, 1, 0, 0, 0, 0) := by decide +kernel
theorem f291_119 : mFetch 291 119 = some (.irem, 1, 0, 0, 0, 0) := by decide +kernel
theorem f291_120 : mFetch 291 120 = some (.ireturn, 1, 0, 0, 0, 0) := by decide +kernel
theorem b291_0 {X : (Nat → Int) × Nat} {d : Nat} {s : mSt} {Q : mQ} {x1 : Int} {x2 : Int} {x3 : Int} (h_1 : Sp X d 215 [mR 407, mI x1] s (fun r s' => ∃ v : Int, r = some (mI v) ∧ Wp X (d + 1) 291 5 [some (mR 407), some (mI x1), some (mI x2), some (mI x3), none, none, none] [mI v] s' Q)) : Wp X (d + 1) 291 0 [some (mR 407), some (mI x1), some (mI x2), some (mI x3), none, none, none] [] s Q := Wp_step k291 f291_0 (Wp_step k291 f291_1 (Wp_step k291 f291_2 ⟨⟨kf_407, Nat.le_of_ble_eq_true rfl⟩, Nat.le_refl _, _, rfl, Sp_E h_1⟩))
theorem b291_5 {X : (Nat → Int) × Nat} {d : Nat} {s : mSt} {Q : mQ} {x1 : Int} {x2 : Int} {x3 : Int} {xt0 : Int} (h_1 : xt0 = 0 → Wp X d 291 33 [some (mR 407), some (mI x1), some (mI x2), some (mI x3), none, none, none] [] s Q) (h_2 : ¬ xt0 = 0 → Wp X d 291 8 [some (mR 407), some (mI x1), some (mI x2), some (mI x3), none, none, none] [] s Q) : Wp X d 291 5 [some (mR 407), some (mI x1), some (mI x2), some (mI x3), none, none, none] [mI xt0] s Q := Wp_step k291 f291_5 ⟨h_1, h_2⟩
theorem b291_8 {X : (Nat → Int) × Nat} {d : Nat} {s : mSt} {Q : mQ} {x1 : Int} {x2 : Int} {x3 : Int} (h_1 : Sp X d 215 [mR 407, mI x2] s (fun r s' => ∃ v : Int, r = some (mI v) ∧ Wp X (d + 1) 291 13 [some (mR 407), some (mI x1), some (mI x2), some (mI x3), none, none, none] [mI v] s' Q)) : Wp X (d + 1) 291 8 [some (mR 407), some (mI x1), some (mI x2), some (mI x3), none, none, none] [] s Q := Wp_step k291 f291_8 (Wp_step k291 f291_9 (Wp_step k291 f291_10 ⟨⟨kf_407, Nat.le_of_ble_eq_true rfl⟩, Nat.le_refl _, _, rfl, Sp_E h_1⟩))
theorem b291_13 {X : (Nat → Int) × Nat} {d : Nat} {s : mSt} {Q : mQ} {x1 : Int} {x2 : Int} {x3 : Int} {xt0 : Int} (h_1 : xt0 = 0 → Wp X d 291 33 [some (mR 407), some (mI x1), some (mI x2), some (mI x3), none, none, none] [] s Q) (h_2 : ¬ xt0 = 0 → Wp X d 291 16 [some (mR 407), some (mI x1), some (mI x2), some (mI x3), none, none, none] [] s Q) : Wp X d 291 13 [some (mR 407), some (mI x1), some (mI x2), some (mI x3), none, none, none] [mI xt0] s Q := Wp_step k291 f291_13 ⟨h_1, h_2⟩
theorem b291_16 {X : (Nat → Int) × Nat} {d : Nat} {s : mSt} {Q : mQ} {x1 : Int} {x2 : Int} {x3 : Int} (h_1 : x1 = x2 → Wp X d 291 33 [some (mR 407), some (mI x1), some (mI x2), some (mI x3), none, none, none] [] s Q) (h_2 : ¬ x1 = x2 → Wp X d 291 21 [some (mR 407), some (mI x1), some (mI x2), some (mI x3), none, none, none] [] s Q) : Wp X d 291 16 [some (mR 407), some (mI x1), some (mI x2), some (mI x3), none, none, none] [] s Q := Wp_step k291 f291_16 (Wp_step k291 f291_17 (Wp_step k291 f291_18 ⟨h_1, h_2⟩))
theorem b291_21 {X : (Nat → Int) × Nat} {d : Nat} {s : mSt} {Q : mQ} {x1 : Int} {x2 : Int} {x3 : Int} (h_1 : Sp X d 167 [mJ x3, mJ 0, mJ 2] s (fun r s' => ∃ v : Int, r = some (mI v) ∧ Wp X (d + 1) 291 30 [some (mR 407), some (mI x1), some (mI x2), some (mI x3), none, none, none] [mI v] s' Q)) : Wp X (d + 1) 291 21 [some (mR 407), some (mI x1), some (mI x2), some (mI x3), none, none, none] [] s Q := Wp_step k291 f291_21 (Wp_step k291 f291_22 (Wp_step k291 f291_23 (Wp_step k291 f291_24 (Wp_step k291 f291_27 ⟨⟨Nat.le_of_ble_eq_true rfl, Nat.le_refl _⟩, _, rfl, Sp_E h_1⟩))))
theorem b291_30 {X : (Nat → Int) × Nat} {d : Nat} {s : mSt} {Q : mQ} {x1 : Int} {x2 : Int} {x3 : Int} {xt0 : Int} (h_1 : ¬ xt0 = 0 → Wp X d 291 35 [some (mR 407), some (mI x1), some (mI x2), some (mI x3), none, none, none] [] s Q) (h_2 : xt0 = 0 → Wp X d 291 33 [some (mR 407), some (mI x1), some (mI x2), some (mI x3), none, none, none] [] s Q) : Wp X d 291 30 [some (mR 407), some (mI x1), some (mI x2), some (mI x3), none, none, none] [mI xt0] s Q := Wp_step k291 f291_30 ⟨h_1, h_2⟩
theorem b291_33 {X : (Nat → Int) × Nat} {d : Nat} {s : mSt} {Q : mQ} {x1 : Int} {x2 : Int} {x3 : Int} (h_1 : Q (some (mI (-1))) s) : Wp X d 291 33 [some (mR 407), some (mI x1), some (mI x2), some (mI x3), none, none, none] [] s Q := Wp_step k291 f291_33 (Wp_step k291 f291_34 ⟨⟨rfl, trivial⟩, h_1⟩)
theorem b291_35 {X : (Nat → Int) × Nat} {d : Nat} {s : mSt} {Q : mQ} {x1 : Int} {x2 : Int} {x3 : Int} (h_1 : Sp X d 290 [mR 407, mI x1, mI x2] s (fun r s' => r = none ∧ Wp X (d + 1) 291 41 [some (mR 407), some (mI x1), some (mI x2), some (mI x3), none, none, none] [] s' Q)) : Wp X (d + 1) 291 35 [some (mR 407), some (mI x1), some (mI x2), some (mI x3), none, none, none] [] s Q := Wp_step k291 f291_35 (Wp_step k291 f291_36 (Wp_step k291 f291_37 (Wp_step k291 f291_38 ⟨⟨kf_407, Nat.le_of_ble_eq_true rfl⟩, Nat.le_refl _, _, rfl, Sp_V h_1⟩)))
theorem b291_41 {X : (Nat → Int) × Nat} {d : Nat} {s : mSt} {Q : mQ} {x1 : Int} {x2 : Int} {x3 : Int} (h_1 : Wp X d 291 51 [some (mR 407), some (mI x1), some (mI x2), some (mI x3), some (mI 0), some (mI (-1)), some (mI 15)] [] s Q) : Wp X d 291 41 [some (mR 407), some (mI x1), some (mI x2), some (mI x3), none, none, none] [] s Q := Wp_step k291 f291_41 (Wp_step k291 f291_42 (Wp_step k291 f291_44 (Wp_step k291 f291_45 (Wp_step k291 f291_47 (Wp_step k291 f291_49 (h_1))))))
theorem b291_51 {X : (Nat → Int) × Nat} {d : Nat} {s : mSt} {Q : mQ} {x1 : Int} {x2 : Int} {x3 : Int} {x4 : Int} {x5 : Int} {x6 : Int} (h_1 : x6 < 0 → Wp X d 291 87 [some (mR 407), some (mI x1), some (mI x2), some (mI x3), some (mI x4), some (mI x5), some (mI x6)] [] s Q) (h_2 : ¬ x6 < 0 → Wp X d 291 56 [some (mR 407), some (mI x1), some (mI x2), some (mI x3), some (mI x4), some (mI x5), some (mI x6)] [] s Q) : Wp X d 291 51 [some (mR 407), some (mI x1), some (mI x2), some (mI x3), some (mI x4), some (mI x5), some (mI x6)] [] s Q := Wp_step k291 f291_51 (Wp_step k291 f291_53 ⟨h_1, h_2⟩)
theorem b291_56 {X : (Nat → Int) × Nat} {d : Nat} {s : mSt} {Q : mQ} {x1 : Int} {x2 : Int} {x3 : Int} {x4 : Int} {x5 : Int} {x6 : Int} (h_1 : Sp X d 288 [mR 407, mI (w32 (Int.tdiv x6 4)), mI (Int.tmod x6 4)] s (fun r s' => ∃ v : Int, r = some (mI v) ∧ Wp X (d + 1) 291 68 [some (mR 407), some (mI x1), some (mI x2), some (mI x3), some (mI x4), some (mI x5), some (mI x6)] [mI v] s' Q)) : Wp X (d + 1) 291 56 [some (mR 407), some (mI x1), some (mI x2), some (mI x3), some (mI x4), some (mI x5), some (mI x6)] [] s Q := Wp_step k291 f291_56 (Wp_step k291 f291_57 (Wp_step k291 f291_59 (Wp_step k291 f291_60 ⟨(by decide), Wp_step k291 f291_61 (Wp_step k291 f291_63 (Wp_step k291 f291_64 ⟨(by decide), Wp_step k291 f291_65 ⟨⟨kf_407, Nat.le_of_ble_eq_true rfl⟩, Nat.le_refl _, _, rfl, Sp_E h_1⟩⟩))⟩)))
theorem b291_68 {X : (Nat → Int) × Nat} {d : Nat} {s : mSt} {Q : mQ} {x1 : Int} {x2 : Int} {x3 : Int} {x4 : Int} {x5 : Int} {x6 : Int} {xt0 : Int} (h_1 : ¬ xt0 = 0 → Wp X d 291 74 [some (mR 407), some (mI x1), some (mI x2), some (mI x3), some (mI x4), some (mI x5), some (mI x6)] [] s Q) (h_2 : xt0 = 0 → Wp X d 291 71 [some (mR 407), some (mI x1), some (mI x2), some (mI x3), some (mI x4), some (mI x5), some (mI x6)] [] s Q) : Wp X d 291 68 [some (mR 407), some (mI x1), some (mI x2), some (mI x3), some (mI x4), some (mI x5), some (mI x6)] [mI xt0] s Q := Wp_step k291 f291_68 ⟨h_1, h_2⟩
theorem b291_71 {X : (Nat → Int) × Nat} {d : Nat} {s : mSt} {Q : mQ} {x1 : Int} {x2 : Int} {x3 : Int} {x4 : Int} {x5 : Int} {x6 : Int} (h_1 : Wp X d 291 81 [some (mR 407), some (mI x1), some (mI x2), some (mI x3), some (mI x4), some (mI x5), some (mI x6)] [] s Q) : Wp X d 291 71 [some (mR 407), some (mI x1), some (mI x2), some (mI x3), some (mI x4), some (mI x5), some (mI x6)] [] s Q := Wp_step k291 f291_71 (h_1)
theorem b291_74 {X : (Nat → Int) × Nat} {d : Nat} {s : mSt} {Q : mQ} {x1 : Int} {x2 : Int} {x3 : Int} {x4 : Int} {x5 : Int} {x6 : Int} (h_1 : Wp X d 291 81 [some (mR 407), some (mI x1), some (mI x2), some (mI x3), some (mI (w32 (x4 + 1))), some (mI x6), some (mI x6)] [] s Q) : Wp X d 291 74 [some (mR 407), some (mI x1), some (mI x2), some (mI x3), some (mI x4), some (mI x5), some (mI x6)] [] s Q := Wp_step k291 f291_74 (Wp_step k291 f291_76 (Wp_step k291 f291_78 (h_1)))
theorem b291_81 {X : (Nat → Int) × Nat} {d : Nat} {s : mSt} {Q : mQ} {x1 : Int} {x2 : Int} {x3 : Int} {x4 : Int} {x5 : Int} {x6 : Int} (h_1 : Wp X d 291 51 [some (mR 407), some (mI x1), some (mI x2), some (mI x3), some (mI x4), some (mI x5), some (mI (w32 (x6 + (-1))))] [] s Q) : Wp X d 291 81 [some (mR 407), some (mI x1), some (mI x2), some (mI x3), some (mI x4), some (mI x5), some (mI x6)] [] s Q := Wp_step k291 f291_81 (Wp_step k291 f291_84 (h_1))
theorem b291_87 {X : (Nat → Int) × Nat} {d : Nat} {s : mSt} {Q : mQ} {x1 : Int} {x2 : Int} {x3 : Int} {x4 : Int} {x5 : Int} {x6 : Int} (h_1 : ¬ x3 = 0 → Wp X d 291 94 [some (mR 407), some (mI x1), some (mI x2), some (mI x3), some (mI x4), some (mI x5), some (mI x6)] [] s Q) (h_2 : x3 = 0 → Wp X d 291 91 [some (mR 407), some (mI x1), some (mI x2), some (mI x3), some (mI x4), some (mI x5), some (mI x6)] [] s Q) : Wp X d 291 87 [some (mR 407), some (mI x1), some (mI x2), some (mI x3), some (mI x4), some (mI x5), some (mI x6)] [] s Q := Wp_step k291 f291_87 (Wp_step k291 f291_88 ⟨h_1, h_2⟩)
theorem b291_91 {X : (Nat → Int) × Nat} {d : Nat} {s : mSt} {Q : mQ} {x1 : Int} {x2 : Int} {x3 : Int} {x4 : Int} {x5 : Int} {x6 : Int} (h_1 : Q (some (mI x4)) s) : Wp X d 291 91 [some (mR 407), some (mI x1), some (mI x2), some (mI x3), some (mI x4), some (mI x5), some (mI x6)] [] s Q := Wp_step k291 f291_91 (Wp_step k291 f291_93 ⟨⟨rfl, trivial⟩, h_1⟩)
theorem b291_94 {X : (Nat → Int) × Nat} {d : Nat} {s : mSt} {Q : mQ} {x1 : Int} {x2 : Int} {x3 : Int} {x4 : Int} {x5 : Int} {x6 : Int} (h_1 : 0 ≤ x5 → Wp X d 291 104 [some (mR 407), some (mI x1), some (mI x2), some (mI x3), some (mI x4), some (mI x5), some (mI x6)] [] s Q) (h_2 : ¬ 0 ≤ x5 → Wp X d 291 99 [some (mR 407), some (mI x1), some (mI x2), some (mI x3), some (mI x4), some (mI x5), some (mI x6)] [] s Q) : Wp X d 291 94 [some (mR 407), some (mI x1), some (mI x2), some (mI x3), some (mI x4), some (mI x5), some (mI x6)] [] s Q := Wp_step k291 f291_94 (Wp_step k291 f291_96 ⟨h_1, h_2⟩)
theorem b291_99 {X : (Nat → Int) × Nat} {d : Nat} {s : mSt} {Q : mQ} {x1 : Int} {x2 : Int} {x3 : Int} {x4 : Int} {x5 : Int} {x6 : Int} (h_1 : Wp X d 291 120 [some (mR 407), some (mI x1), some (mI x2), some (mI x3), some (mI x4), some (mI x5), some (mI x6)] [mI (-2)] s Q) : Wp X d 291 99 [some (mR 407), some (mI x1), some (mI x2), some (mI x3), some (mI x4), some (mI x5), some (mI x6)] [] s Q := Wp_step k291 f291_99 (Wp_step k291 f291_101 (h_1))
theorem b291_104 {X : (Nat → Int) × Nat} {d : Nat} {s : mSt} {Q : mQ} {x1 : Int} {x2 : Int} {x3 : Int} {x4 : Int} {x5 : Int} {x6 : Int} (h_1 : ¬ x3 = 1 → Wp X d 291 116 [some (mR 407), some (mI x1), some (mI x2), some (mI x3), some (mI x4), some (mI x5), some (mI x6)] [] s Q) (h_2 : x3 = 1 → Wp X d 291 109 [some (mR 407), some (mI x1), some (mI x2), some (mI x3), some (mI x4), some (mI x5), some (mI x6)] [] s Q) : Wp X d 291 104 [some (mR 407), some (mI x1), some (mI x2), some (mI x3), some (mI x4), some (mI x5), some (mI x6)] [] s Q := Wp_step k291 f291_104 (Wp_step k291 f291_105 (Wp_step k291 f291_106 ⟨h_1, h_2⟩))
theorem b291_109 {X : (Nat → Int) × Nat} {d : Nat} {s : mSt} {Q : mQ} {x1 : Int} {x2 : Int} {x3 : Int} {x4 : Int} {x5 : Int} {x6 : Int} (h_1 : Wp X d 291 120 [some (mR 407), some (mI x1), some (mI x2), some (mI x3), some (mI x4), some (mI x5), some (mI x6)] [mI (w32 (Int.tdiv x5 4))] s Q) : Wp X d 291 109 [some (mR 407), some (mI x1), some (mI x2), some (mI x3), some (mI x4), some (mI x5), some (mI x6)] [] s Q := Wp_step k291 f291_109 (Wp_step k291 f291_111 (Wp_step k291 f291_112 ⟨(by decide), Wp_step k291 f291_113 (h_1)⟩))
theorem b291_116 {X : (Nat → Int) × Nat} {d : Nat} {s : mSt} {Q : mQ} {x1 : Int} {x2 : Int} {x3 : Int} {x4 : Int} {x5 : Int} {x6 : Int} (h_1 : Wp X d 291 120 [some (mR 407), some (mI x1), some (mI x2), some (mI x3), some (mI x4), some (mI x5), some (mI x6)] [mI (Int.tmod x5 4)] s Q) : Wp X d 291 116 [some (mR 407), some (mI x1), some (mI x2), some (mI x3), some (mI x4), some (mI x5), some (mI x6)] [] s Q := Wp_step k291 f291_116 (Wp_step k291 f291_118 (Wp_step k291 f291_119 ⟨(by decide), h_1⟩))
theorem b291_120 {X : (Nat → Int) × Nat} {d : Nat} {s : mSt} {Q : mQ} {x1 : Int} {x2 : Int} {x3 : Int} {x4 : Int} {x5 : Int} {x6 : Int} {xt0 : Int} (h_1 : Q (some (mI xt0)) s) : Wp X d 291 120 [some (mR 407), some (mI x1), some (mI x2), some (mI x3), some (mI x4), some (mI x5), some (mI x6)] [mI xt0] s Q := Wp_step k291 f291_120 ⟨⟨rfl, trivial⟩, h_1⟩
theorem e291 {X : (Nat → Int) × Nat} {d : Nat} {s : mSt} {Q : mQ} {x1 : Int} {x2 : Int} {x3 : Int} (h : Wp X d 291 0 [some (mR 407), some (mI x1), some (mI x2), some (mI x3), none, none, none] [] s Q) : Sp X d 291 [mR 407, mI x1, mI x2, mI x3] s Q := Sp_of (show mCe 291 = 0 by decide +kernel) (by rw [show mML 291 = 7 by decide +kernel]; rfl) (Nat.le_trans (Nat.le_of_ble_eq_true (show Nat.ble (mArgs _).length 7 = true from rfl)) (show 7 ≤ mML 291 by decide +kernel)) h
-- 292 ClashDayModel.pence(II)I
theorem k292 : mRk 292 = 1 := by decide +kernel
theorem f292_0 : mFetch 292 0 = some (.aload_n 0, 1, 0, 0, 0, 0) := by decide +kernel
theorem f292_1 : mFetch 292 1 = some (.iload_n 2, 1, 0, 0, 0, 0) := by decide +kernel
theorem f292_2 : mFetch 292 2 = some (.invokevirtual 315, 3, 214, 0, 2, 12) := by decide +kernel
theorem f292_5 : mFetch 292 5 = some (.ifCond .eq 15, 3, 20, 0, 0, 0) := by decide +kernel
theorem f292_8 : mFetch 292 8 = some (.iload_n 1, 1, 0, 0, 0, 0) := by decide +kernel
theorem f292_9 : mFetch 292 9 = some (.i2l, 1, 0, 0, 0, 0) := by decide +kernel
theorem f292_10 : mFetch 292 10 = some (.lconst 0, 1, 0, 0, 0, 0) := by decide +kernel
theorem f292_11 : mFetch 292 11 = some (.ldc2_w 537, 3, 9999, 0, 0, 0) := by decide +kernel
theorem f292_14 : mFetch 292 14 = some (.invokestatic 151, 3, 167, 0, 3, 99) := by decide +kernel
theorem f292_17 : mFetch 292 17 = some (.ifCond .ne 5, 3, 22, 0, 0, 0) := by decide +kernel
theorem f292_20 : mFetch 292 20 = some (.iconst (-1), 1, 0, 0, 0, 0) := by decide +kernel
theorem f292_21 : mFetch 292 21 = some (.ireturn, 1, 0, 0, 0, 0) := by decide +kernel
theorem f292_22 : mFetch 292 22 = some (.iconst 0, 1, 0, 0, 0, 0) := by decide +kernel
theorem f292_23 : mFetch 292 23 = some (.istore_n 3, 1, 0, 0, 0, 0) := by decide +kernel
theorem f292_24 : mFetch 292 24 = some (.iconst 0, 1, 0, 0, 0, 0) := by decide +kernel
theorem f292_25 : mFetch 292 25 = some (.istore 4, 2, 0, 0, 0, 0) := by decide +kernel
theorem f292_27 : mFetch 292 27 = some (.iload 4, 2, 0, 0, 0, 0) := by decide +kernel
theorem f292_29 : mFetch 292 29 = some (.aload_n 0, 1, 0, 0, 0, 0) := by decide +kernel
theorem f292_30 : mFetch 292 30 = some (.getfield 39, 3, 12, 20, 2, 1) := by decide +kernel
theorem f292_33 : mFetch 292 33 = some (.iconst 4, 1, 0, 0, 0, 0) := by decide +kernel
theorem f292_34 : mFetch 292 34 = some (.iaload, 1, 0, 0, 0, 0) := by decide +kernel
theorem f292_35 : mFetch 292 35 = some (.if_icmp .ge 31, 3, 66, 0, 0, 0) := by decide +kernel
theorem f292_38 : mFetch 292 38 = some (.iload_n 3, 1, 0, 0, 0, 0) := by decide +kernel
theorem f292_39 : mFetch 292 39 = some (.aload_n 0, 1, 0, 0, 0, 0) := by decide +kernel
theorem f292_40 : mFetch 292 40 = some (.iload 4, 2, 0, 0, 0, 0) := by decide +kernel
theorem f292_42 : mFetch 292 42 = some (.invokevirtual 334, 3, 216, 0, 2, 12) := by decide +kernel
theorem f292_45 : mFetch 292 45 = some (.ifCond .eq 12, 3, 57, 0, 0, 0) := by decide +kernel
theorem f292_48 : mFetch 292 48 = some (.aload_n 0, 1, 0, 0, 0, 0) := by decide +kernel
theorem f292_49 : mFetch 292 49 = some (.iload 4, 2, 0, 0, 0, 0) := by decide +kernel
theorem f292_51 : mFetch 292 51 = some (.invokevirtual 430, 3, 220, 0, 2, 12) := by decide +kernel
theorem f292_54 : mFetch 292 54 = some (.goto 4, 3, 58, 0, 0, 0) := by decide +kernel
theorem f292_57 : mFetch 292 57 = some (.iconst 0, 1, 0, 0, 0, 0) := by decide +kernel
theorem f292_58 : mFetch 292 58 = some (.iadd, 1, 0, 0, 0, 0) := by decide +kernel
theorem f292_59 : mFetch 292 59 = some (.istore_n 3, 1, 0, 0, 0, 0) := by decide +kernel
theorem f292_60 : mFetch 292 60 = some (.iinc 4 1, 3, 0, 0, 0, 0) := by decide +kernel
theorem f292_63 : mFetch 292 63 = some (.goto (-36), 3, 27, 0, 0, 0) := by decide +kernel
theorem f292_66 : mFetch 292 66 = some (.aload_n 0, 1, 0, 0, 0, 0) := by decide +kernel
theorem f292_67 : mFetch 292 67 = some (.iload_n 2, 1, 0, 0, 0, 0) := by decide +kernel
theorem f292_68 : mFetch 292 68 = some (.invokevirtual 334, 3, 216, 0, 2, 12) := by decide +kernel
theorem f292_71 : mFetch 292 71 = some (.ifCond .ne 5, 3, 76, 0, 0, 0) := by decide +kernel
theorem f292_74 : mFetch 292 74 = some (.iconst 0, 1, 0, 0, 0, 0) := by decide +kernel
theorem f292_75 : mFetch 292 75 = some (.ireturn, 1, 0, 0, 0, 0) := by decide +kernel
theorem f292_76 : mFetch 292 76 = some (.iload_n 1, 1, 0, 0, 0, 0) := by decide +kernel
theorem f292_77 : mFetch 292 77 = some (.aload_n 0, 1, 0, 0, 0, 0) := by decide +kernel
theorem f292_78 : mFetch 292 78 = some (.iload_n 2, 1, 0, 0, 0, 0) := by decide +kernel
theorem f292_79 : mFetch 292 79 = some (.invokevirtual 430, 3, 220, 0, 2, 12) := by decide +kernel
theorem f292_82 : mFetch 292 82 = some (.imul, 1, 0, 0, 0, 0) := by decide +kernel
theorem f292_83 : mFetch 292 83 = some (.istore 4, 2, 0, 0, 0, 0) := by decide +kernel
theorem f292_85 : mFetch 292 85 = some (.iload_n 1, 1, 0, 0, 0, 0) := by decide +kernel
theorem f292_86 : mFetch 292 86 = some (.istore 5, 2, 0, 0, 0, 0) := by decide +kernel
theorem f292_88 : mFetch 292 88 = some (.iconst 0, 1, 0, 0, 0, 0) := by decide +kernel
theorem f292_89 : mFetch 292 89 = some (.istore 6, 2, 0, 0, 0, 0) := by decide +kernel
theorem f292_91 : mFetch 292 91 = some (.iconst 0, 1, 0, 0, 0, 0) := by decide +kernel
theorem f292_92 : mFetch 292 92 = some (.istore 7, 2, 0, 0, 0, 0) := by decide +kernel
theorem f292_94 : mFetch 292 94 = some (.iload 7, 2, 0, 0, 0, 0) := by decide +kernel
theorem f292_96 : mFetch 292 96 = some (.aload_n 0, 1, 0, 0, 0, 0) := by decide +kernel
theorem f292_97 : mFetch 292 97 = some (.getfield 39, 3, 12, 20, 2, 1) := by decide +kernel
theorem f292_100 : mFetch 292 100 = some (.iconst 4, 1, 0, 0, 0, 0) := by decide +kernel
theorem f292_101 : mFetch 292 101 = some (.iaload, 1, 0, 0, 0, 0) := by decide +kernel
theorem f292_102 : mFetch 292 102 = some (.if_icmp .ge 78, 3, 180, 0, 0, 0) := by decide +kernel
theorem f292_105 : mFetch 292 105 = some (.aload_n 0, 1, 0, 0, 0, 0) := by decide +kernel
theorem f292_106 : mFetch 292 106 = some (.iload 7, 2, 0, 0, 0, 0) := by decide +kernel
theorem f292_108 : mFetch 292 108 = some (.invokevirtual 334, 3, 216, 0, 2, 12) := by decide +kernel
theorem f292_111 : mFetch 292 111 = some (.ifCond .ne 6, 3, 117, 0, 0, 0) := by decide +kernel
theorem f292_114 : mFetch 292 114 = some (.goto 60, 3, 174, 0, 0, 0) := by decide +kernel
theorem f292_117 : mFetch 292 117 = some (.iload_n 1, 1, 0, 0, 0, 0) := by decide +kernel
theorem f292_118 : mFetch 292 118 = some (.aload_n 0, 1, 0, 0, 0, 0) := by decide +kernel
theorem f292_119 : mFetch 292 119 = some (.iload 7, 2, 0, 0, 0, 0) := by decide +kernel
theorem f292_121 : mFetch 292 121 = some (.invokevirtual 430, 3, 220, 0, 2, 12) := by decide +kernel
theorem f292_124 : mFetch 292 124 = some (.imul, 1, 0, 0, 0, 0) := by decide +kernel
theorem f292_125 : mFetch 292 125 = some (.istore 8, 2, 0, 0, 0, 0) := by decide +kernel
theorem f292_127 : mFetch 292 127 = some (.iload 5, 2, 0, 0, 0, 0) := by decide +kernel
theorem f292_129 : mFetch 292 129 = some (.iload 8, 2, 0, 0, 0, 0) := by decide +kernel
theorem f292_131 : mFetch 292 131 = some (.iload_n 3, 1, 0, 0, 0, 0) := by decide +kernel
theorem f292_132 : mFetch 292 132 = some (.idiv, 1, 0, 0, 0, 0) := by decide +kernel
theorem f292_133 : mFetch 292 133 = some (.isub, 1, 0, 0, 0, 0) := by decide +kernel
theorem f292_134 : mFetch 292 134 = some (.istore 5, 2, 0, 0, 0, 0) := by decide +kernel
theorem f292_136 : mFetch 292 136 = some (.iload 6, 2, 0, 0, 0, 0) := by decide +kernel
theorem f292_138 : mFetch 292 138 = some (.iload 8, 2, 0, 0, 0, 0) := by decide +kernel
theorem f292_140 : mFetch 292 140 = some (.iload_n 3, 1, 0, 0, 0, 0) := by decide +kernel
theorem f292_141 : mFetch 292 141 = some (.irem, 1, 0, 0, 0, 0) := by decide +kernel
theorem f292_142 : mFetch 292 142 = some (.iload 4, 2, 0, 0, 0, 0) := by decide +kernel
theorem f292_144 : mFetch 292 144 = some (.iload_n 3, 1, 0, 0, 0, 0) := by decide +kernel
theorem f292_145 : mFetch 292 145 = some (.irem, 1, 0, 0, 0, 0) := by decide +kernel
theorem f292_146 : mFetch 292 146 = some (.if_icmp .gt 20, 3, 166, 0, 0, 0) := by decide +kernel
theorem f292_149 : mFetch 292 149 = some (.iload 8, 2, 0, 0, 0, 0) := by decide +kernel
theorem f292_151 : mFetch 292 151 = some (.iload_n 3, 1, 0, 0, 0, 0) := by decide +kernel
theorem f292_152 : mFetch 292 152 = some (.irem, 1, 0, 0, 0, 0) := by decide +kernel
theorem f292_153 : mFetch 292 153 = some (.iload 4, 2, 0, 0, 0, 0) := by decide +kernel
theorem f292_155 : mFetch 292 155 = some (.iload_n 3, 1, 0, 0, 0, 0) := by decide +kernel
theorem f292_156 : mFetch 292 156 = some (.irem, 1, 0, 0, 0, 0) := by decide +kernel
theorem f292_157 : mFetch 292 157 = some (.if_icmp .ne 13, 3, 170, 0, 0, 0) := by decide +kernel
theorem f292_160 : mFetch 292 160 = some (.iload 7, 2, 0, 0, 0, 0) := by decide +kernel
theorem f292_162 : mFetch 292 162 = some (.iload_n 2, 1, 0, 0, 0, 0) := by decide +kernel
theorem f292_163 : mFetch 292 163 = some (.if_icmp .ge 7, 3, 170, 0, 0, 0) := by decide +kernel
theorem f292_166 : mFetch 292 166 = some (.iconst 1, 1, 0, 0, 0, 0) := by decide +kernel
theorem f292_167 : mFetch 292 167 = some (.goto 4, 3, 171, 0, 0, 0) := by decide +kernel
theorem f292_170 : mFetch 292 170 = some (.iconst 0, 1, 0, 0, 0, 0) := by decide +kernel
theorem f292_171 : mFetch 292 171 = some (.iadd, 1, 0, 0, 0, 0) := by decide +kernel
theorem f292_172 : mFetch 292 172 = some (.istore 6, 2, 0, 0, 0, 0) := by decide +kernel
theorem f292_174 : mFetch 292 174 = some (.iinc 7 1, 3, 0, 0, 0, 0) := by decide +kernel
theorem f292_177 : mFetch 292 177 = some (.goto (-83), 3, 94, 0, 0, 0) := by decide +kernel
theorem f292_180 : mFetch 292 180 = some (.iload 4, 2, 0, 0, 0, 0) := by decide +kernel
theorem f292_182 : mFetch 292 182 = some (.iload_n 3, 1, 0, 0, 0, 0) := by decide +kernel
theorem f292_183 : mFetch 292 183 = some (.idiv, 1, 0, 0, 0, 0) := by decide +kernel
theorem f292_184 : mFetch 292 184 = some (.iload 6, 2, 0, 0, 0, 0) := by decide +kernel
theorem f292_186 : mFetch 292 186 = some (.iload 5, 2, 0, 0, 0, 0) := by decide +kernel
theorem f292_188 : mFetch 292 188 = some (.if_icmp .ge 7, 3, 195, 0, 0, 0) := by decide +kernel
theorem f292_191 : mFetch 292 191 = some (.iconst 1, 1, 0, 0, 0, 0) := by decide +kernel
theorem f292_192 : mFetch 292 192 = some (.goto 4, 3, 196, 0, 0, 0) := by decide +kernel
theorem f292_195 : mFetch 292 195 = some (.iconst 0, 1, 0, 0, 0, 0) := by decide +kernel
theorem f292_196 : mFetch 292 196 = some (.iadd, 1, 0, 0, 0, 0) := by decide +kernel
theorem f292_197 : mFetch 292 197 = some (.ireturn, 1, 0, 0, 0, 0) := by decide +kernel
theorem b292_0 {X : (Nat → Int) × Nat} {d : Nat} {s : mSt} {Q : mQ} {x1 : Int} {x2 : Int} (h_1 : Sp X d 214 [mR 407, mI x2] s (fun r s' => ∃ v : Int, r = some (mI v) ∧ Wp X (d + 1) 292 5 [some (mR 407), some (mI x1), some (mI x2), none, none, none, none, none, none] [mI v] s' Q)) : Wp X (d + 1) 292 0 [some (mR 407), some (mI x1), some (mI x2), none, none, none, none, none, none] [] s Q := Wp_step k292 f292_0 (Wp_step k292 f292_1 (Wp_step k292 f292_2 ⟨⟨kf_407, Nat.le_of_ble_eq_true rfl⟩, Nat.le_refl _, _, rfl, Sp_E h_1⟩))
theorem b292_5 {X : (Nat → Int) × Nat} {d : Nat} {s : mSt} {Q : mQ} {x1 : Int} {x2 : Int} {xt0 : Int} (h_1 : xt0 = 0 → Wp X d 292 20 [some (mR 407), some (mI x1), some (mI x2), none, none, none, none, none, none] [] s Q) (h_2 : ¬ xt0 = 0 → Wp X d 292 8 [some (mR 407), some (mI x1), some (mI x2), none, none, none, none, none, none] [] s Q) : Wp X d 292 5 [some (mR 407), some (mI x1), some (mI x2), none, none, none, none, none, none] [mI xt0] s Q := Wp_step k292 f292_5 ⟨h_1, h_2⟩
theorem b292_8 {X : (Nat → Int) × Nat} {d : Nat} {s : mSt} {Q : mQ} {x1 : Int} {x2 : Int} (h_1 : Sp X d 167 [mJ x1, mJ 0, mJ 9999] s (fun r s' => ∃ v : Int, r = some (mI v) ∧ Wp X (d + 1) 292 17 [some (mR 407), some (mI x1), some (mI x2), none, none, none, none, none, none] [mI v] s' Q)) : Wp X (d + 1) 292 8 [some (mR 407), some (mI x1), some (mI x2), none, none, none, none, none, none] [] s Q := Wp_step k292 f292_8 (Wp_step k292 f292_9 (Wp_step k292 f292_10 (Wp_step k292 f292_11 (Wp_step k292 f292_14 ⟨⟨Nat.le_of_ble_eq_true rfl, Nat.le_refl _⟩, _, rfl, Sp_E h_1⟩))))
theorem b292_17 {X : (Nat → Int) × Nat} {d : Nat} {s : mSt} {Q : mQ} {x1 : Int} {x2 : Int} {xt0 : Int} (h_1 : ¬ xt0 = 0 → Wp X d 292 22 [some (mR 407), some (mI x1), some (mI x2), none, none, none, none, none, none] [] s Q) (h_2 : xt0 = 0 → Wp X d 292 20 [some (mR 407), some (mI x1), some (mI x2), none, none, none, none, none, none] [] s Q) : Wp X d 292 17 [some (mR 407), some (mI x1), some (mI x2), none, none, none, none, none, none] [mI xt0] s Q := Wp_step k292 f292_17 ⟨h_1, h_2⟩
theorem b292_20 {X : (Nat → Int) × Nat} {d : Nat} {s : mSt} {Q : mQ} {x1 : Int} {x2 : Int} (h_1 : Q (some (mI (-1))) s) : Wp X d 292 20 [some (mR 407), some (mI x1), some (mI x2), none, none, none, none, none, none] [] s Q := Wp_step k292 f292_20 (Wp_step k292 f292_21 ⟨⟨rfl, trivial⟩, h_1⟩)
theorem b292_22 {X : (Nat → Int) × Nat} {d : Nat} {s : mSt} {Q : mQ} {x1 : Int} {x2 : Int} (h_1 : Wp X d 292 27 [some (mR 407), some (mI x1), some (mI x2), some (mI 0), some (mI 0), none, none, none, none] [] s Q) : Wp X d 292 22 [some (mR 407), some (mI x1), some (mI x2), none, none, none, none, none, none] [] s Q := Wp_step k292 f292_22 (Wp_step k292 f292_23 (Wp_step k292 f292_24 (Wp_step k292 f292_25 (h_1))))
theorem b292_27 {X : (Nat → Int) × Nat} {d : Nat} {s : mSt} {Q : mQ} {x1 : Int} {x2 : Int} {x3 : Int} {x4 : Int} (h_1 : (s 417 4) ≤ x4 → Wp X d 292 66 [some (mR 407), some (mI x1), some (mI x2), some (mI x3), some (mI x4), none, none, none, none] [] s Q) (h_2 : ¬ (s 417 4) ≤ x4 → Wp X d 292 38 [some (mR 407), some (mI x1), some (mI x2), some (mI x3), some (mI x4), none, none, none, none] [] s Q) : Wp X d 292 27 [some (mR 407), some (mI x1), some (mI x2), some (mI x3), some (mI x4), none, none, none, none] [] s Q := Wp_step k292 f292_27 (Wp_step k292 f292_29 (Wp_step k292 f292_30 ⟨kf_407, 417, rf_407_20, Wp_step k292 f292_33 (Wp_step k292 f292_34 ⟨166, af_417, ⟨by decide, by decide⟩, Wp_step k292 f292_35 ⟨h_1, h_2⟩⟩)⟩))
theorem b292_38 {X : (Nat → Int) × Nat} {d : Nat} {s : mSt} {Q : mQ} {x1 : Int} {x2 : Int} {x3 : Int} {x4 : Int} (h_1 : Sp X d 216 [mR 407, mI x4] s (fun r s' => ∃ v : Int, r = some (mI v) ∧ Wp X (d + 1) 292 45 [some (mR 407), some (mI x1), some (mI x2), some (mI x3), some (mI x4), none, none, none, none] [mI v, mI x3] s' Q)) : Wp X (d + 1) 292 38 [some (mR 407), some (mI x1), some (mI x2), some (mI x3), some (mI x4), none, none, none, none] [] s Q := Wp_step k292 f292_38 (Wp_step k292 f292_39 (Wp_step k292 f292_40 (Wp_step k292 f292_42 ⟨⟨kf_407, Nat.le_of_ble_eq_true rfl⟩, Nat.le_refl _, _, rfl, Sp_E h_1⟩)))
theorem b292_45 {X : (Nat → Int) × Nat} {d : Nat} {s : mSt} {Q : mQ} {x1 : Int} {x2 : Int} {x3 : Int} {x4 : Int} {xt0 : Int} {xt1 : Int} (h_1 : xt1 = 0 → Wp X d 292 57 [some (mR 407), some (mI x1), some (mI x2), some (mI x3), some (mI x4), none, none, none, none] [mI xt0] s Q) (h_2 : ¬ xt1 = 0 → Wp X d 292 48 [some (mR 407), some (mI x1), some (mI x2), some (mI x3), some (mI x4), none, none, none, none] [mI xt0] s Q) : Wp X d 292 45 [some (mR 407), some (mI x1), some (mI x2), some (mI x3), some (mI x4), none, none, none, none] [mI xt1, mI xt0] s Q := Wp_step k292 f292_45 ⟨h_1, h_2⟩
theorem b292_48 {X : (Nat → Int) × Nat} {d : Nat} {s : mSt} {Q : mQ} {x1 : Int} {x2 : Int} {x3 : Int} {x4 : Int} {xt0 : Int} (h_1 : Sp X d 220 [mR 407, mI x4] s (fun r s' => ∃ v : Int, r = some (mI v) ∧ Wp X (d + 1) 292 54 [some (mR 407), some (mI x1), some (mI x2), some (mI x3), some (mI x4), none, none, none, none] [mI v, mI xt0] s' Q)) : Wp X (d + 1) 292 48 [some (mR 407), some (mI x1), some (mI x2), some (mI x3), some (mI x4), none, none, none, none] [mI xt0] s Q := Wp_step k292 f292_48 (Wp_step k292 f292_49 (Wp_step k292 f292_51 ⟨⟨kf_407, Nat.le_of_ble_eq_true rfl⟩, Nat.le_refl _, _, rfl, Sp_E h_1⟩))
theorem b292_54 {X : (Nat → Int) × Nat} {d : Nat} {s : mSt} {Q : mQ} {x1 : Int} {x2 : Int} {x3 : Int} {x4 : Int} {xt0 : Int} {xt1 : Int} (h_1 : Wp X d 292 58 [some (mR 407), some (mI x1), some (mI x2), some (mI x3), some (mI x4), none, none, none, none] [mI xt1, mI xt0] s Q) : Wp X d 292 54 [some (mR 407), some (mI x1), some (mI x2), some (mI x3), some (mI x4), none, none, none, none] [mI xt1, mI xt0] s Q := Wp_step k292 f292_54 (h_1)
theorem b292_57 {X : (Nat → Int) × Nat} {d : Nat} {s : mSt} {Q : mQ} {x1 : Int} {x2 : Int} {x3 : Int} {x4 : Int} {xt0 : Int} (h_1 : Wp X d 292 58 [some (mR 407), some (mI x1), some (mI x2), some (mI x3), some (mI x4), none, none, none, none] [mI 0, mI xt0] s Q) : Wp X d 292 57 [some (mR 407), some (mI x1), some (mI x2), some (mI x3), some (mI x4), none, none, none, none] [mI xt0] s Q := Wp_step k292 f292_57 (h_1)
theorem b292_58 {X : (Nat → Int) × Nat} {d : Nat} {s : mSt} {Q : mQ} {x1 : Int} {x2 : Int} {x3 : Int} {x4 : Int} {xt0 : Int} {xt1 : Int} (h_1 : Wp X d 292 27 [some (mR 407), some (mI x1), some (mI x2), some (mI (w32 (xt0 + xt1))), some (mI (w32 (x4 + 1))), none, none, none, none] [] s Q) : Wp X d 292 58 [some (mR 407), some (mI x1), some (mI x2), some (mI x3), some (mI x4), none, none, none, none] [mI xt1, mI xt0] s Q := Wp_step k292 f292_58 (Wp_step k292 f292_59 (Wp_step k292 f292_60 (Wp_step k292 f292_63 (h_1))))
theorem b292_66 {X : (Nat → Int) × Nat} {d : Nat} {s : mSt} {Q : mQ} {x1 : Int} {x2 : Int} {x3 : Int} {x4 : Int} (h_1 : Sp X d 216 [mR 407, mI x2] s (fun r s' => ∃ v : Int, r = some (mI v) ∧ Wp X (d + 1) 292 71 [some (mR 407), some (mI x1), some (mI x2), some (mI x3), some (mI x4), none, none, none, none] [mI v] s' Q)) : Wp X (d + 1) 292 66 [some (mR 407), some (mI x1), some (mI x2), some (mI x3), some (mI x4), none, none, none, none] [] s Q := Wp_step k292 f292_66 (Wp_step k292 f292_67 (Wp_step k292 f292_68 ⟨⟨kf_407, Nat.le_of_ble_eq_true rfl⟩, Nat.le_refl _, _, rfl, Sp_E h_1⟩))
theorem b292_71 {X : (Nat → Int) × Nat} {d : Nat} {s : mSt} {Q : mQ} {x1 : Int} {x2 : Int} {x3 : Int} {x4 : Int} {xt0 : Int} (h_1 : ¬ xt0 = 0 → Wp X d 292 76 [some (mR 407), some (mI x1), some (mI x2), some (mI x3), some (mI x4), none, none, none, none] [] s Q) (h_2 : xt0 = 0 → Wp X d 292 74 [some (mR 407), some (mI x1), some (mI x2), some (mI x3), some (mI x4), none, none, none, none] [] s Q) : Wp X d 292 71 [some (mR 407), some (mI x1), some (mI x2), some (mI x3), some (mI x4), none, none, none, none] [mI xt0] s Q := Wp_step k292 f292_71 ⟨h_1, h_2⟩
theorem b292_74 {X : (Nat → Int) × Nat} {d : Nat} {s : mSt} {Q : mQ} {x1 : Int} {x2 : Int} {x3 : Int} {x4 : Int} (h_1 : Q (some (mI 0)) s) : Wp X d 292 74 [some (mR 407), some (mI x1), some (mI x2), some (mI x3), some (mI x4), none, none, none, none] [] s Q := Wp_step k292 f292_74 (Wp_step k292 f292_75 ⟨⟨rfl, trivial⟩, h_1⟩)
theorem b292_76 {X : (Nat → Int) × Nat} {d : Nat} {s : mSt} {Q : mQ} {x1 : Int} {x2 : Int} {x3 : Int} {x4 : Int} (h_1 : Sp X d 220 [mR 407, mI x2] s (fun r s' => ∃ v : Int, r = some (mI v) ∧ Wp X (d + 1) 292 82 [some (mR 407), some (mI x1), some (mI x2), some (mI x3), some (mI x4), none, none, none, none] [mI v, mI x1] s' Q)) : Wp X (d + 1) 292 76 [some (mR 407), some (mI x1), some (mI x2), some (mI x3), some (mI x4), none, none, none, none] [] s Q := Wp_step k292 f292_76 (Wp_step k292 f292_77 (Wp_step k292 f292_78 (Wp_step k292 f292_79 ⟨⟨kf_407, Nat.le_of_ble_eq_true rfl⟩, Nat.le_refl _, _, rfl, Sp_E h_1⟩)))
theorem b292_82 {X : (Nat → Int) × Nat} {d : Nat} {s : mSt} {Q : mQ} {x1 : Int} {x2 : Int} {x3 : Int} {x4 : Int} {xt0 : Int} {xt1 : Int} (h_1 : Wp X d 292 94 [some (mR 407), some (mI x1), some (mI x2), some (mI x3), some (mI (w32 (xt0 * xt1))), some (mI x1), some (mI 0), some (mI 0), none] [] s Q) : Wp X d 292 82 [some (mR 407), some (mI x1), some (mI x2), some (mI x3), some (mI x4), none, none, none, none] [mI xt1, mI xt0] s Q := Wp_step k292 f292_82 (Wp_step k292 f292_83 (Wp_step k292 f292_85 (Wp_step k292 f292_86 (Wp_step k292 f292_88 (Wp_step k292 f292_89 (Wp_step k292 f292_91 (Wp_step k292 f292_92 (h_1))))))))
theorem b292_94 {X : (Nat → Int) × Nat} {d : Nat} {s : mSt} {Q : mQ} {x1 : Int} {x2 : Int} {x3 : Int} {x4 : Int} {x5 : Int} {x6 : Int} {x7 : Int} (h_1 : (s 417 4) ≤ x7 → Wp X d 292 180 [some (mR 407), some (mI x1), some (mI x2), some (mI x3), some (mI x4), some (mI x5), some (mI x6), some (mI x7), none] [] s Q) (h_2 : ¬ (s 417 4) ≤ x7 → Wp X d 292 105 [some (mR 407), some (mI x1), some (mI x2), some (mI x3), some (mI x4), some (mI x5), some (mI x6), some (mI x7), none] [] s Q) : Wp X d 292 94 [some (mR 407), some (mI x1), some (mI x2), some (mI x3), some (mI x4), some (mI x5), some (mI x6), some (mI x7), none] [] s Q := Wp_step k292 f292_94 (Wp_step k292 f292_96 (Wp_step k292 f292_97 ⟨kf_407, 417, rf_407_20, Wp_step k292 f292_100 (Wp_step k292 f292_101 ⟨166, af_417, ⟨by decide, by decide⟩, Wp_step k292 f292_102 ⟨h_1, h_2⟩⟩)⟩))
theorem b292_105 {X : (Nat → Int) × Nat} {d : Nat} {s : mSt} {Q : mQ} {x1 : Int} {x2 : Int} {x3 : Int} {x4 : Int} {x5 : Int} {x6 : Int} {x7 : Int} (h_1 : Sp X d 216 [mR 407, mI x7] s (fun r s' => ∃ v : Int, r = some (mI v) ∧ Wp X (d + 1) 292 111 [some (mR 407), some (mI x1), some (mI x2), some (mI x3), some (mI x4), some (mI x5), some (mI x6), some (mI x7), none] [mI v] s' Q)) : Wp X (d + 1) 292 105 [some (mR 407), some (mI x1), some (mI x2), some (mI x3), some (mI x4), some (mI x5), some (mI x6), some (mI x7), none] [] s Q := Wp_step k292 f292_105 (Wp_step k292 f292_106 (Wp_step k292 f292_108 ⟨⟨kf_407, Nat.le_of_ble_eq_true rfl⟩, Nat.le_refl _, _, rfl, Sp_E h_1⟩))
theorem b292_111 {X : (Nat → Int) × Nat} {d : Nat} {s : mSt} {Q : mQ} {x1 : Int} {x2 : Int} {x3 : Int} {x4 : Int} {x5 : Int} {x6 : Int} {x7 : Int} {xt0 : Int} (h_1 : ¬ xt0 = 0 → Wp X d 292 117 [some (mR 407), some (mI x1), some (mI x2), some (mI x3), some (mI x4), some (mI x5), some (mI x6), some (mI x7), none] [] s Q) (h_2 : xt0 = 0 → Wp X d 292 114 [some (mR 407), some (mI x1), some (mI x2), some (mI x3), some (mI x4), some (mI x5), some (mI x6), some (mI x7), none] [] s Q) : Wp X d 292 111 [some (mR 407), some (mI x1), some (mI x2), some (mI x3), some (mI x4), some (mI x5), some (mI x6), some (mI x7), none] [mI xt0] s Q := Wp_step k292 f292_111 ⟨h_1, h_2⟩
theorem b292_114 {X : (Nat → Int) × Nat} {d : Nat} {s : mSt} {Q : mQ} {x1 : Int} {x2 : Int} {x3 : Int} {x4 : Int} {x5 : Int} {x6 : Int} {x7 : Int} (h_1 : Wp X d 292 174 [some (mR 407), some (mI x1), some (mI x2), some (mI x3), some (mI x4), some (mI x5), some (mI x6), some (mI x7), none] [] s Q) : Wp X d 292 114 [some (mR 407), some (mI x1), some (mI x2), some (mI x3), some (mI x4), some (mI x5), some (mI x6), some (mI x7), none] [] s Q := Wp_step k292 f292_114 (h_1)
theorem b292_117 {X : (Nat → Int) × Nat} {d : Nat} {s : mSt} {Q : mQ} {x1 : Int} {x2 : Int} {x3 : Int} {x4 : Int} {x5 : Int} {x6 : Int} {x7 : Int} (h_1 : Sp X d 220 [mR 407, mI x7] s (fun r s' => ∃ v : Int, r = some (mI v) ∧ Wp X (d + 1) 292 124 [some (mR 407), some (mI x1), some (mI x2), some (mI x3), some (mI x4), some (mI x5), some (mI x6), some (mI x7), none] [mI v, mI x1] s' Q)) : Wp X (d + 1) 292 117 [some (mR 407), some (mI x1), some (mI x2), some (mI x3), some (mI x4), some (mI x5), some (mI x6), some (mI x7), none] [] s Q := Wp_step k292 f292_117 (Wp_step k292 f292_118 (Wp_step k292 f292_119 (Wp_step k292 f292_121 ⟨⟨kf_407, Nat.le_of_ble_eq_true rfl⟩, Nat.le_refl _, _, rfl, Sp_E h_1⟩)))
theorem b292_124 {X : (Nat → Int) × Nat} {d : Nat} {s : mSt} {Q : mQ} {x1 : Int} {x2 : Int} {x3 : Int} {x4 : Int} {x5 : Int} {x6 : Int} {x7 : Int} {xt0 : Int} {xt1 : Int} (h_1 : x3 ≠ 0) (h_2 : x3 ≠ 0) (h_3 : x3 ≠ 0) (h_4 : (Int.tmod x4 x3) < (Int.tmod (w32 (xt0 * xt1)) x3) → Wp X d 292 166 [some (mR 407), some (mI x1), some (mI x2), some (mI x3), some (mI x4), some (mI (w32 (x5 - (w32 (Int.tdiv (w32 (xt0 * xt1)) x3))))), some (mI x6), some (mI x7), some (mI (w32 (xt0 * xt1)))] [mI x6] s Q) (h_5 : ¬ (Int.tmod x4 x3) < (Int.tmod (w32 (xt0 * xt1)) x3) → Wp X d 292 149 [some (mR 407), some (mI x1), some (mI x2), some (mI x3), some (mI x4), some (mI (w32 (x5 - (w32 (Int.tdiv (w32 (xt0 * xt1)) x3))))), some (mI x6), some (mI x7), some (mI (w32 (xt0 * xt1)))] [mI x6] s Q) : Wp X d 292 124 [some (mR 407), some (mI x1), some (mI x2), some (mI x3), some (mI x4), some (mI x5), some (mI x6), some (mI x7), none] [mI xt1, mI xt0] s Q := Wp_step k292 f292_124 (Wp_step k292 f292_125 (Wp_step k292 f292_127 (Wp_step k292 f292_129 (Wp_step k292 f292_131 (Wp_step k292 f292_132 ⟨h_1, Wp_step k292 f292_133 (Wp_step k292 f292_134 (Wp_step k292 f292_136 (Wp_step k292 f292_138 (Wp_step k292 f292_140 (Wp_step k292 f292_141 ⟨h_2, Wp_step k292 f292_142 (Wp_step k292 f292_144 (Wp_step k292 f292_145 ⟨h_3, Wp_step k292 f292_146 ⟨h_4, h_5⟩⟩))⟩)))))⟩)))))
theorem b292_149 {X : (Nat → Int) × Nat} {d : Nat} {s : mSt} {Q : mQ} {x1 : Int} {x2 : Int} {x3 : Int} {x4 : Int} {x5 : Int} {x6 : Int} {x7 : Int} {x8 : Int} {xt0 : Int} (h_1 : x3 ≠ 0) (h_2 : x3 ≠ 0) (h_3 : ¬ (Int.tmod x8 x3) = (Int.tmod x4 x3) → Wp X d 292 170 [some (mR 407), some (mI x1), some (mI x2), some (mI x3), some (mI x4), some (mI x5), some (mI x6), some (mI x7), some (mI x8)] [mI xt0] s Q) (h_4 : (Int.tmod x8 x3) = (Int.tmod x4 x3) → Wp X d 292 160 [some (mR 407), some (mI x1), some (mI x2), some (mI x3), some (mI x4), some (mI x5), some (mI x6), some (mI x7), some (mI x8)] [mI xt0] s Q) : Wp X d 292 149 [some (mR 407), some (mI x1), some (mI x2), some (mI x3), some (mI x4), some (mI x5), some (mI x6), some (mI x7), some (mI x8)] [mI xt0] s Q := Wp_step k292 f292_149 (Wp_step k292 f292_151 (Wp_step k292 f292_152 ⟨h_1, Wp_step k292 f292_153 (Wp_step k292 f292_155 (Wp_step k292 f292_156 ⟨h_2, Wp_step k292 f292_157 ⟨h_3, h_4⟩⟩))⟩))
theorem b292_160 {X : (Nat → Int) × Nat} {d : Nat} {s : mSt} {Q : mQ} {x1 : Int} {x2 : Int} {x3 : Int} {x4 : Int} {x5 : Int} {x6 : Int} {x7 : Int} {x8 : Int} {xt0 : Int} (h_1 : x2 ≤ x7 → Wp X d 292 170 [some (mR 407), some (mI x1), some (mI x2), some (mI x3), some (mI x4), some (mI x5), some (mI x6), some (mI x7), some (mI x8)] [mI xt0] s Q) (h_2 : ¬ x2 ≤ x7 → Wp X d 292 166 [some (mR 407), some (mI x1), some (mI x2), some (mI x3), some (mI x4), some (mI x5), some (mI x6), some (mI x7), some (mI x8)] [mI xt0] s Q) : Wp X d 292 160 [some (mR 407), some (mI x1), some (mI x2), some (mI x3), some (mI x4), some (mI x5), some (mI x6), some (mI x7), some (mI x8)] [mI xt0] s Q := Wp_step k292 f292_160 (Wp_step k292 f292_162 (Wp_step k292 f292_163 ⟨h_1, h_2⟩))
theorem b292_166 {X : (Nat → Int) × Nat} {d : Nat} {s : mSt} {Q : mQ} {x1 : Int} {x2 : Int} {x3 : Int} {x4 : Int} {x5 : Int} {x6 : Int} {x7 : Int} {x8 : Int} {xt0 : Int} (h_1 : Wp X d 292 171 [some (mR 407), some (mI x1), some (mI x2), some (mI x3), some (mI x4), some (mI x5), some (mI x6), some (mI x7), some (mI x8)] [mI 1, mI xt0] s Q) : Wp X d 292 166 [some (mR 407), some (mI x1), some (mI x2), some (mI x3), some (mI x4), some (mI x5), some (mI x6), some (mI x7), some (mI x8)] [mI xt0] s Q := Wp_step k292 f292_166 (Wp_step k292 f292_167 (h_1))
theorem b292_170 {X : (Nat → Int) × Nat} {d : Nat} {s : mSt} {Q : mQ} {x1 : Int} {x2 : Int} {x3 : Int} {x4 : Int} {x5 : Int} {x6 : Int} {x7 : Int} {x8 : Int} {xt0 : Int} (h_1 : Wp X d 292 171 [some (mR 407), some (mI x1), some (mI x2), some (mI x3), some (mI x4), some (mI x5), some (mI x6), some (mI x7), some (mI x8)] [mI 0, mI xt0] s Q) : Wp X d 292 170 [some (mR 407), some (mI x1), some (mI x2), some (mI x3), some (mI x4), some (mI x5), some (mI x6), some (mI x7), some (mI x8)] [mI xt0] s Q := Wp_step k292 f292_170 (h_1)
theorem b292_171 {X : (Nat → Int) × Nat} {d : Nat} {s : mSt} {Q : mQ} {x1 : Int} {x2 : Int} {x3 : Int} {x4 : Int} {x5 : Int} {x6 : Int} {x7 : Int} {x8 : Int} {xt0 : Int} {xt1 : Int} (h_1 : Wp X d 292 174 [some (mR 407), some (mI x1), some (mI x2), some (mI x3), some (mI x4), some (mI x5), some (mI (w32 (xt0 + xt1))), some (mI x7), some (mI x8)] [] s Q) : Wp X d 292 171 [some (mR 407), some (mI x1), some (mI x2), some (mI x3), some (mI x4), some (mI x5), some (mI x6), some (mI x7), some (mI x8)] [mI xt1, mI xt0] s Q := Wp_step k292 f292_171 (Wp_step k292 f292_172 (h_1))
theorem b292_174 {X : (Nat → Int) × Nat} {d : Nat} {s : mSt} {Q : mQ} {x1 : Int} {x2 : Int} {x3 : Int} {x4 : Int} {x5 : Int} {x6 : Int} {x7 : Int} (h_1 : Wp X d 292 94 [some (mR 407), some (mI x1), some (mI x2), some (mI x3), some (mI x4), some (mI x5), some (mI x6), some (mI (w32 (x7 + 1))), none] [] s Q) : Wp X d 292 174 [some (mR 407), some (mI x1), some (mI x2), some (mI x3), some (mI x4), some (mI x5), some (mI x6), some (mI x7), none] [] s Q := Wp_step k292 f292_174 (Wp_step k292 f292_177 (h_1))
theorem b292_180 {X : (Nat → Int) × Nat} {d : Nat} {s : mSt} {Q : mQ} {x1 : Int} {x2 : Int} {x3 : Int} {x4 : Int} {x5 : Int} {x6 : Int} {x7 : Int} (h_1 : x3 ≠ 0) (h_2 : x5 ≤ x6 → Wp X d 292 195 [some (mR 407), some (mI x1), some (mI x2), some (mI x3), some (mI x4), some (mI x5), some (mI x6), some (mI x7), none] [mI (w32 (Int.tdiv x4 x3))] s Q) (h_3 : ¬ x5 ≤ x6 → Wp X d 292 191 [some (mR 407), some (mI x1), some (mI x2), some (mI x3), some (mI x4), some (mI x5), some (mI x6), some (mI x7), none] [mI (w32 (Int.tdiv x4 x3))] s Q) : Wp X d 292 180 [some (mR 407), some (mI x1), some (mI x2), some (mI x3), some (mI x4), some (mI x5), some (mI x6), some (mI x7), none] [] s Q := Wp_step k292 f292_180 (Wp_step k292 f292_182 (Wp_step k292 f292_183 ⟨h_1, Wp_step k292 f292_184 (Wp_step k292 f292_186 (Wp_step k292 f292_188 ⟨h_2, h_3⟩))⟩))
theorem b292_191 {X : (Nat → Int) × Nat} {d : Nat} {s : mSt} {Q : mQ} {x1 : Int} {x2 : Int} {x3 : Int} {x4 : Int} {x5 : Int} {x6 : Int} {x7 : Int} {xt0 : Int} (h_1 : Wp X d 292 196 [some (mR 407), some (mI x1), some (mI x2), some (mI x3), some (mI x4), some (mI x5), some (mI x6), some (mI x7), none] [mI 1, mI xt0] s Q) : Wp X d 292 191 [some (mR 407), some (mI x1), some (mI x2), some (mI x3), some (mI x4), some (mI x5), some (mI x6), some (mI x7), none] [mI xt0] s Q := Wp_step k292 f292_191 (Wp_step k292 f292_192 (h_1))
theorem b292_195 {X : (Nat → Int) × Nat} {d : Nat} {s : mSt} {Q : mQ} {x1 : Int} {x2 : Int} {x3 : Int} {x4 : Int} {x5 : Int} {x6 : Int} {x7 : Int} {xt0 : Int} (h_1 : Wp X d 292 196 [some (mR 407), some (mI x1), some (mI x2), some (mI x3), some (mI x4), some (mI x5), some (mI x6), some (mI x7), none] [mI 0, mI xt0] s Q) : Wp X d 292 195 [some (mR 407), some (mI x1), some (mI x2), some (mI x3), some (mI x4), some (mI x5), some (mI x6), some (mI x7), none] [mI xt0] s Q := Wp_step k292 f292_195 (h_1)
theorem b292_196 {X : (Nat → Int) × Nat} {d : Nat} {s : mSt} {Q : mQ} {x1 : Int} {x2 : Int} {x3 : Int} {x4 : Int} {x5 : Int} {x6 : Int} {x7 : Int} {xt0 : Int} {xt1 : Int} (h_1 : Q (some (mI (w32 (xt0 + xt1)))) s) : Wp X d 292 196 [some (mR 407), some (mI x1), some (mI x2), some (mI x3), some (mI x4), some (mI x5), some (mI x6), some (mI x7), none] [mI xt1, mI xt0] s Q := Wp_step k292 f292_196 (Wp_step k292 f292_197 ⟨⟨rfl, trivial⟩, h_1⟩)
theorem e292 {X : (Nat → Int) × Nat} {d : Nat} {s : mSt} {Q : mQ} {x1 : Int} {x2 : Int} (h : Wp X d 292 0 [some (mR 407), some (mI x1), some (mI x2), none, none, none, none, none, none] [] s Q) : Sp X d 292 [mR 407, mI x1, mI x2] s Q := Sp_of (show mCe 292 = 0 by decide +kernel) (by rw [show mML 292 = 9 by decide +kernel]; rfl) (Nat.le_trans (Nat.le_of_ble_eq_true (show Nat.ble (mArgs _).length 9 = true from rfl)) (show 9 ≤ mML 292 by decide +kernel)) h
-- 293 ClashDayModel.note(III)I
theorem k293 : mRk 293 = 1 := by decide +kernel
theorem f293_0 : mFetch 293 0 = some (.iload_n 1, 1, 0, 0, 0, 0) := by decide +kernel
theorem f293_1 : mFetch 293 1 = some (.iconst (-1), 1, 0, 0, 0, 0) := by decide +kernel
theorem f293_2 : mFetch 293 2 = some (.if_icmp .ne 14, 3, 16, 0, 0, 0) := by decide +kernel
theorem f293_5 : mFetch 293 5 = some (.aload_n 0, 1, 0, 0, 0, 0) := by decide +kernel
theorem f293_6 : mFetch 293 6 = some (.getfield 39, 3, 12, 20, 2, 1) := by decide +kernel
theorem f293_9 : mFetch 293 9 = some (.sipush 165, 3, 0, 0, 0, 0) := by decide +kernel
theorem f293_12 : mFetch 293 12 = some (.iconst 0, 1, 0, 0, 0, 0) := by decide +kernel
theorem f293_13 : mFetch 293 13 = some (.iastore, 1, 0, 0, 0, 0) := by decide +kernel
theorem f293_14 : mFetch 293 14 = some (.iconst 0, 1, 0, 0, 0, 0) := by decide +kernel
theorem f293_15 : mFetch 293 15 = some (.ireturn, 1, 0, 0, 0, 0) := by decide +kernel
theorem f293_16 : mFetch 293 16 = some (.aload_n 0, 1, 0, 0, 0, 0) := by decide +kernel
theorem f293_17 : mFetch 293 17 = some (.invokevirtual 354, 3, 212, 0, 1, 12) := by decide +kernel
theorem f293_20 : mFetch 293 20 = some (.ifCond .eq 52, 3, 72, 0, 0, 0) := by decide +kernel
theorem f293_23 : mFetch 293 23 = some (.iload_n 1, 1, 0, 0, 0, 0) := by decide +kernel
theorem f293_24 : mFetch 293 24 = some (.i2l, 1, 0, 0, 0, 0) := by decide +kernel
theorem f293_25 : mFetch 293 25 = some (.lconst 0, 1, 0, 0, 0, 0) := by decide +kernel
theorem f293_26 : mFetch 293 26 = some (.ldc2_w 461, 3, 9, 0, 0, 0) := by decide +kernel
theorem f293_29 : mFetch 293 29 = some (.invokestatic 151, 3, 167, 0, 3, 99) := by decide +kernel
theorem f293_32 : mFetch 293 32 = some (.ifCond .eq 40, 3, 72, 0, 0, 0) := by decide +kernel
theorem f293_35 : mFetch 293 35 = some (.iload_n 2, 1, 0, 0, 0, 0) := by decide +kernel
theorem f293_36 : mFetch 293 36 = some (.i2l, 1, 0, 0, 0, 0) := by decide +kernel
theorem f293_37 : mFetch 293 37 = some (.lconst 0, 1, 0, 0, 0, 0) := by decide +kernel
theorem f293_38 : mFetch 293 38 = some (.ldc2_w 357, 3, 29, 0, 0, 0) := by decide +kernel
theorem f293_41 : mFetch 293 41 = some (.invokestatic 151, 3, 167, 0, 3, 99) := by decide +kernel
theorem f293_44 : mFetch 293 44 = some (.ifCond .eq 28, 3, 72, 0, 0, 0) := by decide +kernel
theorem f293_47 : mFetch 293 47 = some (.iload_n 3, 1, 0, 0, 0, 0) := by decide +kernel
theorem f293_48 : mFetch 293 48 = some (.i2l, 1, 0, 0, 0, 0) := by decide +kernel
theorem f293_49 : mFetch 293 49 = some (.lconst 0, 1, 0, 0, 0, 0) := by decide +kernel
theorem f293_50 : mFetch 293 50 = some (.ldc2_w 461, 3, 9, 0, 0, 0) := by decide +kernel
theorem f293_53 : mFetch 293 53 = some (.invokestatic 151, 3, 167, 0, 3, 99) := by decide +kernel
theorem f293_56 : mFetch 293 56 = some (.ifCond .eq 16, 3, 72, 0, 0, 0) := by decide +kernel
theorem f293_59 : mFetch 293 59 = some (.aload_n 0, 1, 0, 0, 0, 0) := by decide +kernel
theorem f293_60 : mFetch 293 60 = some (.getfield 39, 3, 12, 20, 2, 1) := by decide +kernel
theorem f293_63 : mFetch 293 63 = some (.sipush 165, 3, 0, 0, 0, 0) := by decide +kernel
theorem f293_66 : mFetch 293 66 = some (.iaload, 1, 0, 0, 0, 0) := by decide +kernel
theorem f293_67 : mFetch 293 67 = some (.bipush 10, 2, 0, 0, 0, 0) := by decide +kernel
theorem f293_69 : mFetch 293 69 = some (.if_icmp .ne 6, 3, 75, 0, 0, 0) := by decide +kernel
theorem f293_72 : mFetch 293 72 = some (.bipush (-2), 2, 0, 0, 0, 0) := by decide +kernel
theorem f293_74 : mFetch 293 74 = some (.ireturn, 1, 0, 0, 0, 0) := by decide +kernel
theorem f293_75 : mFetch 293 75 = some (.sipush 135, 3, 0, 0, 0, 0) := by decide +kernel
theorem f293_78 : mFetch 293 78 = some (.iconst 3, 1, 0, 0, 0, 0) := by decide +kernel
theorem f293_79 : mFetch 293 79 = some (.aload_n 0, 1, 0, 0, 0, 0) := by decide +kernel
theorem f293_80 : mFetch 293 80 = some (.getfield 39, 3, 12, 20, 2, 1) := by decide +kernel
theorem f293_83 : mFetch 293 83 = some (.sipush 165, 3, 0, 0, 0, 0) := by decide +kernel
theorem f293_86 : mFetch 293 86 = some (.iaload, 1, 0, 0, 0, 0) := by decide +kernel
theorem f293_87 : mFetch 293 87 = some (.imul, 1, 0, 0, 0, 0) := by decide +kernel
theorem f293_88 : mFetch 293 88 = some (.iadd, 1, 0, 0, 0, 0) := by decide +kernel
theorem f293_89 : mFetch 293 89 = some (.istore 4, 2, 0, 0, 0, 0) := by decide +kernel
theorem f293_91 : mFetch 293 91 = some (.aload_n 0, 1, 0, 0, 0, 0) := by decide +kernel
theorem f293_92 : mFetch 293 92 = some (.getfield 39, 3, 12, 20, 2, 1) := by decide +kernel
theorem f293_95 : mFetch 293 95 = some (.iload 4, 2, 0, 0, 0, 0) := by decide +kernel
theorem f293_97 : mFetch 293 97 = some (.iload_n 1, 1, 0, 0, 0, 0) := by decide +kernel
theorem f293_98 : mFetch 293 98 = some (.iastore, 1, 0, 0, 0, 0) := by decide +kernel
theorem f293_99 : mFetch 293 99 = some (.aload_n 0, 1, 0, 0, 0, 0) := by decide +kernel
theorem f293_100 : mFetch 293 100 = some (.getfield 39, 3, 12, 20, 2, 1) := by decide +kernel
theorem f293_103 : mFetch 293 103 = some (.iload 4, 2, 0, 0, 0, 0) := by decide +kernel
theorem f293_105 : mFetch 293 105 = some (.iconst 1, 1, 0, 0, 0, 0) := by decide +kernel
theorem f293_106 : mFetch 293 106 = some (.iadd, 1, 0, 0, 0, 0) := by decide +kernel
theorem f293_107 : mFetch 293 107 = some (.iload_n 2, 1, 0, 0, 0, 0) := by decide +kernel
theorem f293_108 : mFetch 293 108 = some (.iastore, 1, 0, 0, 0, 0) := by decide +kernel
theorem f293_109 : mFetch 293 109 = some (.aload_n 0, 1, 0, 0, 0, 0) := by decide +kernel
theorem f293_110 : mFetch 293 110 = some (.getfield 39, 3, 12, 20, 2, 1) := by decide +kernel
theorem f293_113 : mFetch 293 113 = some (.iload 4, 2, 0, 0, 0, 0) := by decide +kernel
theorem f293_115 : mFetch 293 115 = some (.iconst 2, 1, 0, 0, 0, 0) := by decide +kernel
theorem f293_116 : mFetch 293 116 = some (.iadd, 1, 0, 0, 0, 0) := by decide +kernel
theorem f293_117 : mFetch 293 117 = some (.iload_n 3, 1, 0, 0, 0, 0) := by decide +kernel
theorem f293_118 : mFetch 293 118 = some (.iastore, 1, 0, 0, 0, 0) := by decide +kernel
theorem f293_119 : mFetch 293 119 = some (.aload_n 0, 1, 0, 0, 0, 0) := by decide +kernel
theorem f293_120 : mFetch 293 120 = some (.getfield 39, 3, 12, 20, 2, 1) := by decide +kernel
theorem f293_123 : mFetch 293 123 = some (.sipush 165, 3, 0, 0, 0, 0) := by decide +kernel
theorem f293_126 : mFetch 293 126 = some (.dup2, 1, 0, 0, 0, 0) := by decide +kernel
theorem f293_127 : mFetch 293 127 = some (.iaload, 1, 0, 0, 0, 0) := by decide +kernel
theorem f293_128 : mFetch 293 128 = some (.iconst 1, 1, 0, 0, 0, 0) := by decide +kernel
theorem f293_129 : mFetch 293 129 = some (.iadd, 1, 0, 0, 0, 0) := by decide +kernel
theorem f293_130 : mFetch 293 130 = some (.iastore, 1, 0, 0, 0, 0) := by decide +kernel
theorem f293_131 : mFetch 293 131 = some (.aload_n 0, 1, 0, 0, 0, 0) := by decide +kernel
theorem f293_132 : mFetch 293 132 = some (.getfield 39, 3, 12, 20, 2, 1) := by decide +kernel
theorem f293_135 : mFetch 293 135 = some (.sipush 165, 3, 0, 0, 0, 0) := by decide +kernel
theorem f293_138 : mFetch 293 138 = some (.iaload, 1, 0, 0, 0, 0) := by decide +kernel
theorem f293_139 : mFetch 293 139 = some (.ireturn, 1, 0, 0, 0, 0) := by decide +kernel
theorem b293_0 {X : (Nat → Int) × Nat} {d : Nat} {s : mSt} {Q : mQ} {x1 : Int} {x2 : Int} {x3 : Int} (h_1 : ¬ x1 = (-1) → Wp X d 293 16 [some (mR 407), some (mI x1), some (mI x2), some (mI x3), none] [] s Q) (h_2 : x1 = (-1) → Wp X d 293 5 [some (mR 407), some (mI x1), some (mI x2), some (mI x3), none] [] s Q) : Wp X d 293 0 [some (mR 407), some (mI x1), some (mI x2), some (mI x3), none] [] s Q := Wp_step k293 f293_0 (Wp_step k293 f293_1 (Wp_step k293 f293_2 ⟨h_1, h_2⟩))
theorem b293_5 {X : (Nat → Int) × Nat} {d : Nat} {s : mSt} {Q : mQ} {x1 : Int} {x2 : Int} {x3 : Int} (h_1 : Q (some (mI 0)) (uS s 417 165 0)) : Wp X d 293 5 [some (mR 407), some (mI x1), some (mI x2), some (mI x3), none] [] s Q := Wp_step k293 f293_5 (Wp_step k293 f293_6 ⟨kf_407, 417, rf_407_20, Wp_step k293 f293_9 (Wp_step k293 f293_12 (Wp_step k293 f293_13 ⟨166, af_417, ⟨by decide, by decide⟩, Wp_step k293 f293_14 (Wp_step k293 f293_15 ⟨⟨rfl, trivial⟩, h_1⟩)⟩))⟩)
theorem b293_16 {X : (Nat → Int) × Nat} {d : Nat} {s : mSt} {Q : mQ} {x1 : Int} {x2 : Int} {x3 : Int} (h_1 : Sp X d 212 [mR 407] s (fun r s' => ∃ v : Int, r = some (mI v) ∧ Wp X (d + 1) 293 20 [some (mR 407), some (mI x1), some (mI x2), some (mI x3), none] [mI v] s' Q)) : Wp X (d + 1) 293 16 [some (mR 407), some (mI x1), some (mI x2), some (mI x3), none] [] s Q := Wp_step k293 f293_16 (Wp_step k293 f293_17 ⟨⟨kf_407, Nat.le_of_ble_eq_true rfl⟩, Nat.le_refl _, _, rfl, Sp_E h_1⟩)
theorem b293_20 {X : (Nat → Int) × Nat} {d : Nat} {s : mSt} {Q : mQ} {x1 : Int} {x2 : Int} {x3 : Int} {xt0 : Int} (h_1 : xt0 = 0 → Wp X d 293 72 [some (mR 407), some (mI x1), some (mI x2), some (mI x3), none] [] s Q) (h_2 : ¬ xt0 = 0 → Wp X d 293 23 [some (mR 407), some (mI x1), some (mI x2), some (mI x3), none] [] s Q) : Wp X d 293 20 [some (mR 407), some (mI x1), some (mI x2), some (mI x3), none] [mI xt0] s Q := Wp_step k293 f293_20 ⟨h_1, h_2⟩
theorem b293_23 {X : (Nat → Int) × Nat} {d : Nat} {s : mSt} {Q : mQ} {x1 : Int} {x2 : Int} {x3 : Int} (h_1 : Sp X d 167 [mJ x1, mJ 0, mJ 9] s (fun r s' => ∃ v : Int, r = some (mI v) ∧ Wp X (d + 1) 293 32 [some (mR 407), some (mI x1), some (mI x2), some (mI x3), none] [mI v] s' Q)) : Wp X (d + 1) 293 23 [some (mR 407), some (mI x1), some (mI x2), some (mI x3), none] [] s Q := Wp_step k293 f293_23 (Wp_step k293 f293_24 (Wp_step k293 f293_25 (Wp_step k293 f293_26 (Wp_step k293 f293_29 ⟨⟨Nat.le_of_ble_eq_true rfl, Nat.le_refl _⟩, _, rfl, Sp_E h_1⟩))))
theorem b293_32 {X : (Nat → Int) × Nat} {d : Nat} {s : mSt} {Q : mQ} {x1 : Int} {x2 : Int} {x3 : Int} {xt0 : Int} (h_1 : xt0 = 0 → Wp X d 293 72 [some (mR 407), some (mI x1), some (mI x2), some (mI x3), none] [] s Q) (h_2 : ¬ xt0 = 0 → Wp X d 293 35 [some (mR 407), some (mI x1), some (mI x2), some (mI x3), none] [] s Q) : Wp X d 293 32 [some (mR 407), some (mI x1), some (mI x2), some (mI x3), none] [mI xt0] s Q := Wp_step k293 f293_32 ⟨h_1, h_2⟩
theorem b293_35 {X : (Nat → Int) × Nat} {d : Nat} {s : mSt} {Q : mQ} {x1 : Int} {x2 : Int} {x3 : Int} (h_1 : Sp X d 167 [mJ x2, mJ 0, mJ 29] s (fun r s' => ∃ v : Int, r = some (mI v) ∧ Wp X (d + 1) 293 44 [some (mR 407), some (mI x1), some (mI x2), some (mI x3), none] [mI v] s' Q)) : Wp X (d + 1) 293 35 [some (mR 407), some (mI x1), some (mI x2), some (mI x3), none] [] s Q := Wp_step k293 f293_35 (Wp_step k293 f293_36 (Wp_step k293 f293_37 (Wp_step k293 f293_38 (Wp_step k293 f293_41 ⟨⟨Nat.le_of_ble_eq_true rfl, Nat.le_refl _⟩, _, rfl, Sp_E h_1⟩))))
theorem b293_44 {X : (Nat → Int) × Nat} {d : Nat} {s : mSt} {Q : mQ} {x1 : Int} {x2 : Int} {x3 : Int} {xt0 : Int} (h_1 : xt0 = 0 → Wp X d 293 72 [some (mR 407), some (mI x1), some (mI x2), some (mI x3), none] [] s Q) (h_2 : ¬ xt0 = 0 → Wp X d 293 47 [some (mR 407), some (mI x1), some (mI x2), some (mI x3), none] [] s Q) : Wp X d 293 44 [some (mR 407), some (mI x1), some (mI x2), some (mI x3), none] [mI xt0] s Q := Wp_step k293 f293_44 ⟨h_1, h_2⟩
theorem b293_47 {X : (Nat → Int) × Nat} {d : Nat} {s : mSt} {Q : mQ} {x1 : Int} {x2 : Int} {x3 : Int} (h_1 : Sp X d 167 [mJ x3, mJ 0, mJ 9] s (fun r s' => ∃ v : Int, r = some (mI v) ∧ Wp X (d + 1) 293 56 [some (mR 407), some (mI x1), some (mI x2), some (mI x3), none] [mI v] s' Q)) : Wp X (d + 1) 293 47 [some (mR 407), some (mI x1), some (mI x2), some (mI x3), none] [] s Q := Wp_step k293 f293_47 (Wp_step k293 f293_48 (Wp_step k293 f293_49 (Wp_step k293 f293_50 (Wp_step k293 f293_53 ⟨⟨Nat.le_of_ble_eq_true rfl, Nat.le_refl _⟩, _, rfl, Sp_E h_1⟩))))
theorem b293_56 {X : (Nat → Int) × Nat} {d : Nat} {s : mSt} {Q : mQ} {x1 : Int} {x2 : Int} {x3 : Int} {xt0 : Int} (h_1 : xt0 = 0 → Wp X d 293 72 [some (mR 407), some (mI x1), some (mI x2), some (mI x3), none] [] s Q) (h_2 : ¬ xt0 = 0 → Wp X d 293 59 [some (mR 407), some (mI x1), some (mI x2), some (mI x3), none] [] s Q) : Wp X d 293 56 [some (mR 407), some (mI x1), some (mI x2), some (mI x3), none] [mI xt0] s Q := Wp_step k293 f293_56 ⟨h_1, h_2⟩
theorem b293_59 {X : (Nat → Int) × Nat} {d : Nat} {s : mSt} {Q : mQ} {x1 : Int} {x2 : Int} {x3 : Int} (h_1 : ¬ (s 417 165) = 10 → Wp X d 293 75 [some (mR 407), some (mI x1), some (mI x2), some (mI x3), none] [] s Q) (h_2 : (s 417 165) = 10 → Wp X d 293 72 [some (mR 407), some (mI x1), some (mI x2), some (mI x3), none] [] s Q) : Wp X d 293 59 [some (mR 407), some (mI x1), some (mI x2), some (mI x3), none] [] s Q := Wp_step k293 f293_59 (Wp_step k293 f293_60 ⟨kf_407, 417, rf_407_20, Wp_step k293 f293_63 (Wp_step k293 f293_66 ⟨166, af_417, ⟨by decide, by decide⟩, Wp_step k293 f293_67 (Wp_step k293 f293_69 ⟨h_1, h_2⟩)⟩)⟩)
theorem b293_72 {X : (Nat → Int) × Nat} {d : Nat} {s : mSt} {Q : mQ} {x1 : Int} {x2 : Int} {x3 : Int} (h_1 : Q (some (mI (-2))) s) : Wp X d 293 72 [some (mR 407), some (mI x1), some (mI x2), some (mI x3), none] [] s Q := Wp_step k293 f293_72 (Wp_step k293 f293_74 ⟨⟨rfl, trivial⟩, h_1⟩)
theorem b293_75 {X : (Nat → Int) × Nat} {d : Nat} {s : mSt} {Q : mQ} {x1 : Int} {x2 : Int} {x3 : Int} (h_1 : 0 ≤ (w32 (135 + (w32 (3 * (s 417 165))))) ∧ (w32 (135 + (w32 (3 * (s 417 165))))) < 166) (h_2 : 0 ≤ (w32 ((w32 (135 + (w32 (3 * (s 417 165))))) + 1)) ∧ (w32 ((w32 (135 + (w32 (3 * (s 417 165))))) + 1)) < 166) (h_3 : 0 ≤ (w32 ((w32 (135 + (w32 (3 * (s 417 165))))) + 2)) ∧ (w32 ((w32 (135 + (w32 (3 * (s 417 165))))) + 2)) < 166) (h_4 : Q (some (mI ((uS (uS (uS (uS s 417 ((w32 (135 + (w32 (3 * (s 417 165))))).toNat) x1) 417 ((w32 ((w32 (135 + (w32 (3 * (s 417 165))))) + 1)).toNat) x2) 417 ((w32 ((w32 (135 + (w32 (3 * (s 417 165))))) + 2)).toNat) x3) 417 165 (w32 (((uS (uS (uS s 417 ((w32 (135 + (w32 (3 * (s 417 165))))).toNat) x1) 417 ((w32 ((w32 (135 + (w32 (3 * (s 417 165))))) + 1)).toNat) x2) 417 ((w32 ((w32 (135 + (w32 (3 * (s 417 165))))) + 2)).toNat) x3) 417 165) + 1))) 417 165))) (uS (uS (uS (uS s 417 ((w32 (135 + (w32 (3 * (s 417 165))))).toNat) x1) 417 ((w32 ((w32 (135 + (w32 (3 * (s 417 165))))) + 1)).toNat) x2) 417 ((w32 ((w32 (135 + (w32 (3 * (s 417 165))))) + 2)).toNat) x3) 417 165 (w32 (((uS (uS (uS s 417 ((w32 (135 + (w32 (3 * (s 417 165))))).toNat) x1) 417 ((w32 ((w32 (135 + (w32 (3 * (s 417 165))))) + 1)).toNat) x2) 417 ((w32 ((w32 (135 + (w32 (3 * (s 417 165))))) + 2)).toNat) x3) 417 165) + 1)))) : Wp X d 293 75 [some (mR 407), some (mI x1), some (mI x2), some (mI x3), none] [] s Q := Wp_step k293 f293_75 (Wp_step k293 f293_78 (Wp_step k293 f293_79 (Wp_step k293 f293_80 ⟨kf_407, 417, rf_407_20, Wp_step k293 f293_83 (Wp_step k293 f293_86 ⟨166, af_417, ⟨by decide, by decide⟩, Wp_step k293 f293_87 (Wp_step k293 f293_88 (Wp_step k293 f293_89 (Wp_step k293 f293_91 (Wp_step k293 f293_92 ⟨kf_407, 417, rf_407_20, Wp_step k293 f293_95 (Wp_step k293 f293_97 (Wp_step k293 f293_98 ⟨166, af_417, h_1, Wp_step k293 f293_99 (Wp_step k293 f293_100 ⟨kf_407, 417, rf_407_20, Wp_step k293 f293_103 (Wp_step k293 f293_105 (Wp_step k293 f293_106 (Wp_step k293 f293_107 (Wp_step k293 f293_108 ⟨166, af_417, h_2, Wp_step k293 f293_109 (Wp_step k293 f293_110 ⟨kf_407, 417, rf_407_20, Wp_step k293 f293_113 (Wp_step k293 f293_115 (Wp_step k293 f293_116 (Wp_step k293 f293_117 (Wp_step k293 f293_118 ⟨166, af_417, h_3, Wp_step k293 f293_119 (Wp_step k293 f293_120 ⟨kf_407, 417, rf_407_20, Wp_step k293 f293_123 (Wp_step k293 f293_126 (Wp_step k293 f293_127 ⟨166, af_417, ⟨by decide, by decide⟩, Wp_step k293 f293_128 (Wp_step k293 f293_129 (Wp_step k293 f293_130 ⟨166, af_417, ⟨by decide, by decide⟩, Wp_step k293 f293_131 (Wp_step k293 f293_132 ⟨kf_407, 417, rf_407_20, Wp_step k293 f293_135 (Wp_step k293 f293_138 ⟨166, af_417, ⟨by decide, by decide⟩, Wp_step k293 f293_139 ⟨⟨rfl, trivial⟩, h_4⟩⟩)⟩)⟩))⟩))⟩)⟩))))⟩)⟩))))⟩)⟩))⟩))))⟩)⟩)))
theorem e293 {X : (Nat → Int) × Nat} {d : Nat} {s : mSt} {Q : mQ} {x1 : Int} {x2 : Int} {x3 : Int} (h : Wp X d 293 0 [some (mR 407), some (mI x1), some (mI x2), some (mI x3), none] [] s Q) : Sp X d 293 [mR 407, mI x1, mI x2, mI x3] s Q := Sp_of (show mCe 293 = 0 by decide +kernel) (by rw [show mML 293 = 5 by decide +kernel]; rfl) (Nat.le_trans (Nat.le_of_ble_eq_true (show Nat.ble (mArgs _).length 5 = true from rfl)) (show 5 ≤ mML 293 by decide +kernel)) h
-- 294 ClashDayModel.areNotesSo(I)Z
theorem k294 : mRk 294 = 2 := by decide +kernel
theorem f294_0 : mFetch 294 0 = some (.iconst 0, 1, 0, 0, 0, 0) := by decide +kernel
theorem f294_1 : mFetch 294 1 = some (.istore_n 2, 1, 0, 0, 0, 0) := by decide +kernel
theorem f294_2 : mFetch 294 2 = some (.iload_n 2, 1, 0, 0, 0, 0) := by decide +kernel
theorem f294_3 : mFetch 294 3 = some (.iconst 3, 1, 0, 0, 0, 0) := by decide +kernel
theorem f294_4 : mFetch 294 4 = some (.aload_n 0, 1, 0, 0, 0, 0) := by decide +kernel
theorem f294_5 : mFetch 294 5 = some (.getfield 39, 3, 12, 20, 2, 1) := by decide +kernel
theorem f294_8 : mFetch 294 8 = some (.sipush 165, 3, 0, 0, 0, 0) := by decide +kernel
theorem f294_11 : mFetch 294 11 = some (.iaload, 1, 0, 0, 0, 0) := by decide +kernel
theorem f294_12 : mFetch 294 12 = some (.imul, 1, 0, 0, 0, 0) := by decide +kernel
theorem f294_13 : mFetch 294 13 = some (.if_icmp .ge 56, 3, 69, 0, 0, 0) := by decide +kernel
theorem f294_16 : mFetch 294 16 = some (.aload_n 0, 1, 0, 0, 0, 0) := by decide +kernel
theorem f294_17 : mFetch 294 17 = some (.getfield 39, 3, 12, 20, 2, 1) := by decide +kernel
theorem f294_20 : mFetch 294 20 = some (.sipush 135, 3, 0, 0, 0, 0) := by decide +kernel
theorem f294_23 : mFetch 294 23 = some (.iload_n 2, 1, 0, 0, 0, 0) := by decide +kernel
theorem f294_24 : mFetch 294 24 = some (.iadd, 1, 0, 0, 0, 0) := by decide +kernel
theorem f294_25 : mFetch 294 25 = some (.iaload, 1, 0, 0, 0, 0) := by decide +kernel
theorem f294_26 : mFetch 294 26 = some (.iload_n 1, 1, 0, 0, 0, 0) := by decide +kernel
theorem f294_27 : mFetch 294 27 = some (.if_icmp .ne 36, 3, 63, 0, 0, 0) := by decide +kernel
theorem f294_30 : mFetch 294 30 = some (.aload_n 0, 1, 0, 0, 0, 0) := by decide +kernel
theorem f294_31 : mFetch 294 31 = some (.aload_n 0, 1, 0, 0, 0, 0) := by decide +kernel
theorem f294_32 : mFetch 294 32 = some (.getfield 39, 3, 12, 20, 2, 1) := by decide +kernel
theorem f294_35 : mFetch 294 35 = some (.sipush 135, 3, 0, 0, 0, 0) := by decide +kernel
theorem f294_38 : mFetch 294 38 = some (.iload_n 2, 1, 0, 0, 0, 0) := by decide +kernel
theorem f294_39 : mFetch 294 39 = some (.iadd, 1, 0, 0, 0, 0) := by decide +kernel
theorem f294_40 : mFetch 294 40 = some (.iconst 1, 1, 0, 0, 0, 0) := by decide +kernel
theorem f294_41 : mFetch 294 41 = some (.iadd, 1, 0, 0, 0, 0) := by decide +kernel
theorem f294_42 : mFetch 294 42 = some (.iaload, 1, 0, 0, 0, 0) := by decide +kernel
theorem f294_43 : mFetch 294 43 = some (.invokevirtual 359, 3, 223, 0, 2, 12) := by decide +kernel
theorem f294_46 : mFetch 294 46 = some (.aload_n 0, 1, 0, 0, 0, 0) := by decide +kernel
theorem f294_47 : mFetch 294 47 = some (.getfield 39, 3, 12, 20, 2, 1) := by decide +kernel
theorem f294_50 : mFetch 294 50 = some (.sipush 135, 3, 0, 0, 0, 0) := by decide +kernel
theorem f294_53 : mFetch 294 53 = some (.iload_n 2, 1, 0, 0, 0, 0) := by decide +kernel
theorem f294_54 : mFetch 294 54 = some (.iadd, 1, 0, 0, 0, 0) := by decide +kernel
theorem f294_55 : mFetch 294 55 = some (.iconst 2, 1, 0, 0, 0, 0) := by decide +kernel
theorem f294_56 : mFetch 294 56 = some (.iadd, 1, 0, 0, 0, 0) := by decide +kernel
theorem f294_57 : mFetch 294 57 = some (.iaload, 1, 0, 0, 0, 0) := by decide +kernel
theorem f294_58 : mFetch 294 58 = some (.if_icmp .eq 5, 3, 63, 0, 0, 0) := by decide +kernel
theorem f294_61 : mFetch 294 61 = some (.iconst 0, 1, 0, 0, 0, 0) := by decide +kernel
theorem f294_62 : mFetch 294 62 = some (.ireturn, 1, 0, 0, 0, 0) := by decide +kernel
theorem f294_63 : mFetch 294 63 = some (.iinc 2 3, 3, 0, 0, 0, 0) := by decide +kernel
theorem f294_66 : mFetch 294 66 = some (.goto (-64), 3, 2, 0, 0, 0) := by decide +kernel
theorem f294_69 : mFetch 294 69 = some (.iconst 1, 1, 0, 0, 0, 0) := by decide +kernel
theorem f294_70 : mFetch 294 70 = some (.ireturn, 1, 0, 0, 0, 0) := by decide +kernel
theorem b294_0 {X : (Nat → Int) × Nat} {d : Nat} {s : mSt} {Q : mQ} {x1 : Int} (h_1 : Wp X d 294 2 [some (mR 407), some (mI x1), some (mI 0)] [] s Q) : Wp X d 294 0 [some (mR 407), some (mI x1), none] [] s Q := Wp_step k294 f294_0 (Wp_step k294 f294_1 (h_1))
theorem b294_2 {X : (Nat → Int) × Nat} {d : Nat} {s : mSt} {Q : mQ} {x1 : Int} {x2 : Int} (h_1 : (w32 (3 * (s 417 165))) ≤ x2 → Wp X d 294 69 [some (mR 407), some (mI x1), some (mI x2)] [] s Q) (h_2 : ¬ (w32 (3 * (s 417 165))) ≤ x2 → Wp X d 294 16 [some (mR 407), some (mI x1), some (mI x2)] [] s Q) : Wp X d 294 2 [some (mR 407), some (mI x1), some (mI x2)] [] s Q := Wp_step k294 f294_2 (Wp_step k294 f294_3 (Wp_step k294 f294_4 (Wp_step k294 f294_5 ⟨kf_407, 417, rf_407_20, Wp_step k294 f294_8 (Wp_step k294 f294_11 ⟨166, af_417, ⟨by decide, by decide⟩, Wp_step k294 f294_12 (Wp_step k294 f294_13 ⟨h_1, h_2⟩)⟩)⟩)))
theorem b294_16 {X : (Nat → Int) × Nat} {d : Nat} {s : mSt} {Q : mQ} {x1 : Int} {x2 : Int} (h_1 : 0 ≤ (w32 (135 + x2)) ∧ (w32 (135 + x2)) < 166) (h_2 : ¬ (s 417 (w32 (135 + x2)).toNat) = x1 → Wp X d 294 63 [some (mR 407), some (mI x1), some (mI x2)] [] s Q) (h_3 : (s 417 (w32 (135 + x2)).toNat) = x1 → Wp X d 294 30 [some (mR 407), some (mI x1), some (mI x2)] [] s Q) : Wp X d 294 16 [some (mR 407), some (mI x1), some (mI x2)] [] s Q := Wp_step k294 f294_16 (Wp_step k294 f294_17 ⟨kf_407, 417, rf_407_20, Wp_step k294 f294_20 (Wp_step k294 f294_23 (Wp_step k294 f294_24 (Wp_step k294 f294_25 ⟨166, af_417, h_1, Wp_step k294 f294_26 (Wp_step k294 f294_27 ⟨h_2, h_3⟩)⟩)))⟩)
theorem b294_30 {X : (Nat → Int) × Nat} {d : Nat} {s : mSt} {Q : mQ} {x1 : Int} {x2 : Int} (h_1 : 0 ≤ (w32 ((w32 (135 + x2)) + 1)) ∧ (w32 ((w32 (135 + x2)) + 1)) < 166) (h_2 : Sp X d 223 [mR 407, mI (s 417 (w32 ((w32 (135 + x2)) + 1)).toNat)] s (fun r s' => ∃ v : Int, r = some (mI v) ∧ Wp X (d + 1) 294 46 [some (mR 407), some (mI x1), some (mI x2)] [mI v] s' Q)) : Wp X (d + 1) 294 30 [some (mR 407), some (mI x1), some (mI x2)] [] s Q := Wp_step k294 f294_30 (Wp_step k294 f294_31 (Wp_step k294 f294_32 ⟨kf_407, 417, rf_407_20, Wp_step k294 f294_35 (Wp_step k294 f294_38 (Wp_step k294 f294_39 (Wp_step k294 f294_40 (Wp_step k294 f294_41 (Wp_step k294 f294_42 ⟨166, af_417, h_1, Wp_step k294 f294_43 ⟨⟨kf_407, Nat.le_of_ble_eq_true rfl⟩, Nat.le_refl _, _, rfl, Sp_E h_2⟩⟩)))))⟩))
theorem b294_46 {X : (Nat → Int) × Nat} {d : Nat} {s : mSt} {Q : mQ} {x1 : Int} {x2 : Int} {xt0 : Int} (h_1 : 0 ≤ (w32 ((w32 (135 + x2)) + 2)) ∧ (w32 ((w32 (135 + x2)) + 2)) < 166) (h_2 : xt0 = (s 417 (w32 ((w32 (135 + x2)) + 2)).toNat) → Wp X d 294 63 [some (mR 407), some (mI x1), some (mI x2)] [] s Q) (h_3 : ¬ xt0 = (s 417 (w32 ((w32 (135 + x2)) + 2)).toNat) → Wp X d 294 61 [some (mR 407), some (mI x1), some (mI x2)] [] s Q) : Wp X d 294 46 [some (mR 407), some (mI x1), some (mI x2)] [mI xt0] s Q := Wp_step k294 f294_46 (Wp_step k294 f294_47 ⟨kf_407, 417, rf_407_20, Wp_step k294 f294_50 (Wp_step k294 f294_53 (Wp_step k294 f294_54 (Wp_step k294 f294_55 (Wp_step k294 f294_56 (Wp_step k294 f294_57 ⟨166, af_417, h_1, Wp_step k294 f294_58 ⟨h_2, h_3⟩⟩)))))⟩)
theorem b294_61 {X : (Nat → Int) × Nat} {d : Nat} {s : mSt} {Q : mQ} {x1 : Int} {x2 : Int} (h_1 : Q (some (mI 0)) s) : Wp X d 294 61 [some (mR 407), some (mI x1), some (mI x2)] [] s Q := Wp_step k294 f294_61 (Wp_step k294 f294_62 ⟨⟨rfl, (Or.inl rfl)⟩, h_1⟩)
theorem b294_63 {X : (Nat → Int) × Nat} {d : Nat} {s : mSt} {Q : mQ} {x1 : Int} {x2 : Int} (h_1 : Wp X d 294 2 [some (mR 407), some (mI x1), some (mI (w32 (x2 + 3)))] [] s Q) : Wp X d 294 63 [some (mR 407), some (mI x1), some (mI x2)] [] s Q := Wp_step k294 f294_63 (Wp_step k294 f294_66 (h_1))
theorem b294_69 {X : (Nat → Int) × Nat} {d : Nat} {s : mSt} {Q : mQ} {x1 : Int} {x2 : Int} (h_1 : Q (some (mI 1)) s) : Wp X d 294 69 [some (mR 407), some (mI x1), some (mI x2)] [] s Q := Wp_step k294 f294_69 (Wp_step k294 f294_70 ⟨⟨rfl, (Or.inr rfl)⟩, h_1⟩)
theorem e294 {X : (Nat → Int) × Nat} {d : Nat} {s : mSt} {Q : mQ} {x1 : Int} (h : Wp X d 294 0 [some (mR 407), some (mI x1), none] [] s Q) : Sp X d 294 [mR 407, mI x1] s Q := Sp_of (show mCe 294 = 0 by decide +kernel) (by rw [show mML 294 = 3 by decide +kernel]; rfl) (Nat.le_trans (Nat.le_of_ble_eq_true (show Nat.ble (mArgs _).length 3 = true from rfl)) (show 3 ≤ mML 294 by decide +kernel)) h
