-- 230 ClashDayModel.candidate(II)I
theorem k230 : mRk 230 = 1 := by decide +kernel
theorem f230_0 : mFetch 230 0 = some (.aload_n 0, 1, 0, 0, 0, 0) := by decide +kernel
theorem f230_1 : mFetch 230 1 = some (.iload_n 1, 1, 0, 0, 0, 0) := by decide +kernel
theorem f230_2 : mFetch 230 2 = some (.invokevirtual 315, 3, 214, 0, 2, 12) := by decide +kernel
theorem f230_5 : mFetch 230 5 = some (.ifCond .ne 5, 3, 10, 0, 0, 0) := by decide +kernel
theorem f230_8 : mFetch 230 8 = some (.iconst (-1), 1, 0, 0, 0, 0) := by decide +kernel
theorem f230_9 : mFetch 230 9 = some (.ireturn, 1, 0, 0, 0, 0) := by decide +kernel
theorem f230_10 : mFetch 230 10 = some (.iload_n 2, 1, 0, 0, 0, 0) := by decide +kernel
theorem f230_11 : mFetch 230 11 = some (.tableswitch 70 0 3 #[29, 39, 49, 60], 29, 0, 0, 0, 0) := by decide +kernel
theorem f230_40 : mFetch 230 40 = some (.aload_n 0, 1, 0, 0, 0, 0) := by decide +kernel
theorem f230_41 : mFetch 230 41 = some (.getfield 39, 3, 12, 20, 2, 1) := by decide +kernel
theorem f230_44 : mFetch 230 44 = some (.bipush 117, 2, 0, 0, 0, 0) := by decide +kernel
theorem f230_46 : mFetch 230 46 = some (.iload_n 1, 1, 0, 0, 0, 0) := by decide +kernel
theorem f230_47 : mFetch 230 47 = some (.iadd, 1, 0, 0, 0, 0) := by decide +kernel
theorem f230_48 : mFetch 230 48 = some (.iaload, 1, 0, 0, 0, 0) := by decide +kernel
theorem f230_49 : mFetch 230 49 = some (.ireturn, 1, 0, 0, 0, 0) := by decide +kernel
theorem f230_50 : mFetch 230 50 = some (.aload_n 0, 1, 0, 0, 0, 0) := by decide +kernel
theorem f230_51 : mFetch 230 51 = some (.getfield 39, 3, 12, 20, 2, 1) := by decide +kernel
theorem f230_54 : mFetch 230 54 = some (.bipush 123, 2, 0, 0, 0, 0) := by decide +kernel
theorem f230_56 : mFetch 230 56 = some (.iload_n 1, 1, 0, 0, 0, 0) := by decide +kernel
theorem f230_57 : mFetch 230 57 = some (.iadd, 1, 0, 0, 0, 0) := by decide +kernel
theorem f230_58 : mFetch 230 58 = some (.iaload, 1, 0, 0, 0, 0) := by decide +kernel
theorem f230_59 : mFetch 230 59 = some (.ireturn, 1, 0, 0, 0, 0) := by decide +kernel
theorem f230_60 : mFetch 230 60 = some (.aload_n 0, 1, 0, 0, 0, 0) := by decide +kernel
theorem f230_61 : mFetch 230 61 = some (.getfield 39, 3, 12, 20, 2, 1) := by decide +kernel
theorem f230_64 : mFetch 230 64 = some (.sipush 129, 3, 0, 0, 0, 0) := by decide +kernel
theorem f230_67 : mFetch 230 67 = some (.iload_n 1, 1, 0, 0, 0, 0) := by decide +kernel
theorem f230_68 : mFetch 230 68 = some (.iadd, 1, 0, 0, 0, 0) := by decide +kernel
theorem f230_69 : mFetch 230 69 = some (.iaload, 1, 0, 0, 0, 0) := by decide +kernel
theorem f230_70 : mFetch 230 70 = some (.ireturn, 1, 0, 0, 0, 0) := by decide +kernel
theorem f230_71 : mFetch 230 71 = some (.aload_n 0, 1, 0, 0, 0, 0) := by decide +kernel
theorem f230_72 : mFetch 230 72 = some (.getfield 39, 3, 12, 20, 2, 1) := by decide +kernel
theorem f230_75 : mFetch 230 75 = some (.bipush 41, 2, 0, 0, 0, 0) := by decide +kernel
theorem f230_77 : mFetch 230 77 = some (.iload_n 1, 1, 0, 0, 0, 0) := by decide +kernel
theorem f230_78 : mFetch 230 78 = some (.iadd, 1, 0, 0, 0, 0) := by decide +kernel
theorem f230_79 : mFetch 230 79 = some (.iaload, 1, 0, 0, 0, 0) := by decide +kernel
theorem f230_80 : mFetch 230 80 = some (.ireturn, 1, 0, 0, 0, 0) := by decide +kernel
theorem f230_81 : mFetch 230 81 = some (.iconst (-1), 1, 0, 0, 0, 0) := by decide +kernel
theorem f230_82 : mFetch 230 82 = some (.ireturn, 1, 0, 0, 0, 0) := by decide +kernel
theorem b230_0 {X : (Nat → Int) × Nat} {d : Nat} {s : mSt} {Q : mQ} {x1 : Int} {x2 : Int} (h_1 : Sp X d 214 [mR 407, mI x1] s (fun r s' => ∃ v : Int, r = some (mI v) ∧ Wp X (d + 1) 230 5 [some (mR 407), some (mI x1), some (mI x2)] [mI v] s' Q)) : Wp X (d + 1) 230 0 [some (mR 407), some (mI x1), some (mI x2)] [] s Q := Wp_step k230 f230_0 (Wp_step k230 f230_1 (Wp_step k230 f230_2 ⟨⟨kf_407, Nat.le_of_ble_eq_true rfl⟩, Nat.le_refl _, _, rfl, Sp_E h_1⟩))
theorem b230_5 {X : (Nat → Int) × Nat} {d : Nat} {s : mSt} {Q : mQ} {x1 : Int} {x2 : Int} {xt0 : Int} (h_1 : ¬ xt0 = 0 → Wp X d 230 10 [some (mR 407), some (mI x1), some (mI x2)] [] s Q) (h_2 : xt0 = 0 → Wp X d 230 8 [some (mR 407), some (mI x1), some (mI x2)] [] s Q) : Wp X d 230 5 [some (mR 407), some (mI x1), some (mI x2)] [mI xt0] s Q := Wp_step k230 f230_5 ⟨h_1, h_2⟩
theorem b230_8 {X : (Nat → Int) × Nat} {d : Nat} {s : mSt} {Q : mQ} {x1 : Int} {x2 : Int} (h_1 : Q (some (mI (-1))) s) : Wp X d 230 8 [some (mR 407), some (mI x1), some (mI x2)] [] s Q := Wp_step k230 f230_8 (Wp_step k230 f230_9 ⟨⟨rfl, trivial⟩, h_1⟩)
theorem b230_10 {X : (Nat → Int) × Nat} {d : Nat} {s : mSt} {Q : mQ} {x1 : Int} {x2 : Int} (h_1 : x2 = 0 → Wp X d 230 40 [some (mR 407), some (mI x1), some (mI x2)] [] s Q) (h_2 : x2 = 1 → Wp X d 230 50 [some (mR 407), some (mI x1), some (mI x2)] [] s Q) (h_3 : x2 = 2 → Wp X d 230 60 [some (mR 407), some (mI x1), some (mI x2)] [] s Q) (h_4 : x2 = 3 → Wp X d 230 71 [some (mR 407), some (mI x1), some (mI x2)] [] s Q) (h_5 : ¬ x2 = 0 → ¬ x2 = 1 → ¬ x2 = 2 → ¬ x2 = 3 → Wp X d 230 81 [some (mR 407), some (mI x1), some (mI x2)] [] s Q) : Wp X d 230 10 [some (mR 407), some (mI x1), some (mI x2)] [] s Q := Wp_step k230 f230_10 (Wp_step k230 f230_11 (by
    show Wp X d 230 (tT 11 70 0 3 #[29, 39, 49, 60] x2) [some (mR 407), some (mI x1), some (mI x2)] [] s Q
    by_cases q0 : x2 = 0
    · have e : tT 11 70 0 3 #[29, 39, 49, 60] x2 = 40 := by rw [q0]; decide +kernel
      rw [e]; exact h_1 q0
    by_cases q1 : x2 = 1
    · have e : tT 11 70 0 3 #[29, 39, 49, 60] x2 = 50 := by rw [q1]; decide +kernel
      rw [e]; exact h_2 q1
    by_cases q2 : x2 = 2
    · have e : tT 11 70 0 3 #[29, 39, 49, 60] x2 = 60 := by rw [q2]; decide +kernel
      rw [e]; exact h_3 q2
    by_cases q3 : x2 = 3
    · have e : tT 11 70 0 3 #[29, 39, 49, 60] x2 = 71 := by rw [q3]; decide +kernel
      rw [e]; exact h_4 q3
    have e : tT 11 70 0 3 #[29, 39, 49, 60] x2 = 81 := by unfold tT; rw [if_pos (by omega)]; decide +kernel
    rw [e]; exact h_5 q0 q1 q2 q3))
theorem b230_40 {X : (Nat → Int) × Nat} {d : Nat} {s : mSt} {Q : mQ} {x1 : Int} {x2 : Int} (h_1 : 0 ≤ (w32 (117 + x1)) ∧ (w32 (117 + x1)) < 166) (h_2 : Q (some (mI (s 417 (w32 (117 + x1)).toNat))) s) : Wp X d 230 40 [some (mR 407), some (mI x1), some (mI x2)] [] s Q := Wp_step k230 f230_40 (Wp_step k230 f230_41 ⟨kf_407, 417, rf_407_20, Wp_step k230 f230_44 (Wp_step k230 f230_46 (Wp_step k230 f230_47 (Wp_step k230 f230_48 ⟨166, af_417, h_1, Wp_step k230 f230_49 ⟨⟨rfl, trivial⟩, h_2⟩⟩)))⟩)
theorem b230_50 {X : (Nat → Int) × Nat} {d : Nat} {s : mSt} {Q : mQ} {x1 : Int} {x2 : Int} (h_1 : 0 ≤ (w32 (123 + x1)) ∧ (w32 (123 + x1)) < 166) (h_2 : Q (some (mI (s 417 (w32 (123 + x1)).toNat))) s) : Wp X d 230 50 [some (mR 407), some (mI x1), some (mI x2)] [] s Q := Wp_step k230 f230_50 (Wp_step k230 f230_51 ⟨kf_407, 417, rf_407_20, Wp_step k230 f230_54 (Wp_step k230 f230_56 (Wp_step k230 f230_57 (Wp_step k230 f230_58 ⟨166, af_417, h_1, Wp_step k230 f230_59 ⟨⟨rfl, trivial⟩, h_2⟩⟩)))⟩)
theorem b230_60 {X : (Nat → Int) × Nat} {d : Nat} {s : mSt} {Q : mQ} {x1 : Int} {x2 : Int} (h_1 : 0 ≤ (w32 (129 + x1)) ∧ (w32 (129 + x1)) < 166) (h_2 : Q (some (mI (s 417 (w32 (129 + x1)).toNat))) s) : Wp X d 230 60 [some (mR 407), some (mI x1), some (mI x2)] [] s Q := Wp_step k230 f230_60 (Wp_step k230 f230_61 ⟨kf_407, 417, rf_407_20, Wp_step k230 f230_64 (Wp_step k230 f230_67 (Wp_step k230 f230_68 (Wp_step k230 f230_69 ⟨166, af_417, h_1, Wp_step k230 f230_70 ⟨⟨rfl, trivial⟩, h_2⟩⟩)))⟩)
theorem b230_71 {X : (Nat → Int) × Nat} {d : Nat} {s : mSt} {Q : mQ} {x1 : Int} {x2 : Int} (h_1 : 0 ≤ (w32 (41 + x1)) ∧ (w32 (41 + x1)) < 166) (h_2 : Q (some (mI (s 417 (w32 (41 + x1)).toNat))) s) : Wp X d 230 71 [some (mR 407), some (mI x1), some (mI x2)] [] s Q := Wp_step k230 f230_71 (Wp_step k230 f230_72 ⟨kf_407, 417, rf_407_20, Wp_step k230 f230_75 (Wp_step k230 f230_77 (Wp_step k230 f230_78 (Wp_step k230 f230_79 ⟨166, af_417, h_1, Wp_step k230 f230_80 ⟨⟨rfl, trivial⟩, h_2⟩⟩)))⟩)
theorem b230_81 {X : (Nat → Int) × Nat} {d : Nat} {s : mSt} {Q : mQ} {x1 : Int} {x2 : Int} (h_1 : Q (some (mI (-1))) s) : Wp X d 230 81 [some (mR 407), some (mI x1), some (mI x2)] [] s Q := Wp_step k230 f230_81 (Wp_step k230 f230_82 ⟨⟨rfl, trivial⟩, h_1⟩)
theorem e230 {X : (Nat → Int) × Nat} {d : Nat} {s : mSt} {Q : mQ} {x1 : Int} {x2 : Int} (h : Wp X d 230 0 [some (mR 407), some (mI x1), some (mI x2)] [] s Q) : Sp X d 230 [mR 407, mI x1, mI x2] s Q := Sp_of (show mCe 230 = 0 by decide +kernel) (by rw [show mML 230 = 3 by decide +kernel]; rfl) (Nat.le_trans (Nat.le_of_ble_eq_true (show Nat.ble (mArgs _).length 3 = true from rfl)) (show 3 ≤ mML 230 by decide +kernel)) h
-- 231 ClashDayModel.free(I)I
theorem k231 : mRk 231 = 1 := by decide +kernel
theorem f231_0 : mFetch 231 0 = some (.aload_n 0, 1, 0, 0, 0, 0) := by decide +kernel
theorem f231_1 : mFetch 231 1 = some (.invokevirtual 354, 3, 212, 0, 1, 12) := by decide +kernel
theorem f231_4 : mFetch 231 4 = some (.ifCond .eq 23, 3, 27, 0, 0, 0) := by decide +kernel
theorem f231_7 : mFetch 231 7 = some (.iload_n 1, 1, 0, 0, 0, 0) := by decide +kernel
theorem f231_8 : mFetch 231 8 = some (.i2l, 1, 0, 0, 0, 0) := by decide +kernel
theorem f231_9 : mFetch 231 9 = some (.lconst 0, 1, 0, 0, 0, 0) := by decide +kernel
theorem f231_10 : mFetch 231 10 = some (.ldc2_w 357, 3, 29, 0, 0, 0) := by decide +kernel
theorem f231_13 : mFetch 231 13 = some (.invokestatic 151, 3, 167, 0, 3, 99) := by decide +kernel
theorem f231_16 : mFetch 231 16 = some (.ifCond .eq 11, 3, 27, 0, 0, 0) := by decide +kernel
theorem f231_19 : mFetch 231 19 = some (.aload_n 0, 1, 0, 0, 0, 0) := by decide +kernel
theorem f231_20 : mFetch 231 20 = some (.iload_n 1, 1, 0, 0, 0, 0) := by decide +kernel
theorem f231_21 : mFetch 231 21 = some (.invokevirtual 359, 3, 223, 0, 2, 12) := by decide +kernel
theorem f231_24 : mFetch 231 24 = some (.goto 4, 3, 28, 0, 0, 0) := by decide +kernel
theorem f231_27 : mFetch 231 27 = some (.iconst (-1), 1, 0, 0, 0, 0) := by decide +kernel
theorem f231_28 : mFetch 231 28 = some (.ireturn, 1, 0, 0, 0, 0) := by decide +kernel
theorem b231_0 {X : (Nat → Int) × Nat} {d : Nat} {s : mSt} {Q : mQ} {x1 : Int} (h_1 : Sp X d 212 [mR 407] s (fun r s' => ∃ v : Int, r = some (mI v) ∧ Wp X (d + 1) 231 4 [some (mR 407), some (mI x1)] [mI v] s' Q)) : Wp X (d + 1) 231 0 [some (mR 407), some (mI x1)] [] s Q := Wp_step k231 f231_0 (Wp_step k231 f231_1 ⟨⟨kf_407, Nat.le_of_ble_eq_true rfl⟩, Nat.le_refl _, _, rfl, Sp_E h_1⟩)
theorem b231_4 {X : (Nat → Int) × Nat} {d : Nat} {s : mSt} {Q : mQ} {x1 : Int} {xt0 : Int} (h_1 : xt0 = 0 → Wp X d 231 27 [some (mR 407), some (mI x1)] [] s Q) (h_2 : ¬ xt0 = 0 → Wp X d 231 7 [some (mR 407), some (mI x1)] [] s Q) : Wp X d 231 4 [some (mR 407), some (mI x1)] [mI xt0] s Q := Wp_step k231 f231_4 ⟨h_1, h_2⟩
theorem b231_7 {X : (Nat → Int) × Nat} {d : Nat} {s : mSt} {Q : mQ} {x1 : Int} (h_1 : Sp X d 167 [mJ x1, mJ 0, mJ 29] s (fun r s' => ∃ v : Int, r = some (mI v) ∧ Wp X (d + 1) 231 16 [some (mR 407), some (mI x1)] [mI v] s' Q)) : Wp X (d + 1) 231 7 [some (mR 407), some (mI x1)] [] s Q := Wp_step k231 f231_7 (Wp_step k231 f231_8 (Wp_step k231 f231_9 (Wp_step k231 f231_10 (Wp_step k231 f231_13 ⟨⟨Nat.le_of_ble_eq_true rfl, Nat.le_refl _⟩, _, rfl, Sp_E h_1⟩))))
theorem b231_16 {X : (Nat → Int) × Nat} {d : Nat} {s : mSt} {Q : mQ} {x1 : Int} {xt0 : Int} (h_1 : xt0 = 0 → Wp X d 231 27 [some (mR 407), some (mI x1)] [] s Q) (h_2 : ¬ xt0 = 0 → Wp X d 231 19 [some (mR 407), some (mI x1)] [] s Q) : Wp X d 231 16 [some (mR 407), some (mI x1)] [mI xt0] s Q := Wp_step k231 f231_16 ⟨h_1, h_2⟩
theorem b231_19 {X : (Nat → Int) × Nat} {d : Nat} {s : mSt} {Q : mQ} {x1 : Int} (h_1 : Sp X d 223 [mR 407, mI x1] s (fun r s' => ∃ v : Int, r = some (mI v) ∧ Wp X (d + 1) 231 24 [some (mR 407), some (mI x1)] [mI v] s' Q)) : Wp X (d + 1) 231 19 [some (mR 407), some (mI x1)] [] s Q := Wp_step k231 f231_19 (Wp_step k231 f231_20 (Wp_step k231 f231_21 ⟨⟨kf_407, Nat.le_of_ble_eq_true rfl⟩, Nat.le_refl _, _, rfl, Sp_E h_1⟩))
theorem b231_24 {X : (Nat → Int) × Nat} {d : Nat} {s : mSt} {Q : mQ} {x1 : Int} {xt0 : Int} (h_1 : Wp X d 231 28 [some (mR 407), some (mI x1)] [mI xt0] s Q) : Wp X d 231 24 [some (mR 407), some (mI x1)] [mI xt0] s Q := Wp_step k231 f231_24 (h_1)
theorem b231_27 {X : (Nat → Int) × Nat} {d : Nat} {s : mSt} {Q : mQ} {x1 : Int} (h_1 : Wp X d 231 28 [some (mR 407), some (mI x1)] [mI (-1)] s Q) : Wp X d 231 27 [some (mR 407), some (mI x1)] [] s Q := Wp_step k231 f231_27 (h_1)
theorem b231_28 {X : (Nat → Int) × Nat} {d : Nat} {s : mSt} {Q : mQ} {x1 : Int} {xt0 : Int} (h_1 : Q (some (mI xt0)) s) : Wp X d 231 28 [some (mR 407), some (mI x1)] [mI xt0] s Q := Wp_step k231 f231_28 ⟨⟨rfl, trivial⟩, h_1⟩
theorem e231 {X : (Nat → Int) × Nat} {d : Nat} {s : mSt} {Q : mQ} {x1 : Int} (h : Wp X d 231 0 [some (mR 407), some (mI x1)] [] s Q) : Sp X d 231 [mR 407, mI x1] s Q := Sp_of (show mCe 231 = 0 by decide +kernel) (by rw [show mML 231 = 2 by decide +kernel]; rfl) (Nat.le_trans (Nat.le_of_ble_eq_true (show Nat.ble (mArgs _).length 2 = true from rfl)) (show 2 ≤ mML 231 by decide +kernel)) h
-- 232 ClashDayModel.time(II)I
theorem k232 : mRk 232 = 1 := by decide +kernel
theorem f232_0 : mFetch 232 0 = some (.aload_n 0, 1, 0, 0, 0, 0) := by decide +kernel
theorem f232_1 : mFetch 232 1 = some (.iload_n 1, 1, 0, 0, 0, 0) := by decide +kernel
theorem f232_2 : mFetch 232 2 = some (.invokevirtual 315, 3, 214, 0, 2, 12) := by decide +kernel
theorem f232_5 : mFetch 232 5 = some (.ifCond .eq 29, 3, 34, 0, 0, 0) := by decide +kernel
theorem f232_8 : mFetch 232 8 = some (.aload_n 0, 1, 0, 0, 0, 0) := by decide +kernel
theorem f232_9 : mFetch 232 9 = some (.iload_n 2, 1, 0, 0, 0, 0) := by decide +kernel
theorem f232_10 : mFetch 232 10 = some (.invokevirtual 349, 3, 213, 0, 2, 12) := by decide +kernel
theorem f232_13 : mFetch 232 13 = some (.ifCond .eq 21, 3, 34, 0, 0, 0) := by decide +kernel
theorem f232_16 : mFetch 232 16 = some (.aload_n 0, 1, 0, 0, 0, 0) := by decide +kernel
theorem f232_17 : mFetch 232 17 = some (.iload_n 1, 1, 0, 0, 0, 0) := by decide +kernel
theorem f232_18 : mFetch 232 18 = some (.iload_n 2, 1, 0, 0, 0, 0) := by decide +kernel
theorem f232_19 : mFetch 232 19 = some (.invokevirtual 321, 3, 217, 0, 3, 12) := by decide +kernel
theorem f232_22 : mFetch 232 22 = some (.ifCond .eq 12, 3, 34, 0, 0, 0) := by decide +kernel
theorem f232_25 : mFetch 232 25 = some (.aload_n 0, 1, 0, 0, 0, 0) := by decide +kernel
theorem f232_26 : mFetch 232 26 = some (.iload_n 1, 1, 0, 0, 0, 0) := by decide +kernel
theorem f232_27 : mFetch 232 27 = some (.iload_n 2, 1, 0, 0, 0, 0) := by decide +kernel
theorem f232_28 : mFetch 232 28 = some (.invokevirtual 324, 3, 219, 0, 3, 12) := by decide +kernel
theorem f232_31 : mFetch 232 31 = some (.goto 4, 3, 35, 0, 0, 0) := by decide +kernel
theorem f232_34 : mFetch 232 34 = some (.iconst (-1), 1, 0, 0, 0, 0) := by decide +kernel
theorem f232_35 : mFetch 232 35 = some (.ireturn, 1, 0, 0, 0, 0) := by decide +kernel
theorem b232_0 {X : (Nat → Int) × Nat} {d : Nat} {s : mSt} {Q : mQ} {x1 : Int} {x2 : Int} (h_1 : Sp X d 214 [mR 407, mI x1] s (fun r s' => ∃ v : Int, r = some (mI v) ∧ Wp X (d + 1) 232 5 [some (mR 407), some (mI x1), some (mI x2)] [mI v] s' Q)) : Wp X (d + 1) 232 0 [some (mR 407), some (mI x1), some (mI x2)] [] s Q := Wp_step k232 f232_0 (Wp_step k232 f232_1 (Wp_step k232 f232_2 ⟨⟨kf_407, Nat.le_of_ble_eq_true rfl⟩, Nat.le_refl _, _, rfl, Sp_E h_1⟩))
theorem b232_5 {X : (Nat → Int) × Nat} {d : Nat} {s : mSt} {Q : mQ} {x1 : Int} {x2 : Int} {xt0 : Int} (h_1 : xt0 = 0 → Wp X d 232 34 [some (mR 407), some (mI x1), some (mI x2)] [] s Q) (h_2 : ¬ xt0 = 0 → Wp X d 232 8 [some (mR 407), some (mI x1), some (mI x2)] [] s Q) : Wp X d 232 5 [some (mR 407), some (mI x1), some (mI x2)] [mI xt0] s Q := Wp_step k232 f232_5 ⟨h_1, h_2⟩
theorem b232_8 {X : (Nat → Int) × Nat} {d : Nat} {s : mSt} {Q : mQ} {x1 : Int} {x2 : Int} (h_1 : Sp X d 213 [mR 407, mI x2] s (fun r s' => ∃ v : Int, r = some (mI v) ∧ Wp X (d + 1) 232 13 [some (mR 407), some (mI x1), some (mI x2)] [mI v] s' Q)) : Wp X (d + 1) 232 8 [some (mR 407), some (mI x1), some (mI x2)] [] s Q := Wp_step k232 f232_8 (Wp_step k232 f232_9 (Wp_step k232 f232_10 ⟨⟨kf_407, Nat.le_of_ble_eq_true rfl⟩, Nat.le_refl _, _, rfl, Sp_E h_1⟩))
theorem b232_13 {X : (Nat → Int) × Nat} {d : Nat} {s : mSt} {Q : mQ} {x1 : Int} {x2 : Int} {xt0 : Int} (h_1 : xt0 = 0 → Wp X d 232 34 [some (mR 407), some (mI x1), some (mI x2)] [] s Q) (h_2 : ¬ xt0 = 0 → Wp X d 232 16 [some (mR 407), some (mI x1), some (mI x2)] [] s Q) : Wp X d 232 13 [some (mR 407), some (mI x1), some (mI x2)] [mI xt0] s Q := Wp_step k232 f232_13 ⟨h_1, h_2⟩
theorem b232_16 {X : (Nat → Int) × Nat} {d : Nat} {s : mSt} {Q : mQ} {x1 : Int} {x2 : Int} (h_1 : Sp X d 217 [mR 407, mI x1, mI x2] s (fun r s' => ∃ v : Int, r = some (mI v) ∧ Wp X (d + 1) 232 22 [some (mR 407), some (mI x1), some (mI x2)] [mI v] s' Q)) : Wp X (d + 1) 232 16 [some (mR 407), some (mI x1), some (mI x2)] [] s Q := Wp_step k232 f232_16 (Wp_step k232 f232_17 (Wp_step k232 f232_18 (Wp_step k232 f232_19 ⟨⟨kf_407, Nat.le_of_ble_eq_true rfl⟩, Nat.le_refl _, _, rfl, Sp_E h_1⟩)))
theorem b232_22 {X : (Nat → Int) × Nat} {d : Nat} {s : mSt} {Q : mQ} {x1 : Int} {x2 : Int} {xt0 : Int} (h_1 : xt0 = 0 → Wp X d 232 34 [some (mR 407), some (mI x1), some (mI x2)] [] s Q) (h_2 : ¬ xt0 = 0 → Wp X d 232 25 [some (mR 407), some (mI x1), some (mI x2)] [] s Q) : Wp X d 232 22 [some (mR 407), some (mI x1), some (mI x2)] [mI xt0] s Q := Wp_step k232 f232_22 ⟨h_1, h_2⟩
theorem b232_25 {X : (Nat → Int) × Nat} {d : Nat} {s : mSt} {Q : mQ} {x1 : Int} {x2 : Int} (h_1 : Sp X d 219 [mR 407, mI x1, mI x2] s (fun r s' => ∃ v : Int, r = some (mI v) ∧ Wp X (d + 1) 232 31 [some (mR 407), some (mI x1), some (mI x2)] [mI v] s' Q)) : Wp X (d + 1) 232 25 [some (mR 407), some (mI x1), some (mI x2)] [] s Q := Wp_step k232 f232_25 (Wp_step k232 f232_26 (Wp_step k232 f232_27 (Wp_step k232 f232_28 ⟨⟨kf_407, Nat.le_of_ble_eq_true rfl⟩, Nat.le_refl _, _, rfl, Sp_E h_1⟩)))
theorem b232_31 {X : (Nat → Int) × Nat} {d : Nat} {s : mSt} {Q : mQ} {x1 : Int} {x2 : Int} {xt0 : Int} (h_1 : Wp X d 232 35 [some (mR 407), some (mI x1), some (mI x2)] [mI xt0] s Q) : Wp X d 232 31 [some (mR 407), some (mI x1), some (mI x2)] [mI xt0] s Q := Wp_step k232 f232_31 (h_1)
theorem b232_34 {X : (Nat → Int) × Nat} {d : Nat} {s : mSt} {Q : mQ} {x1 : Int} {x2 : Int} (h_1 : Wp X d 232 35 [some (mR 407), some (mI x1), some (mI x2)] [mI (-1)] s Q) : Wp X d 232 34 [some (mR 407), some (mI x1), some (mI x2)] [] s Q := Wp_step k232 f232_34 (h_1)
theorem b232_35 {X : (Nat → Int) × Nat} {d : Nat} {s : mSt} {Q : mQ} {x1 : Int} {x2 : Int} {xt0 : Int} (h_1 : Q (some (mI xt0)) s) : Wp X d 232 35 [some (mR 407), some (mI x1), some (mI x2)] [mI xt0] s Q := Wp_step k232 f232_35 ⟨⟨rfl, trivial⟩, h_1⟩
theorem e232 {X : (Nat → Int) × Nat} {d : Nat} {s : mSt} {Q : mQ} {x1 : Int} {x2 : Int} (h : Wp X d 232 0 [some (mR 407), some (mI x1), some (mI x2)] [] s Q) : Sp X d 232 [mR 407, mI x1, mI x2] s Q := Sp_of (show mCe 232 = 0 by decide +kernel) (by rw [show mML 232 = 3 by decide +kernel]; rfl) (Nat.le_trans (Nat.le_of_ble_eq_true (show Nat.ble (mArgs _).length 3 = true from rfl)) (show 3 ≤ mML 232 by decide +kernel)) h
-- 233 ClashDayModel.waysOf(I)I
theorem k233 : mRk 233 = 1 := by decide +kernel
theorem f233_0 : mFetch 233 0 = some (.iconst 1, 1, 0, 0, 0, 0) := by decide +kernel
theorem f233_1 : mFetch 233 1 = some (.istore_n 1, 1, 0, 0, 0, 0) := by decide +kernel
theorem f233_2 : mFetch 233 2 = some (.iconst 2, 1, 0, 0, 0, 0) := by decide +kernel
theorem f233_3 : mFetch 233 3 = some (.istore_n 2, 1, 0, 0, 0, 0) := by decide +kernel
theorem f233_4 : mFetch 233 4 = some (.iload_n 2, 1, 0, 0, 0, 0) := by decide +kernel
theorem f233_5 : mFetch 233 5 = some (.iload_n 0, 1, 0, 0, 0, 0) := by decide +kernel
theorem f233_6 : mFetch 233 6 = some (.if_icmp .gt 13, 3, 19, 0, 0, 0) := by decide +kernel
theorem f233_9 : mFetch 233 9 = some (.iload_n 1, 1, 0, 0, 0, 0) := by decide +kernel
theorem f233_10 : mFetch 233 10 = some (.iload_n 2, 1, 0, 0, 0, 0) := by decide +kernel
theorem f233_11 : mFetch 233 11 = some (.imul, 1, 0, 0, 0, 0) := by decide +kernel
theorem f233_12 : mFetch 233 12 = some (.istore_n 1, 1, 0, 0, 0, 0) := by decide +kernel
theorem f233_13 : mFetch 233 13 = some (.iinc 2 1, 3, 0, 0, 0, 0) := by decide +kernel
theorem f233_16 : mFetch 233 16 = some (.goto (-12), 3, 4, 0, 0, 0) := by decide +kernel
theorem f233_19 : mFetch 233 19 = some (.iload_n 1, 1, 0, 0, 0, 0) := by decide +kernel
theorem f233_20 : mFetch 233 20 = some (.ireturn, 1, 0, 0, 0, 0) := by decide +kernel
theorem b233_0 {X : (Nat → Int) × Nat} {d : Nat} {s : mSt} {Q : mQ} {x0 : Int} {l1 : Option mV} {l2 : Option mV} (h_1 : Wp X d 233 4 [some (mI x0), some (mI 1), some (mI 2)] [] s Q) : Wp X d 233 0 [some (mI x0), l1, l2] [] s Q := Wp_step k233 f233_0 (Wp_step k233 f233_1 (Wp_step k233 f233_2 (Wp_step k233 f233_3 (h_1))))
theorem b233_4 {X : (Nat → Int) × Nat} {d : Nat} {s : mSt} {Q : mQ} {x0 : Int} {x1 : Int} {x2 : Int} (h_1 : x0 < x2 → Wp X d 233 19 [some (mI x0), some (mI x1), some (mI x2)] [] s Q) (h_2 : ¬ x0 < x2 → Wp X d 233 9 [some (mI x0), some (mI x1), some (mI x2)] [] s Q) : Wp X d 233 4 [some (mI x0), some (mI x1), some (mI x2)] [] s Q := Wp_step k233 f233_4 (Wp_step k233 f233_5 (Wp_step k233 f233_6 ⟨h_1, h_2⟩))
theorem b233_9 {X : (Nat → Int) × Nat} {d : Nat} {s : mSt} {Q : mQ} {x0 : Int} {x1 : Int} {x2 : Int} (h_1 : Wp X d 233 4 [some (mI x0), some (mI (w32 (x1 * x2))), some (mI (w32 (x2 + 1)))] [] s Q) : Wp X d 233 9 [some (mI x0), some (mI x1), some (mI x2)] [] s Q := Wp_step k233 f233_9 (Wp_step k233 f233_10 (Wp_step k233 f233_11 (Wp_step k233 f233_12 (Wp_step k233 f233_13 (Wp_step k233 f233_16 (h_1))))))
theorem b233_19 {X : (Nat → Int) × Nat} {d : Nat} {s : mSt} {Q : mQ} {x0 : Int} {x1 : Int} {x2 : Int} (h_1 : Q (some (mI x1)) s) : Wp X d 233 19 [some (mI x0), some (mI x1), some (mI x2)] [] s Q := Wp_step k233 f233_19 (Wp_step k233 f233_20 ⟨⟨rfl, trivial⟩, h_1⟩)
theorem e233 {X : (Nat → Int) × Nat} {d : Nat} {s : mSt} {Q : mQ} {x0 : Int} (h : Wp X d 233 0 [some (mI x0), none, none] [] s Q) : Sp X d 233 [mI x0] s Q := Sp_of (show mCe 233 = 0 by decide +kernel) (by rw [show mML 233 = 3 by decide +kernel]; rfl) (Nat.le_trans (Nat.le_of_ble_eq_true (show Nat.ble (mArgs _).length 3 = true from rfl)) (show 3 ≤ mML 233 by decide +kernel)) h
-- 234 ClashDayModel.orderOf(I)V
theorem k234 : mRk 234 = 0 := by decide +kernel
theorem f234_0 : mFetch 234 0 = some (.iload_n 1, 1, 0, 0, 0, 0) := by decide +kernel
theorem f234_1 : mFetch 234 1 = some (.istore_n 2, 1, 0, 0, 0, 0) := by decide +kernel
theorem f234_2 : mFetch 234 2 = some (.iconst 0, 1, 0, 0, 0, 0) := by decide +kernel
theorem f234_3 : mFetch 234 3 = some (.istore_n 3, 1, 0, 0, 0, 0) := by decide +kernel
theorem f234_4 : mFetch 234 4 = some (.iconst 0, 1, 0, 0, 0, 0) := by decide +kernel
theorem f234_5 : mFetch 234 5 = some (.istore 4, 2, 0, 0, 0, 0) := by decide +kernel
theorem f234_7 : mFetch 234 7 = some (.iload 4, 2, 0, 0, 0, 0) := by decide +kernel
theorem f234_9 : mFetch 234 9 = some (.aload_n 0, 1, 0, 0, 0, 0) := by decide +kernel
theorem f234_10 : mFetch 234 10 = some (.getfield 362, 3, 12, 28, 0, 1) := by decide +kernel
theorem f234_13 : mFetch 234 13 = some (.if_icmp .ge 97, 3, 110, 0, 0, 0) := by decide +kernel
theorem f234_16 : mFetch 234 16 = some (.aload_n 0, 1, 0, 0, 0, 0) := by decide +kernel
theorem f234_17 : mFetch 234 17 = some (.getfield 362, 3, 12, 28, 0, 1) := by decide +kernel
theorem f234_20 : mFetch 234 20 = some (.iconst 1, 1, 0, 0, 0, 0) := by decide +kernel
theorem f234_21 : mFetch 234 21 = some (.isub, 1, 0, 0, 0, 0) := by decide +kernel
theorem f234_22 : mFetch 234 22 = some (.iload 4, 2, 0, 0, 0, 0) := by decide +kernel
theorem f234_24 : mFetch 234 24 = some (.isub, 1, 0, 0, 0, 0) := by decide +kernel
theorem f234_25 : mFetch 234 25 = some (.invokestatic 365, 3, 233, 0, 1, 99) := by decide +kernel
theorem f234_28 : mFetch 234 28 = some (.istore 5, 2, 0, 0, 0, 0) := by decide +kernel
theorem f234_30 : mFetch 234 30 = some (.iload_n 2, 1, 0, 0, 0, 0) := by decide +kernel
theorem f234_31 : mFetch 234 31 = some (.iload 5, 2, 0, 0, 0, 0) := by decide +kernel
theorem f234_33 : mFetch 234 33 = some (.idiv, 1, 0, 0, 0, 0) := by decide +kernel
theorem f234_34 : mFetch 234 34 = some (.istore 6, 2, 0, 0, 0, 0) := by decide +kernel
theorem f234_36 : mFetch 234 36 = some (.iconst 0, 1, 0, 0, 0, 0) := by decide +kernel
theorem f234_37 : mFetch 234 37 = some (.istore 7, 2, 0, 0, 0, 0) := by decide +kernel
theorem f234_39 : mFetch 234 39 = some (.iload_n 3, 1, 0, 0, 0, 0) := by decide +kernel
theorem f234_40 : mFetch 234 40 = some (.iload 7, 2, 0, 0, 0, 0) := by decide +kernel
theorem f234_42 : mFetch 234 42 = some (.invokestatic 318, 3, 168, 0, 2, 99) := by decide +kernel
theorem f234_45 : mFetch 234 45 = some (.ifCond .ne 8, 3, 53, 0, 0, 0) := by decide +kernel
theorem f234_48 : mFetch 234 48 = some (.iload 6, 2, 0, 0, 0, 0) := by decide +kernel
theorem f234_50 : mFetch 234 50 = some (.ifCond .le 28, 3, 78, 0, 0, 0) := by decide +kernel
theorem f234_53 : mFetch 234 53 = some (.iload 6, 2, 0, 0, 0, 0) := by decide +kernel
theorem f234_55 : mFetch 234 55 = some (.iload_n 3, 1, 0, 0, 0, 0) := by decide +kernel
theorem f234_56 : mFetch 234 56 = some (.iload 7, 2, 0, 0, 0, 0) := by decide +kernel
theorem f234_58 : mFetch 234 58 = some (.invokestatic 318, 3, 168, 0, 2, 99) := by decide +kernel
theorem f234_61 : mFetch 234 61 = some (.ifCond .eq 7, 3, 68, 0, 0, 0) := by decide +kernel
theorem f234_64 : mFetch 234 64 = some (.iconst 0, 1, 0, 0, 0, 0) := by decide +kernel
theorem f234_65 : mFetch 234 65 = some (.goto 4, 3, 69, 0, 0, 0) := by decide +kernel
theorem f234_68 : mFetch 234 68 = some (.iconst 1, 1, 0, 0, 0, 0) := by decide +kernel
theorem f234_69 : mFetch 234 69 = some (.isub, 1, 0, 0, 0, 0) := by decide +kernel
theorem f234_70 : mFetch 234 70 = some (.istore 6, 2, 0, 0, 0, 0) := by decide +kernel
theorem f234_72 : mFetch 234 72 = some (.iinc 7 1, 3, 0, 0, 0, 0) := by decide +kernel
theorem f234_75 : mFetch 234 75 = some (.goto (-36), 3, 39, 0, 0, 0) := by decide +kernel
theorem f234_78 : mFetch 234 78 = some (.aload_n 0, 1, 0, 0, 0, 0) := by decide +kernel
theorem f234_79 : mFetch 234 79 = some (.getfield 52, 3, 12, 25, 2, 1) := by decide +kernel
theorem f234_82 : mFetch 234 82 = some (.iload 4, 2, 0, 0, 0, 0) := by decide +kernel
theorem f234_84 : mFetch 234 84 = some (.aload_n 0, 1, 0, 0, 0, 0) := by decide +kernel
theorem f234_85 : mFetch 234 85 = some (.getfield 49, 3, 12, 24, 2, 1) := by decide +kernel
theorem f234_88 : mFetch 234 88 = some (.iload 7, 2, 0, 0, 0, 0) := by decide +kernel
theorem f234_90 : mFetch 234 90 = some (.iaload, 1, 0, 0, 0, 0) := by decide +kernel
theorem f234_91 : mFetch 234 91 = some (.iastore, 1, 0, 0, 0, 0) := by decide +kernel
theorem f234_92 : mFetch 234 92 = some (.iload_n 3, 1, 0, 0, 0, 0) := by decide +kernel
theorem f234_93 : mFetch 234 93 = some (.iconst 1, 1, 0, 0, 0, 0) := by decide +kernel
theorem f234_94 : mFetch 234 94 = some (.iload 7, 2, 0, 0, 0, 0) := by decide +kernel
theorem f234_96 : mFetch 234 96 = some (.ishl, 1, 0, 0, 0, 0) := by decide +kernel
theorem f234_97 : mFetch 234 97 = some (.ior, 1, 0, 0, 0, 0) := by decide +kernel
theorem f234_98 : mFetch 234 98 = some (.istore_n 3, 1, 0, 0, 0, 0) := by decide +kernel
theorem f234_99 : mFetch 234 99 = some (.iload_n 2, 1, 0, 0, 0, 0) := by decide +kernel
theorem f234_100 : mFetch 234 100 = some (.iload 5, 2, 0, 0, 0, 0) := by decide +kernel
theorem f234_102 : mFetch 234 102 = some (.irem, 1, 0, 0, 0, 0) := by decide +kernel
theorem f234_103 : mFetch 234 103 = some (.istore_n 2, 1, 0, 0, 0, 0) := by decide +kernel
theorem f234_104 : mFetch 234 104 = some (.iinc 4 1, 3, 0, 0, 0, 0) := by decide +kernel
theorem f234_107 : mFetch 234 107 = some (.goto (-100), 3, 7, 0, 0, 0) := by decide +kernel
theorem f234_110 : mFetch 234 110 = some (.return_, 1, 0, 0, 0, 0) := by decide +kernel
theorem b234_0 {X : (Nat → Int) × Nat} {d : Nat} {s : mSt} {Q : mQ} {x1 : Int} {l2 : Option mV} {l3 : Option mV} {l4 : Option mV} {l5 : Option mV} {l6 : Option mV} {l7 : Option mV} (h_1 : Wp X d 234 7 [some (mR 407), some (mI x1), some (mI x1), some (mI 0), some (mI 0), l5, l6, l7] [] s Q) : Wp X d 234 0 [some (mR 407), some (mI x1), l2, l3, l4, l5, l6, l7] [] s Q := Wp_step k234 f234_0 (Wp_step k234 f234_1 (Wp_step k234 f234_2 (Wp_step k234 f234_3 (Wp_step k234 f234_4 (Wp_step k234 f234_5 (h_1))))))
theorem b234_7 {X : (Nat → Int) × Nat} {d : Nat} {s : mSt} {Q : mQ} {x1 : Int} {x2 : Int} {x3 : Int} {x4 : Int} {l5 : Option mV} {l6 : Option mV} {l7 : Option mV} (h_1 : (s 407 28) ≤ x4 → Wp X d 234 110 [some (mR 407), some (mI x1), some (mI x2), some (mI x3), some (mI x4), l5, l6, l7] [] s Q) (h_2 : ¬ (s 407 28) ≤ x4 → Wp X d 234 16 [some (mR 407), some (mI x1), some (mI x2), some (mI x3), some (mI x4), l5, l6, l7] [] s Q) : Wp X d 234 7 [some (mR 407), some (mI x1), some (mI x2), some (mI x3), some (mI x4), l5, l6, l7] [] s Q := Wp_step k234 f234_7 (Wp_step k234 f234_9 (Wp_step k234 f234_10 ⟨kf_407, Wp_step k234 f234_13 ⟨h_1, h_2⟩⟩))
theorem b234_16 {X : (Nat → Int) × Nat} {d : Nat} {s : mSt} {Q : mQ} {x1 : Int} {x2 : Int} {x3 : Int} {x4 : Int} {l5 : Option mV} {l6 : Option mV} {l7 : Option mV} (h_1 : Sp X d 233 [mI (w32 ((w32 ((s 407 28) - 1)) - x4))] s (fun r s' => ∃ v : Int, r = some (mI v) ∧ Wp X (d + 1) 234 28 [some (mR 407), some (mI x1), some (mI x2), some (mI x3), some (mI x4), l5, l6, l7] [mI v] s' Q)) : Wp X (d + 1) 234 16 [some (mR 407), some (mI x1), some (mI x2), some (mI x3), some (mI x4), l5, l6, l7] [] s Q := Wp_step k234 f234_16 (Wp_step k234 f234_17 ⟨kf_407, Wp_step k234 f234_20 (Wp_step k234 f234_21 (Wp_step k234 f234_22 (Wp_step k234 f234_24 (Wp_step k234 f234_25 ⟨⟨Nat.le_of_ble_eq_true rfl, Nat.le_refl _⟩, _, rfl, Sp_E h_1⟩))))⟩)
theorem b234_28 {X : (Nat → Int) × Nat} {d : Nat} {s : mSt} {Q : mQ} {x1 : Int} {x2 : Int} {x3 : Int} {x4 : Int} {l5 : Option mV} {l6 : Option mV} {l7 : Option mV} {xt0 : Int} (h_1 : xt0 ≠ 0) (h_2 : Wp X d 234 39 [some (mR 407), some (mI x1), some (mI x2), some (mI x3), some (mI x4), some (mI xt0), some (mI (w32 (Int.tdiv x2 xt0))), some (mI 0)] [] s Q) : Wp X d 234 28 [some (mR 407), some (mI x1), some (mI x2), some (mI x3), some (mI x4), l5, l6, l7] [mI xt0] s Q := Wp_step k234 f234_28 (Wp_step k234 f234_30 (Wp_step k234 f234_31 (Wp_step k234 f234_33 ⟨h_1, Wp_step k234 f234_34 (Wp_step k234 f234_36 (Wp_step k234 f234_37 (h_2)))⟩)))
theorem b234_39 {X : (Nat → Int) × Nat} {d : Nat} {s : mSt} {Q : mQ} {x1 : Int} {x2 : Int} {x3 : Int} {x4 : Int} {x5 : Int} {x6 : Int} {x7 : Int} (h_1 : Sp X d 168 [mI x3, mI x7] s (fun r s' => ∃ v : Int, r = some (mI v) ∧ Wp X (d + 1) 234 45 [some (mR 407), some (mI x1), some (mI x2), some (mI x3), some (mI x4), some (mI x5), some (mI x6), some (mI x7)] [mI v] s' Q)) : Wp X (d + 1) 234 39 [some (mR 407), some (mI x1), some (mI x2), some (mI x3), some (mI x4), some (mI x5), some (mI x6), some (mI x7)] [] s Q := Wp_step k234 f234_39 (Wp_step k234 f234_40 (Wp_step k234 f234_42 ⟨⟨Nat.le_of_ble_eq_true rfl, Nat.le_refl _⟩, _, rfl, Sp_E h_1⟩))
theorem b234_45 {X : (Nat → Int) × Nat} {d : Nat} {s : mSt} {Q : mQ} {x1 : Int} {x2 : Int} {x3 : Int} {x4 : Int} {x5 : Int} {x6 : Int} {x7 : Int} {xt0 : Int} (h_1 : ¬ xt0 = 0 → Wp X d 234 53 [some (mR 407), some (mI x1), some (mI x2), some (mI x3), some (mI x4), some (mI x5), some (mI x6), some (mI x7)] [] s Q) (h_2 : xt0 = 0 → Wp X d 234 48 [some (mR 407), some (mI x1), some (mI x2), some (mI x3), some (mI x4), some (mI x5), some (mI x6), some (mI x7)] [] s Q) : Wp X d 234 45 [some (mR 407), some (mI x1), some (mI x2), some (mI x3), some (mI x4), some (mI x5), some (mI x6), some (mI x7)] [mI xt0] s Q := Wp_step k234 f234_45 ⟨h_1, h_2⟩
theorem b234_48 {X : (Nat → Int) × Nat} {d : Nat} {s : mSt} {Q : mQ} {x1 : Int} {x2 : Int} {x3 : Int} {x4 : Int} {x5 : Int} {x6 : Int} {x7 : Int} (h_1 : x6 ≤ 0 → Wp X d 234 78 [some (mR 407), some (mI x1), some (mI x2), some (mI x3), some (mI x4), some (mI x5), some (mI x6), some (mI x7)] [] s Q) (h_2 : ¬ x6 ≤ 0 → Wp X d 234 53 [some (mR 407), some (mI x1), some (mI x2), some (mI x3), some (mI x4), some (mI x5), some (mI x6), some (mI x7)] [] s Q) : Wp X d 234 48 [some (mR 407), some (mI x1), some (mI x2), some (mI x3), some (mI x4), some (mI x5), some (mI x6), some (mI x7)] [] s Q := Wp_step k234 f234_48 (Wp_step k234 f234_50 ⟨h_1, h_2⟩)
theorem b234_53 {X : (Nat → Int) × Nat} {d : Nat} {s : mSt} {Q : mQ} {x1 : Int} {x2 : Int} {x3 : Int} {x4 : Int} {x5 : Int} {x6 : Int} {x7 : Int} (h_1 : Sp X d 168 [mI x3, mI x7] s (fun r s' => ∃ v : Int, r = some (mI v) ∧ Wp X (d + 1) 234 61 [some (mR 407), some (mI x1), some (mI x2), some (mI x3), some (mI x4), some (mI x5), some (mI x6), some (mI x7)] [mI v, mI x6] s' Q)) : Wp X (d + 1) 234 53 [some (mR 407), some (mI x1), some (mI x2), some (mI x3), some (mI x4), some (mI x5), some (mI x6), some (mI x7)] [] s Q := Wp_step k234 f234_53 (Wp_step k234 f234_55 (Wp_step k234 f234_56 (Wp_step k234 f234_58 ⟨⟨Nat.le_of_ble_eq_true rfl, Nat.le_refl _⟩, _, rfl, Sp_E h_1⟩)))
theorem b234_61 {X : (Nat → Int) × Nat} {d : Nat} {s : mSt} {Q : mQ} {x1 : Int} {x2 : Int} {x3 : Int} {x4 : Int} {x5 : Int} {x6 : Int} {x7 : Int} {xt0 : Int} {xt1 : Int} (h_1 : xt1 = 0 → Wp X d 234 68 [some (mR 407), some (mI x1), some (mI x2), some (mI x3), some (mI x4), some (mI x5), some (mI x6), some (mI x7)] [mI xt0] s Q) (h_2 : ¬ xt1 = 0 → Wp X d 234 64 [some (mR 407), some (mI x1), some (mI x2), some (mI x3), some (mI x4), some (mI x5), some (mI x6), some (mI x7)] [mI xt0] s Q) : Wp X d 234 61 [some (mR 407), some (mI x1), some (mI x2), some (mI x3), some (mI x4), some (mI x5), some (mI x6), some (mI x7)] [mI xt1, mI xt0] s Q := Wp_step k234 f234_61 ⟨h_1, h_2⟩
theorem b234_64 {X : (Nat → Int) × Nat} {d : Nat} {s : mSt} {Q : mQ} {x1 : Int} {x2 : Int} {x3 : Int} {x4 : Int} {x5 : Int} {x6 : Int} {x7 : Int} {xt0 : Int} (h_1 : Wp X d 234 69 [some (mR 407), some (mI x1), some (mI x2), some (mI x3), some (mI x4), some (mI x5), some (mI x6), some (mI x7)] [mI 0, mI xt0] s Q) : Wp X d 234 64 [some (mR 407), some (mI x1), some (mI x2), some (mI x3), some (mI x4), some (mI x5), some (mI x6), some (mI x7)] [mI xt0] s Q := Wp_step k234 f234_64 (Wp_step k234 f234_65 (h_1))
theorem b234_68 {X : (Nat → Int) × Nat} {d : Nat} {s : mSt} {Q : mQ} {x1 : Int} {x2 : Int} {x3 : Int} {x4 : Int} {x5 : Int} {x6 : Int} {x7 : Int} {xt0 : Int} (h_1 : Wp X d 234 69 [some (mR 407), some (mI x1), some (mI x2), some (mI x3), some (mI x4), some (mI x5), some (mI x6), some (mI x7)] [mI 1, mI xt0] s Q) : Wp X d 234 68 [some (mR 407), some (mI x1), some (mI x2), some (mI x3), some (mI x4), some (mI x5), some (mI x6), some (mI x7)] [mI xt0] s Q := Wp_step k234 f234_68 (h_1)
theorem b234_69 {X : (Nat → Int) × Nat} {d : Nat} {s : mSt} {Q : mQ} {x1 : Int} {x2 : Int} {x3 : Int} {x4 : Int} {x5 : Int} {x6 : Int} {x7 : Int} {xt0 : Int} {xt1 : Int} (h_1 : Wp X d 234 39 [some (mR 407), some (mI x1), some (mI x2), some (mI x3), some (mI x4), some (mI x5), some (mI (w32 (xt0 - xt1))), some (mI (w32 (x7 + 1)))] [] s Q) : Wp X d 234 69 [some (mR 407), some (mI x1), some (mI x2), some (mI x3), some (mI x4), some (mI x5), some (mI x6), some (mI x7)] [mI xt1, mI xt0] s Q := Wp_step k234 f234_69 (Wp_step k234 f234_70 (Wp_step k234 f234_72 (Wp_step k234 f234_75 (h_1))))
theorem b234_78 {X : (Nat → Int) × Nat} {d : Nat} {s : mSt} {Q : mQ} {x1 : Int} {x2 : Int} {x3 : Int} {x4 : Int} {x5 : Int} {x6 : Int} {x7 : Int} (h_1 : 0 ≤ x7 ∧ x7 < 5) (h_2 : 0 ≤ x4 ∧ x4 < 5) (h_3 : x5 ≠ 0) (h_4 : Wp X d 234 7 [some (mR 407), some (mI x1), some (mI (Int.tmod x2 x5)), some (mI (iOr x3 (iShl 1 x7))), some (mI (w32 (x4 + 1))), some (mI x5), some (mI x6), some (mI x7)] [] (uS s 420 x4.toNat (s 419 x7.toNat)) Q) : Wp X d 234 78 [some (mR 407), some (mI x1), some (mI x2), some (mI x3), some (mI x4), some (mI x5), some (mI x6), some (mI x7)] [] s Q := Wp_step k234 f234_78 (Wp_step k234 f234_79 ⟨kf_407, 420, rf_407_25, Wp_step k234 f234_82 (Wp_step k234 f234_84 (Wp_step k234 f234_85 ⟨kf_407, 419, rf_407_24, Wp_step k234 f234_88 (Wp_step k234 f234_90 ⟨5, af_419, h_1, Wp_step k234 f234_91 ⟨5, af_420, h_2, Wp_step k234 f234_92 (Wp_step k234 f234_93 (Wp_step k234 f234_94 (Wp_step k234 f234_96 (Wp_step k234 f234_97 (Wp_step k234 f234_98 (Wp_step k234 f234_99 (Wp_step k234 f234_100 (Wp_step k234 f234_102 ⟨h_3, Wp_step k234 f234_103 (Wp_step k234 f234_104 (Wp_step k234 f234_107 (h_4)))⟩))))))))⟩⟩)⟩))⟩)
theorem b234_110 {X : (Nat → Int) × Nat} {d : Nat} {s : mSt} {Q : mQ} {x1 : Int} {x2 : Int} {x3 : Int} {x4 : Int} {l5 : Option mV} {l6 : Option mV} {l7 : Option mV} (h_1 : Q none s) : Wp X d 234 110 [some (mR 407), some (mI x1), some (mI x2), some (mI x3), some (mI x4), l5, l6, l7] [] s Q := Wp_step k234 f234_110 ⟨⟨rfl, Or.inl rfl⟩, h_1⟩
theorem e234 {X : (Nat → Int) × Nat} {d : Nat} {s : mSt} {Q : mQ} {x1 : Int} (h : Wp X d 234 0 [some (mR 407), some (mI x1), none, none, none, none, none, none] [] s Q) : Sp X d 234 [mR 407, mI x1] s Q := Sp_of (show mCe 234 = 0 by decide +kernel) (by rw [show mML 234 = 8 by decide +kernel]; rfl) (Nat.le_trans (Nat.le_of_ble_eq_true (show Nat.ble (mArgs _).length 8 = true from rfl)) (show 8 ≤ mML 234 by decide +kernel)) h
-- 235 ClashDayModel.areFree(II)Z
theorem k235 : mRk 235 = 2 := by decide +kernel
theorem f235_0 : mFetch 235 0 = some (.iload_n 1, 1, 0, 0, 0, 0) := by decide +kernel
theorem f235_1 : mFetch 235 1 = some (.istore_n 3, 1, 0, 0, 0, 0) := by decide +kernel
theorem f235_2 : mFetch 235 2 = some (.iload_n 3, 1, 0, 0, 0, 0) := by decide +kernel
theorem f235_3 : mFetch 235 3 = some (.iload_n 1, 1, 0, 0, 0, 0) := by decide +kernel
theorem f235_4 : mFetch 235 4 = some (.iload_n 2, 1, 0, 0, 0, 0) := by decide +kernel
theorem f235_5 : mFetch 235 5 = some (.iadd, 1, 0, 0, 0, 0) := by decide +kernel
theorem f235_6 : mFetch 235 6 = some (.if_icmp .ge 20, 3, 26, 0, 0, 0) := by decide +kernel
theorem f235_9 : mFetch 235 9 = some (.aload_n 0, 1, 0, 0, 0, 0) := by decide +kernel
theorem f235_10 : mFetch 235 10 = some (.getfield 46, 3, 12, 23, 2, 1) := by decide +kernel
theorem f235_13 : mFetch 235 13 = some (.iload_n 3, 1, 0, 0, 0, 0) := by decide +kernel
theorem f235_14 : mFetch 235 14 = some (.iaload, 1, 0, 0, 0, 0) := by decide +kernel
theorem f235_15 : mFetch 235 15 = some (.ifCond .ne 5, 3, 20, 0, 0, 0) := by decide +kernel
theorem f235_18 : mFetch 235 18 = some (.iconst 0, 1, 0, 0, 0, 0) := by decide +kernel
theorem f235_19 : mFetch 235 19 = some (.ireturn, 1, 0, 0, 0, 0) := by decide +kernel
theorem f235_20 : mFetch 235 20 = some (.iinc 3 1, 3, 0, 0, 0, 0) := by decide +kernel
theorem f235_23 : mFetch 235 23 = some (.goto (-21), 3, 2, 0, 0, 0) := by decide +kernel
theorem f235_26 : mFetch 235 26 = some (.iconst 1, 1, 0, 0, 0, 0) := by decide +kernel
theorem f235_27 : mFetch 235 27 = some (.ireturn, 1, 0, 0, 0, 0) := by decide +kernel
theorem b235_0 {X : (Nat → Int) × Nat} {d : Nat} {s : mSt} {Q : mQ} {x1 : Int} {x2 : Int} {l3 : Option mV} (h_1 : Wp X d 235 2 [some (mR 407), some (mI x1), some (mI x2), some (mI x1)] [] s Q) : Wp X d 235 0 [some (mR 407), some (mI x1), some (mI x2), l3] [] s Q := Wp_step k235 f235_0 (Wp_step k235 f235_1 (h_1))
theorem b235_2 {X : (Nat → Int) × Nat} {d : Nat} {s : mSt} {Q : mQ} {x1 : Int} {x2 : Int} {x3 : Int} (h_1 : (w32 (x1 + x2)) ≤ x3 → Wp X d 235 26 [some (mR 407), some (mI x1), some (mI x2), some (mI x3)] [] s Q) (h_2 : ¬ (w32 (x1 + x2)) ≤ x3 → Wp X d 235 9 [some (mR 407), some (mI x1), some (mI x2), some (mI x3)] [] s Q) : Wp X d 235 2 [some (mR 407), some (mI x1), some (mI x2), some (mI x3)] [] s Q := Wp_step k235 f235_2 (Wp_step k235 f235_3 (Wp_step k235 f235_4 (Wp_step k235 f235_5 (Wp_step k235 f235_6 ⟨h_1, h_2⟩))))
theorem b235_9 {X : (Nat → Int) × Nat} {d : Nat} {s : mSt} {Q : mQ} {x1 : Int} {x2 : Int} {x3 : Int} (h_1 : 0 ≤ x3 ∧ x3 < 30) (h_2 : ¬ (s 418 x3.toNat) = 0 → Wp X d 235 20 [some (mR 407), some (mI x1), some (mI x2), some (mI x3)] [] s Q) (h_3 : (s 418 x3.toNat) = 0 → Wp X d 235 18 [some (mR 407), some (mI x1), some (mI x2), some (mI x3)] [] s Q) : Wp X d 235 9 [some (mR 407), some (mI x1), some (mI x2), some (mI x3)] [] s Q := Wp_step k235 f235_9 (Wp_step k235 f235_10 ⟨kf_407, 418, rf_407_23, Wp_step k235 f235_13 (Wp_step k235 f235_14 ⟨30, af_418, h_1, Wp_step k235 f235_15 ⟨h_2, h_3⟩⟩)⟩)
theorem b235_18 {X : (Nat → Int) × Nat} {d : Nat} {s : mSt} {Q : mQ} {x1 : Int} {x2 : Int} {x3 : Int} (h_1 : Q (some (mI 0)) s) : Wp X d 235 18 [some (mR 407), some (mI x1), some (mI x2), some (mI x3)] [] s Q := Wp_step k235 f235_18 (Wp_step k235 f235_19 ⟨⟨rfl, (Or.inl rfl)⟩, h_1⟩)
theorem b235_20 {X : (Nat → Int) × Nat} {d : Nat} {s : mSt} {Q : mQ} {x1 : Int} {x2 : Int} {x3 : Int} (h_1 : Wp X d 235 2 [some (mR 407), some (mI x1), some (mI x2), some (mI (w32 (x3 + 1)))] [] s Q) : Wp X d 235 20 [some (mR 407), some (mI x1), some (mI x2), some (mI x3)] [] s Q := Wp_step k235 f235_20 (Wp_step k235 f235_23 (h_1))
theorem b235_26 {X : (Nat → Int) × Nat} {d : Nat} {s : mSt} {Q : mQ} {x1 : Int} {x2 : Int} {x3 : Int} (h_1 : Q (some (mI 1)) s) : Wp X d 235 26 [some (mR 407), some (mI x1), some (mI x2), some (mI x3)] [] s Q := Wp_step k235 f235_26 (Wp_step k235 f235_27 ⟨⟨rfl, (Or.inr rfl)⟩, h_1⟩)
theorem e235 {X : (Nat → Int) × Nat} {d : Nat} {s : mSt} {Q : mQ} {x1 : Int} {x2 : Int} (h : Wp X d 235 0 [some (mR 407), some (mI x1), some (mI x2), none] [] s Q) : Sp X d 235 [mR 407, mI x1, mI x2] s Q := Sp_of (show mCe 235 = 0 by decide +kernel) (by rw [show mML 235 = 4 by decide +kernel]; rfl) (Nat.le_trans (Nat.le_of_ble_eq_true (show Nat.ble (mArgs _).length 4 = true from rfl)) (show 4 ≤ mML 235 by decide +kernel)) h
-- 236 ClashDayModel.dayOf(I)I
theorem k236 : mRk 236 = 1 := by decide +kernel
theorem f236_0 : mFetch 236 0 = some (.iload_n 0, 1, 0, 0, 0, 0) := by decide +kernel
theorem f236_1 : mFetch 236 1 = some (.bipush 20, 2, 0, 0, 0, 0) := by decide +kernel
theorem f236_3 : mFetch 236 3 = some (.if_icmp .ge 7, 3, 10, 0, 0, 0) := by decide +kernel
theorem f236_6 : mFetch 236 6 = some (.iconst 0, 1, 0, 0, 0, 0) := by decide +kernel
theorem f236_7 : mFetch 236 7 = some (.goto 4, 3, 11, 0, 0, 0) := by decide +kernel
theorem f236_10 : mFetch 236 10 = some (.iconst 1, 1, 0, 0, 0, 0) := by decide +kernel
theorem f236_11 : mFetch 236 11 = some (.ireturn, 1, 0, 0, 0, 0) := by decide +kernel
theorem b236_0 {X : (Nat → Int) × Nat} {d : Nat} {s : mSt} {Q : mQ} {x0 : Int} (h_1 : 20 ≤ x0 → Wp X d 236 10 [some (mI x0)] [] s Q) (h_2 : ¬ 20 ≤ x0 → Wp X d 236 6 [some (mI x0)] [] s Q) : Wp X d 236 0 [some (mI x0)] [] s Q := Wp_step k236 f236_0 (Wp_step k236 f236_1 (Wp_step k236 f236_3 ⟨h_1, h_2⟩))
theorem b236_6 {X : (Nat → Int) × Nat} {d : Nat} {s : mSt} {Q : mQ} {x0 : Int} (h_1 : Wp X d 236 11 [some (mI x0)] [mI 0] s Q) : Wp X d 236 6 [some (mI x0)] [] s Q := Wp_step k236 f236_6 (Wp_step k236 f236_7 (h_1))
theorem b236_10 {X : (Nat → Int) × Nat} {d : Nat} {s : mSt} {Q : mQ} {x0 : Int} (h_1 : Wp X d 236 11 [some (mI x0)] [mI 1] s Q) : Wp X d 236 10 [some (mI x0)] [] s Q := Wp_step k236 f236_10 (h_1)
theorem b236_11 {X : (Nat → Int) × Nat} {d : Nat} {s : mSt} {Q : mQ} {x0 : Int} {xt0 : Int} (h_1 : Q (some (mI xt0)) s) : Wp X d 236 11 [some (mI x0)] [mI xt0] s Q := Wp_step k236 f236_11 ⟨⟨rfl, trivial⟩, h_1⟩
theorem e236 {X : (Nat → Int) × Nat} {d : Nat} {s : mSt} {Q : mQ} {x0 : Int} (h : Wp X d 236 0 [some (mI x0)] [] s Q) : Sp X d 236 [mI x0] s Q := Sp_of (show mCe 236 = 0 by decide +kernel) (by rw [show mML 236 = 1 by decide +kernel]; rfl) (Nat.le_trans (Nat.le_of_ble_eq_true (show Nat.ble (mArgs _).length 1 = true from rfl)) (show 1 ≤ mML 236 by decide +kernel)) h
-- 237 ClashDayModel.leastSlot(IIIII)I
theorem k237 : mRk 237 = 1 := by decide +kernel
theorem f237_0 : mFetch 237 0 = some (.aload_n 0, 1, 0, 0, 0, 0) := by decide +kernel
theorem f237_1 : mFetch 237 1 = some (.iload_n 1, 1, 0, 0, 0, 0) := by decide +kernel
theorem f237_2 : mFetch 237 2 = some (.iload_n 2, 1, 0, 0, 0, 0) := by decide +kernel
theorem f237_3 : mFetch 237 3 = some (.invokevirtual 324, 3, 219, 0, 3, 12) := by decide +kernel
theorem f237_6 : mFetch 237 6 = some (.istore 6, 2, 0, 0, 0, 0) := by decide +kernel
theorem f237_8 : mFetch 237 8 = some (.aload_n 0, 1, 0, 0, 0, 0) := by decide +kernel
theorem f237_9 : mFetch 237 9 = some (.getfield 39, 3, 12, 20, 2, 1) := by decide +kernel
theorem f237_12 : mFetch 237 12 = some (.bipush 6, 2, 0, 0, 0, 0) := by decide +kernel
theorem f237_14 : mFetch 237 14 = some (.iload_n 2, 1, 0, 0, 0, 0) := by decide +kernel
theorem f237_15 : mFetch 237 15 = some (.iadd, 1, 0, 0, 0, 0) := by decide +kernel
theorem f237_16 : mFetch 237 16 = some (.iaload, 1, 0, 0, 0, 0) := by decide +kernel
theorem f237_17 : mFetch 237 17 = some (.istore 7, 2, 0, 0, 0, 0) := by decide +kernel
theorem f237_19 : mFetch 237 19 = some (.iload 7, 2, 0, 0, 0, 0) := by decide +kernel
theorem f237_21 : mFetch 237 21 = some (.iload 6, 2, 0, 0, 0, 0) := by decide +kernel
theorem f237_23 : mFetch 237 23 = some (.iadd, 1, 0, 0, 0, 0) := by decide +kernel
theorem f237_24 : mFetch 237 24 = some (.bipush 30, 2, 0, 0, 0, 0) := by decide +kernel
theorem f237_26 : mFetch 237 26 = some (.if_icmp .gt 107, 3, 133, 0, 0, 0) := by decide +kernel
theorem f237_29 : mFetch 237 29 = some (.iload 7, 2, 0, 0, 0, 0) := by decide +kernel
theorem f237_31 : mFetch 237 31 = some (.invokestatic 368, 3, 236, 0, 1, 99) := by decide +kernel
theorem f237_34 : mFetch 237 34 = some (.iload 7, 2, 0, 0, 0, 0) := by decide +kernel
theorem f237_36 : mFetch 237 36 = some (.iload 6, 2, 0, 0, 0, 0) := by decide +kernel
theorem f237_38 : mFetch 237 38 = some (.iadd, 1, 0, 0, 0, 0) := by decide +kernel
theorem f237_39 : mFetch 237 39 = some (.iconst 1, 1, 0, 0, 0, 0) := by decide +kernel
theorem f237_40 : mFetch 237 40 = some (.isub, 1, 0, 0, 0, 0) := by decide +kernel
theorem f237_41 : mFetch 237 41 = some (.invokestatic 368, 3, 236, 0, 1, 99) := by decide +kernel
theorem f237_44 : mFetch 237 44 = some (.if_icmp .ne 83, 3, 127, 0, 0, 0) := by decide +kernel
theorem f237_47 : mFetch 237 47 = some (.iload 7, 2, 0, 0, 0, 0) := by decide +kernel
theorem f237_49 : mFetch 237 49 = some (.invokestatic 368, 3, 236, 0, 1, 99) := by decide +kernel
theorem f237_52 : mFetch 237 52 = some (.ifCond .ne 20, 3, 72, 0, 0, 0) := by decide +kernel
theorem f237_55 : mFetch 237 55 = some (.iload 5, 2, 0, 0, 0, 0) := by decide +kernel
theorem f237_57 : mFetch 237 57 = some (.iload 6, 2, 0, 0, 0, 0) := by decide +kernel
theorem f237_59 : mFetch 237 59 = some (.iadd, 1, 0, 0, 0, 0) := by decide +kernel
theorem f237_60 : mFetch 237 60 = some (.aload_n 0, 1, 0, 0, 0, 0) := by decide +kernel
theorem f237_61 : mFetch 237 61 = some (.getfield 39, 3, 12, 20, 2, 1) := by decide +kernel
theorem f237_64 : mFetch 237 64 = some (.iconst 2, 1, 0, 0, 0, 0) := by decide +kernel
theorem f237_65 : mFetch 237 65 = some (.iaload, 1, 0, 0, 0, 0) := by decide +kernel
theorem f237_66 : mFetch 237 66 = some (.if_icmp .le 6, 3, 72, 0, 0, 0) := by decide +kernel
theorem f237_69 : mFetch 237 69 = some (.goto 58, 3, 127, 0, 0, 0) := by decide +kernel
theorem f237_72 : mFetch 237 72 = some (.iload_n 3, 1, 0, 0, 0, 0) := by decide +kernel
theorem f237_73 : mFetch 237 73 = some (.ifCond .lt 40, 3, 113, 0, 0, 0) := by decide +kernel
theorem f237_76 : mFetch 237 76 = some (.iload 7, 2, 0, 0, 0, 0) := by decide +kernel
theorem f237_78 : mFetch 237 78 = some (.iload 4, 2, 0, 0, 0, 0) := by decide +kernel
theorem f237_80 : mFetch 237 80 = some (.iload_n 3, 1, 0, 0, 0, 0) := by decide +kernel
theorem f237_81 : mFetch 237 81 = some (.invokestatic 368, 3, 236, 0, 1, 99) := by decide +kernel
theorem f237_84 : mFetch 237 84 = some (.iload 7, 2, 0, 0, 0, 0) := by decide +kernel
theorem f237_86 : mFetch 237 86 = some (.invokestatic 368, 3, 236, 0, 1, 99) := by decide +kernel
theorem f237_89 : mFetch 237 89 = some (.if_icmp .ne 16, 3, 105, 0, 0, 0) := by decide +kernel
theorem f237_92 : mFetch 237 92 = some (.aload_n 0, 1, 0, 0, 0, 0) := by decide +kernel
theorem f237_93 : mFetch 237 93 = some (.getfield 39, 3, 12, 20, 2, 1) := by decide +kernel
theorem f237_96 : mFetch 237 96 = some (.sipush 129, 3, 0, 0, 0, 0) := by decide +kernel
theorem f237_99 : mFetch 237 99 = some (.iload_n 1, 1, 0, 0, 0, 0) := by decide +kernel
theorem f237_100 : mFetch 237 100 = some (.iadd, 1, 0, 0, 0, 0) := by decide +kernel
theorem f237_101 : mFetch 237 101 = some (.iaload, 1, 0, 0, 0, 0) := by decide +kernel
theorem f237_102 : mFetch 237 102 = some (.goto 4, 3, 106, 0, 0, 0) := by decide +kernel
theorem f237_105 : mFetch 237 105 = some (.iconst 0, 1, 0, 0, 0, 0) := by decide +kernel
theorem f237_106 : mFetch 237 106 = some (.iadd, 1, 0, 0, 0, 0) := by decide +kernel
theorem f237_107 : mFetch 237 107 = some (.if_icmp .ge 6, 3, 113, 0, 0, 0) := by decide +kernel
theorem f237_110 : mFetch 237 110 = some (.goto 17, 3, 127, 0, 0, 0) := by decide +kernel
theorem f237_113 : mFetch 237 113 = some (.aload_n 0, 1, 0, 0, 0, 0) := by decide +kernel
theorem f237_114 : mFetch 237 114 = some (.iload 7, 2, 0, 0, 0, 0) := by decide +kernel
theorem f237_116 : mFetch 237 116 = some (.iload 6, 2, 0, 0, 0, 0) := by decide +kernel
theorem f237_118 : mFetch 237 118 = some (.invokevirtual 371, 3, 235, 0, 3, 12) := by decide +kernel
theorem f237_121 : mFetch 237 121 = some (.ifCond .eq 6, 3, 127, 0, 0, 0) := by decide +kernel
theorem f237_124 : mFetch 237 124 = some (.iload 7, 2, 0, 0, 0, 0) := by decide +kernel
theorem f237_126 : mFetch 237 126 = some (.ireturn, 1, 0, 0, 0, 0) := by decide +kernel
theorem f237_127 : mFetch 237 127 = some (.iinc 7 1, 3, 0, 0, 0, 0) := by decide +kernel
theorem f237_130 : mFetch 237 130 = some (.goto (-111), 3, 19, 0, 0, 0) := by decide +kernel
theorem f237_133 : mFetch 237 133 = some (.iconst (-1), 1, 0, 0, 0, 0) := by decide +kernel
theorem f237_134 : mFetch 237 134 = some (.ireturn, 1, 0, 0, 0, 0) := by decide +kernel
theorem b237_0 {X : (Nat → Int) × Nat} {d : Nat} {s : mSt} {Q : mQ} {x1 : Int} {x2 : Int} {x3 : Int} {x4 : Int} {x5 : Int} {l6 : Option mV} {l7 : Option mV} (h_1 : Sp X d 219 [mR 407, mI x1, mI x2] s (fun r s' => ∃ v : Int, r = some (mI v) ∧ Wp X (d + 1) 237 6 [some (mR 407), some (mI x1), some (mI x2), some (mI x3), some (mI x4), some (mI x5), l6, l7] [mI v] s' Q)) : Wp X (d + 1) 237 0 [some (mR 407), some (mI x1), some (mI x2), some (mI x3), some (mI x4), some (mI x5), l6, l7] [] s Q := Wp_step k237 f237_0 (Wp_step k237 f237_1 (Wp_step k237 f237_2 (Wp_step k237 f237_3 ⟨⟨kf_407, Nat.le_of_ble_eq_true rfl⟩, Nat.le_refl _, _, rfl, Sp_E h_1⟩)))
theorem b237_6 {X : (Nat → Int) × Nat} {d : Nat} {s : mSt} {Q : mQ} {x1 : Int} {x2 : Int} {x3 : Int} {x4 : Int} {x5 : Int} {l6 : Option mV} {l7 : Option mV} {xt0 : Int} (h_1 : 0 ≤ (w32 (6 + x2)) ∧ (w32 (6 + x2)) < 166) (h_2 : Wp X d 237 19 [some (mR 407), some (mI x1), some (mI x2), some (mI x3), some (mI x4), some (mI x5), some (mI xt0), some (mI (s 417 (w32 (6 + x2)).toNat))] [] s Q) : Wp X d 237 6 [some (mR 407), some (mI x1), some (mI x2), some (mI x3), some (mI x4), some (mI x5), l6, l7] [mI xt0] s Q := Wp_step k237 f237_6 (Wp_step k237 f237_8 (Wp_step k237 f237_9 ⟨kf_407, 417, rf_407_20, Wp_step k237 f237_12 (Wp_step k237 f237_14 (Wp_step k237 f237_15 (Wp_step k237 f237_16 ⟨166, af_417, h_1, Wp_step k237 f237_17 (h_2)⟩)))⟩))
theorem b237_19 {X : (Nat → Int) × Nat} {d : Nat} {s : mSt} {Q : mQ} {x1 : Int} {x2 : Int} {x3 : Int} {x4 : Int} {x5 : Int} {x6 : Int} {x7 : Int} (h_1 : 30 < (w32 (x7 + x6)) → Wp X d 237 133 [some (mR 407), some (mI x1), some (mI x2), some (mI x3), some (mI x4), some (mI x5), some (mI x6), some (mI x7)] [] s Q) (h_2 : ¬ 30 < (w32 (x7 + x6)) → Wp X d 237 29 [some (mR 407), some (mI x1), some (mI x2), some (mI x3), some (mI x4), some (mI x5), some (mI x6), some (mI x7)] [] s Q) : Wp X d 237 19 [some (mR 407), some (mI x1), some (mI x2), some (mI x3), some (mI x4), some (mI x5), some (mI x6), some (mI x7)] [] s Q := Wp_step k237 f237_19 (Wp_step k237 f237_21 (Wp_step k237 f237_23 (Wp_step k237 f237_24 (Wp_step k237 f237_26 ⟨h_1, h_2⟩))))
theorem b237_29 {X : (Nat → Int) × Nat} {d : Nat} {s : mSt} {Q : mQ} {x1 : Int} {x2 : Int} {x3 : Int} {x4 : Int} {x5 : Int} {x6 : Int} {x7 : Int} (h_1 : Sp X d 236 [mI x7] s (fun r s' => ∃ v : Int, r = some (mI v) ∧ Wp X (d + 1) 237 34 [some (mR 407), some (mI x1), some (mI x2), some (mI x3), some (mI x4), some (mI x5), some (mI x6), some (mI x7)] [mI v] s' Q)) : Wp X (d + 1) 237 29 [some (mR 407), some (mI x1), some (mI x2), some (mI x3), some (mI x4), some (mI x5), some (mI x6), some (mI x7)] [] s Q := Wp_step k237 f237_29 (Wp_step k237 f237_31 ⟨⟨Nat.le_of_ble_eq_true rfl, Nat.le_refl _⟩, _, rfl, Sp_E h_1⟩)
theorem b237_34 {X : (Nat → Int) × Nat} {d : Nat} {s : mSt} {Q : mQ} {x1 : Int} {x2 : Int} {x3 : Int} {x4 : Int} {x5 : Int} {x6 : Int} {x7 : Int} {xt0 : Int} (h_1 : Sp X d 236 [mI (w32 ((w32 (x7 + x6)) - 1))] s (fun r s' => ∃ v : Int, r = some (mI v) ∧ Wp X (d + 1) 237 44 [some (mR 407), some (mI x1), some (mI x2), some (mI x3), some (mI x4), some (mI x5), some (mI x6), some (mI x7)] [mI v, mI xt0] s' Q)) : Wp X (d + 1) 237 34 [some (mR 407), some (mI x1), some (mI x2), some (mI x3), some (mI x4), some (mI x5), some (mI x6), some (mI x7)] [mI xt0] s Q := Wp_step k237 f237_34 (Wp_step k237 f237_36 (Wp_step k237 f237_38 (Wp_step k237 f237_39 (Wp_step k237 f237_40 (Wp_step k237 f237_41 ⟨⟨Nat.le_of_ble_eq_true rfl, Nat.le_refl _⟩, _, rfl, Sp_E h_1⟩)))))
theorem b237_44 {X : (Nat → Int) × Nat} {d : Nat} {s : mSt} {Q : mQ} {x1 : Int} {x2 : Int} {x3 : Int} {x4 : Int} {x5 : Int} {x6 : Int} {x7 : Int} {xt0 : Int} {xt1 : Int} (h_1 : ¬ xt0 = xt1 → Wp X d 237 127 [some (mR 407), some (mI x1), some (mI x2), some (mI x3), some (mI x4), some (mI x5), some (mI x6), some (mI x7)] [] s Q) (h_2 : xt0 = xt1 → Wp X d 237 47 [some (mR 407), some (mI x1), some (mI x2), some (mI x3), some (mI x4), some (mI x5), some (mI x6), some (mI x7)] [] s Q) : Wp X d 237 44 [some (mR 407), some (mI x1), some (mI x2), some (mI x3), some (mI x4), some (mI x5), some (mI x6), some (mI x7)] [mI xt1, mI xt0] s Q := Wp_step k237 f237_44 ⟨h_1, h_2⟩
theorem b237_47 {X : (Nat → Int) × Nat} {d : Nat} {s : mSt} {Q : mQ} {x1 : Int} {x2 : Int} {x3 : Int} {x4 : Int} {x5 : Int} {x6 : Int} {x7 : Int} (h_1 : Sp X d 236 [mI x7] s (fun r s' => ∃ v : Int, r = some (mI v) ∧ Wp X (d + 1) 237 52 [some (mR 407), some (mI x1), some (mI x2), some (mI x3), some (mI x4), some (mI x5), some (mI x6), some (mI x7)] [mI v] s' Q)) : Wp X (d + 1) 237 47 [some (mR 407), some (mI x1), some (mI x2), some (mI x3), some (mI x4), some (mI x5), some (mI x6), some (mI x7)] [] s Q := Wp_step k237 f237_47 (Wp_step k237 f237_49 ⟨⟨Nat.le_of_ble_eq_true rfl, Nat.le_refl _⟩, _, rfl, Sp_E h_1⟩)
theorem b237_52 {X : (Nat → Int) × Nat} {d : Nat} {s : mSt} {Q : mQ} {x1 : Int} {x2 : Int} {x3 : Int} {x4 : Int} {x5 : Int} {x6 : Int} {x7 : Int} {xt0 : Int} (h_1 : ¬ xt0 = 0 → Wp X d 237 72 [some (mR 407), some (mI x1), some (mI x2), some (mI x3), some (mI x4), some (mI x5), some (mI x6), some (mI x7)] [] s Q) (h_2 : xt0 = 0 → Wp X d 237 55 [some (mR 407), some (mI x1), some (mI x2), some (mI x3), some (mI x4), some (mI x5), some (mI x6), some (mI x7)] [] s Q) : Wp X d 237 52 [some (mR 407), some (mI x1), some (mI x2), some (mI x3), some (mI x4), some (mI x5), some (mI x6), some (mI x7)] [mI xt0] s Q := Wp_step k237 f237_52 ⟨h_1, h_2⟩
theorem b237_55 {X : (Nat → Int) × Nat} {d : Nat} {s : mSt} {Q : mQ} {x1 : Int} {x2 : Int} {x3 : Int} {x4 : Int} {x5 : Int} {x6 : Int} {x7 : Int} (h_1 : (w32 (x5 + x6)) ≤ (s 417 2) → Wp X d 237 72 [some (mR 407), some (mI x1), some (mI x2), some (mI x3), some (mI x4), some (mI x5), some (mI x6), some (mI x7)] [] s Q) (h_2 : ¬ (w32 (x5 + x6)) ≤ (s 417 2) → Wp X d 237 69 [some (mR 407), some (mI x1), some (mI x2), some (mI x3), some (mI x4), some (mI x5), some (mI x6), some (mI x7)] [] s Q) : Wp X d 237 55 [some (mR 407), some (mI x1), some (mI x2), some (mI x3), some (mI x4), some (mI x5), some (mI x6), some (mI x7)] [] s Q := Wp_step k237 f237_55 (Wp_step k237 f237_57 (Wp_step k237 f237_59 (Wp_step k237 f237_60 (Wp_step k237 f237_61 ⟨kf_407, 417, rf_407_20, Wp_step k237 f237_64 (Wp_step k237 f237_65 ⟨166, af_417, ⟨by decide, by decide⟩, Wp_step k237 f237_66 ⟨h_1, h_2⟩⟩)⟩))))
theorem b237_69 {X : (Nat → Int) × Nat} {d : Nat} {s : mSt} {Q : mQ} {x1 : Int} {x2 : Int} {x3 : Int} {x4 : Int} {x5 : Int} {x6 : Int} {x7 : Int} (h_1 : Wp X d 237 127 [some (mR 407), some (mI x1), some (mI x2), some (mI x3), some (mI x4), some (mI x5), some (mI x6), some (mI x7)] [] s Q) : Wp X d 237 69 [some (mR 407), some (mI x1), some (mI x2), some (mI x3), some (mI x4), some (mI x5), some (mI x6), some (mI x7)] [] s Q := Wp_step k237 f237_69 (h_1)
theorem b237_72 {X : (Nat → Int) × Nat} {d : Nat} {s : mSt} {Q : mQ} {x1 : Int} {x2 : Int} {x3 : Int} {x4 : Int} {x5 : Int} {x6 : Int} {x7 : Int} (h_1 : x3 < 0 → Wp X d 237 113 [some (mR 407), some (mI x1), some (mI x2), some (mI x3), some (mI x4), some (mI x5), some (mI x6), some (mI x7)] [] s Q) (h_2 : ¬ x3 < 0 → Wp X d 237 76 [some (mR 407), some (mI x1), some (mI x2), some (mI x3), some (mI x4), some (mI x5), some (mI x6), some (mI x7)] [] s Q) : Wp X d 237 72 [some (mR 407), some (mI x1), some (mI x2), some (mI x3), some (mI x4), some (mI x5), some (mI x6), some (mI x7)] [] s Q := Wp_step k237 f237_72 (Wp_step k237 f237_73 ⟨h_1, h_2⟩)
theorem b237_76 {X : (Nat → Int) × Nat} {d : Nat} {s : mSt} {Q : mQ} {x1 : Int} {x2 : Int} {x3 : Int} {x4 : Int} {x5 : Int} {x6 : Int} {x7 : Int} (h_1 : Sp X d 236 [mI x3] s (fun r s' => ∃ v : Int, r = some (mI v) ∧ Wp X (d + 1) 237 84 [some (mR 407), some (mI x1), some (mI x2), some (mI x3), some (mI x4), some (mI x5), some (mI x6), some (mI x7)] [mI v, mI x4, mI x7] s' Q)) : Wp X (d + 1) 237 76 [some (mR 407), some (mI x1), some (mI x2), some (mI x3), some (mI x4), some (mI x5), some (mI x6), some (mI x7)] [] s Q := Wp_step k237 f237_76 (Wp_step k237 f237_78 (Wp_step k237 f237_80 (Wp_step k237 f237_81 ⟨⟨Nat.le_of_ble_eq_true rfl, Nat.le_refl _⟩, _, rfl, Sp_E h_1⟩)))
theorem b237_84 {X : (Nat → Int) × Nat} {d : Nat} {s : mSt} {Q : mQ} {x1 : Int} {x2 : Int} {x3 : Int} {x4 : Int} {x5 : Int} {x6 : Int} {x7 : Int} {xt0 : Int} {xt1 : Int} {xt2 : Int} (h_1 : Sp X d 236 [mI x7] s (fun r s' => ∃ v : Int, r = some (mI v) ∧ Wp X (d + 1) 237 89 [some (mR 407), some (mI x1), some (mI x2), some (mI x3), some (mI x4), some (mI x5), some (mI x6), some (mI x7)] [mI v, mI xt2, mI xt1, mI xt0] s' Q)) : Wp X (d + 1) 237 84 [some (mR 407), some (mI x1), some (mI x2), some (mI x3), some (mI x4), some (mI x5), some (mI x6), some (mI x7)] [mI xt2, mI xt1, mI xt0] s Q := Wp_step k237 f237_84 (Wp_step k237 f237_86 ⟨⟨Nat.le_of_ble_eq_true rfl, Nat.le_refl _⟩, _, rfl, Sp_E h_1⟩)
theorem b237_89 {X : (Nat → Int) × Nat} {d : Nat} {s : mSt} {Q : mQ} {x1 : Int} {x2 : Int} {x3 : Int} {x4 : Int} {x5 : Int} {x6 : Int} {x7 : Int} {xt0 : Int} {xt1 : Int} {xt2 : Int} {xt3 : Int} (h_1 : ¬ xt2 = xt3 → Wp X d 237 105 [some (mR 407), some (mI x1), some (mI x2), some (mI x3), some (mI x4), some (mI x5), some (mI x6), some (mI x7)] [mI xt1, mI xt0] s Q) (h_2 : xt2 = xt3 → Wp X d 237 92 [some (mR 407), some (mI x1), some (mI x2), some (mI x3), some (mI x4), some (mI x5), some (mI x6), some (mI x7)] [mI xt1, mI xt0] s Q) : Wp X d 237 89 [some (mR 407), some (mI x1), some (mI x2), some (mI x3), some (mI x4), some (mI x5), some (mI x6), some (mI x7)] [mI xt3, mI xt2, mI xt1, mI xt0] s Q := Wp_step k237 f237_89 ⟨h_1, h_2⟩
theorem b237_92 {X : (Nat → Int) × Nat} {d : Nat} {s : mSt} {Q : mQ} {x1 : Int} {x2 : Int} {x3 : Int} {x4 : Int} {x5 : Int} {x6 : Int} {x7 : Int} {xt0 : Int} {xt1 : Int} (h_1 : 0 ≤ (w32 (129 + x1)) ∧ (w32 (129 + x1)) < 166) (h_2 : Wp X d 237 106 [some (mR 407), some (mI x1), some (mI x2), some (mI x3), some (mI x4), some (mI x5), some (mI x6), some (mI x7)] [mI (s 417 (w32 (129 + x1)).toNat), mI xt1, mI xt0] s Q) : Wp X d 237 92 [some (mR 407), some (mI x1), some (mI x2), some (mI x3), some (mI x4), some (mI x5), some (mI x6), some (mI x7)] [mI xt1, mI xt0] s Q := Wp_step k237 f237_92 (Wp_step k237 f237_93 ⟨kf_407, 417, rf_407_20, Wp_step k237 f237_96 (Wp_step k237 f237_99 (Wp_step k237 f237_100 (Wp_step k237 f237_101 ⟨166, af_417, h_1, Wp_step k237 f237_102 (h_2)⟩)))⟩)
theorem b237_105 {X : (Nat → Int) × Nat} {d : Nat} {s : mSt} {Q : mQ} {x1 : Int} {x2 : Int} {x3 : Int} {x4 : Int} {x5 : Int} {x6 : Int} {x7 : Int} {xt0 : Int} {xt1 : Int} (h_1 : Wp X d 237 106 [some (mR 407), some (mI x1), some (mI x2), some (mI x3), some (mI x4), some (mI x5), some (mI x6), some (mI x7)] [mI 0, mI xt1, mI xt0] s Q) : Wp X d 237 105 [some (mR 407), some (mI x1), some (mI x2), some (mI x3), some (mI x4), some (mI x5), some (mI x6), some (mI x7)] [mI xt1, mI xt0] s Q := Wp_step k237 f237_105 (h_1)
theorem b237_106 {X : (Nat → Int) × Nat} {d : Nat} {s : mSt} {Q : mQ} {x1 : Int} {x2 : Int} {x3 : Int} {x4 : Int} {x5 : Int} {x6 : Int} {x7 : Int} {xt0 : Int} {xt1 : Int} {xt2 : Int} (h_1 : (w32 (xt1 + xt2)) ≤ xt0 → Wp X d 237 113 [some (mR 407), some (mI x1), some (mI x2), some (mI x3), some (mI x4), some (mI x5), some (mI x6), some (mI x7)] [] s Q) (h_2 : ¬ (w32 (xt1 + xt2)) ≤ xt0 → Wp X d 237 110 [some (mR 407), some (mI x1), some (mI x2), some (mI x3), some (mI x4), some (mI x5), some (mI x6), some (mI x7)] [] s Q) : Wp X d 237 106 [some (mR 407), some (mI x1), some (mI x2), some (mI x3), some (mI x4), some (mI x5), some (mI x6), some (mI x7)] [mI xt2, mI xt1, mI xt0] s Q := Wp_step k237 f237_106 (Wp_step k237 f237_107 ⟨h_1, h_2⟩)
theorem b237_110 {X : (Nat → Int) × Nat} {d : Nat} {s : mSt} {Q : mQ} {x1 : Int} {x2 : Int} {x3 : Int} {x4 : Int} {x5 : Int} {x6 : Int} {x7 : Int} (h_1 : Wp X d 237 127 [some (mR 407), some (mI x1), some (mI x2), some (mI x3), some (mI x4), some (mI x5), some (mI x6), some (mI x7)] [] s Q) : Wp X d 237 110 [some (mR 407), some (mI x1), some (mI x2), some (mI x3), some (mI x4), some (mI x5), some (mI x6), some (mI x7)] [] s Q := Wp_step k237 f237_110 (h_1)
theorem b237_113 {X : (Nat → Int) × Nat} {d : Nat} {s : mSt} {Q : mQ} {x1 : Int} {x2 : Int} {x3 : Int} {x4 : Int} {x5 : Int} {x6 : Int} {x7 : Int} (h_1 : Sp X d 235 [mR 407, mI x7, mI x6] s (fun r s' => ∃ v : Int, r = some (mI v) ∧ Wp X (d + 1) 237 121 [some (mR 407), some (mI x1), some (mI x2), some (mI x3), some (mI x4), some (mI x5), some (mI x6), some (mI x7)] [mI v] s' Q)) : Wp X (d + 1) 237 113 [some (mR 407), some (mI x1), some (mI x2), some (mI x3), some (mI x4), some (mI x5), some (mI x6), some (mI x7)] [] s Q := Wp_step k237 f237_113 (Wp_step k237 f237_114 (Wp_step k237 f237_116 (Wp_step k237 f237_118 ⟨⟨kf_407, Nat.le_of_ble_eq_true rfl⟩, Nat.le_refl _, _, rfl, Sp_E h_1⟩)))
theorem b237_121 {X : (Nat → Int) × Nat} {d : Nat} {s : mSt} {Q : mQ} {x1 : Int} {x2 : Int} {x3 : Int} {x4 : Int} {x5 : Int} {x6 : Int} {x7 : Int} {xt0 : Int} (h_1 : xt0 = 0 → Wp X d 237 127 [some (mR 407), some (mI x1), some (mI x2), some (mI x3), some (mI x4), some (mI x5), some (mI x6), some (mI x7)] [] s Q) (h_2 : ¬ xt0 = 0 → Wp X d 237 124 [some (mR 407), some (mI x1), some (mI x2), some (mI x3), some (mI x4), some (mI x5), some (mI x6), some (mI x7)] [] s Q) : Wp X d 237 121 [some (mR 407), some (mI x1), some (mI x2), some (mI x3), some (mI x4), some (mI x5), some (mI x6), some (mI x7)] [mI xt0] s Q := Wp_step k237 f237_121 ⟨h_1, h_2⟩
theorem b237_124 {X : (Nat → Int) × Nat} {d : Nat} {s : mSt} {Q : mQ} {x1 : Int} {x2 : Int} {x3 : Int} {x4 : Int} {x5 : Int} {x6 : Int} {x7 : Int} (h_1 : Q (some (mI x7)) s) : Wp X d 237 124 [some (mR 407), some (mI x1), some (mI x2), some (mI x3), some (mI x4), some (mI x5), some (mI x6), some (mI x7)] [] s Q := Wp_step k237 f237_124 (Wp_step k237 f237_126 ⟨⟨rfl, trivial⟩, h_1⟩)
theorem b237_127 {X : (Nat → Int) × Nat} {d : Nat} {s : mSt} {Q : mQ} {x1 : Int} {x2 : Int} {x3 : Int} {x4 : Int} {x5 : Int} {x6 : Int} {x7 : Int} (h_1 : Wp X d 237 19 [some (mR 407), some (mI x1), some (mI x2), some (mI x3), some (mI x4), some (mI x5), some (mI x6), some (mI (w32 (x7 + 1)))] [] s Q) : Wp X d 237 127 [some (mR 407), some (mI x1), some (mI x2), some (mI x3), some (mI x4), some (mI x5), some (mI x6), some (mI x7)] [] s Q := Wp_step k237 f237_127 (Wp_step k237 f237_130 (h_1))
theorem b237_133 {X : (Nat → Int) × Nat} {d : Nat} {s : mSt} {Q : mQ} {x1 : Int} {x2 : Int} {x3 : Int} {x4 : Int} {x5 : Int} {x6 : Int} {x7 : Int} (h_1 : Q (some (mI (-1))) s) : Wp X d 237 133 [some (mR 407), some (mI x1), some (mI x2), some (mI x3), some (mI x4), some (mI x5), some (mI x6), some (mI x7)] [] s Q := Wp_step k237 f237_133 (Wp_step k237 f237_134 ⟨⟨rfl, trivial⟩, h_1⟩)
theorem e237 {X : (Nat → Int) × Nat} {d : Nat} {s : mSt} {Q : mQ} {x1 : Int} {x2 : Int} {x3 : Int} {x4 : Int} {x5 : Int} (h : Wp X d 237 0 [some (mR 407), some (mI x1), some (mI x2), some (mI x3), some (mI x4), some (mI x5), none, none] [] s Q) : Sp X d 237 [mR 407, mI x1, mI x2, mI x3, mI x4, mI x5] s Q := Sp_of (show mCe 237 = 0 by decide +kernel) (by rw [show mML 237 = 8 by decide +kernel]; rfl) (Nat.le_trans (Nat.le_of_ble_eq_true (show Nat.ble (mArgs _).length 8 = true from rfl)) (show 8 ≤ mML 237 by decide +kernel)) h
-- 238 ClashDayModel.doesOrder(I)Z
theorem k238 : mRk 238 = 2 := by decide +kernel
theorem f238_0 : mFetch 238 0 = some (.iconst (-1), 1, 0, 0, 0, 0) := by decide +kernel
theorem f238_1 : mFetch 238 1 = some (.istore_n 2, 1, 0, 0, 0, 0) := by decide +kernel
theorem f238_2 : mFetch 238 2 = some (.iconst 0, 1, 0, 0, 0, 0) := by decide +kernel
theorem f238_3 : mFetch 238 3 = some (.istore_n 3, 1, 0, 0, 0, 0) := by decide +kernel
theorem f238_4 : mFetch 238 4 = some (.aload_n 0, 1, 0, 0, 0, 0) := by decide +kernel
theorem f238_5 : mFetch 238 5 = some (.iconst 0, 1, 0, 0, 0, 0) := by decide +kernel
theorem f238_6 : mFetch 238 6 = some (.putfield 374, 3, 12, 33, 0, 1) := by decide +kernel
theorem f238_9 : mFetch 238 9 = some (.aload_n 0, 1, 0, 0, 0, 0) := by decide +kernel
theorem f238_10 : mFetch 238 10 = some (.iconst 0, 1, 0, 0, 0, 0) := by decide +kernel
theorem f238_11 : mFetch 238 11 = some (.putfield 377, 3, 12, 35, 0, 1) := by decide +kernel
theorem f238_14 : mFetch 238 14 = some (.iconst 0, 1, 0, 0, 0, 0) := by decide +kernel
theorem f238_15 : mFetch 238 15 = some (.istore 4, 2, 0, 0, 0, 0) := by decide +kernel
theorem f238_17 : mFetch 238 17 = some (.iload 4, 2, 0, 0, 0, 0) := by decide +kernel
theorem f238_19 : mFetch 238 19 = some (.aload_n 0, 1, 0, 0, 0, 0) := by decide +kernel
theorem f238_20 : mFetch 238 20 = some (.getfield 362, 3, 12, 28, 0, 1) := by decide +kernel
theorem f238_23 : mFetch 238 23 = some (.if_icmp .ge 102, 3, 125, 0, 0, 0) := by decide +kernel
theorem f238_26 : mFetch 238 26 = some (.aload_n 0, 1, 0, 0, 0, 0) := by decide +kernel
theorem f238_27 : mFetch 238 27 = some (.getfield 52, 3, 12, 25, 2, 1) := by decide +kernel
theorem f238_30 : mFetch 238 30 = some (.iload 4, 2, 0, 0, 0, 0) := by decide +kernel
theorem f238_32 : mFetch 238 32 = some (.iaload, 1, 0, 0, 0, 0) := by decide +kernel
theorem f238_33 : mFetch 238 33 = some (.istore 5, 2, 0, 0, 0, 0) := by decide +kernel
theorem f238_35 : mFetch 238 35 = some (.aload_n 0, 1, 0, 0, 0, 0) := by decide +kernel
theorem f238_36 : mFetch 238 36 = some (.iload_n 1, 1, 0, 0, 0, 0) := by decide +kernel
theorem f238_37 : mFetch 238 37 = some (.iload 5, 2, 0, 0, 0, 0) := by decide +kernel
theorem f238_39 : mFetch 238 39 = some (.iload_n 2, 1, 0, 0, 0, 0) := by decide +kernel
theorem f238_40 : mFetch 238 40 = some (.aload_n 0, 1, 0, 0, 0, 0) := by decide +kernel
theorem f238_41 : mFetch 238 41 = some (.getfield 377, 3, 12, 35, 0, 1) := by decide +kernel
theorem f238_44 : mFetch 238 44 = some (.iload_n 3, 1, 0, 0, 0, 0) := by decide +kernel
theorem f238_45 : mFetch 238 45 = some (.invokevirtual 380, 3, 237, 0, 6, 12) := by decide +kernel
theorem f238_48 : mFetch 238 48 = some (.istore 6, 2, 0, 0, 0, 0) := by decide +kernel
theorem f238_50 : mFetch 238 50 = some (.iload 6, 2, 0, 0, 0, 0) := by decide +kernel
theorem f238_52 : mFetch 238 52 = some (.ifCond .ge 5, 3, 57, 0, 0, 0) := by decide +kernel
theorem f238_55 : mFetch 238 55 = some (.iconst 0, 1, 0, 0, 0, 0) := by decide +kernel
theorem f238_56 : mFetch 238 56 = some (.ireturn, 1, 0, 0, 0, 0) := by decide +kernel
theorem f238_57 : mFetch 238 57 = some (.aload_n 0, 1, 0, 0, 0, 0) := by decide +kernel
theorem f238_58 : mFetch 238 58 = some (.getfield 55, 3, 12, 26, 2, 1) := by decide +kernel
theorem f238_61 : mFetch 238 61 = some (.iload 5, 2, 0, 0, 0, 0) := by decide +kernel
theorem f238_63 : mFetch 238 63 = some (.iload 6, 2, 0, 0, 0, 0) := by decide +kernel
theorem f238_65 : mFetch 238 65 = some (.iastore, 1, 0, 0, 0, 0) := by decide +kernel
theorem f238_66 : mFetch 238 66 = some (.iload 6, 2, 0, 0, 0, 0) := by decide +kernel
theorem f238_68 : mFetch 238 68 = some (.istore_n 2, 1, 0, 0, 0, 0) := by decide +kernel
theorem f238_69 : mFetch 238 69 = some (.aload_n 0, 1, 0, 0, 0, 0) := by decide +kernel
theorem f238_70 : mFetch 238 70 = some (.iload 6, 2, 0, 0, 0, 0) := by decide +kernel
theorem f238_72 : mFetch 238 72 = some (.aload_n 0, 1, 0, 0, 0, 0) := by decide +kernel
theorem f238_73 : mFetch 238 73 = some (.iload_n 1, 1, 0, 0, 0, 0) := by decide +kernel
theorem f238_74 : mFetch 238 74 = some (.iload 5, 2, 0, 0, 0, 0) := by decide +kernel
theorem f238_76 : mFetch 238 76 = some (.invokevirtual 324, 3, 219, 0, 3, 12) := by decide +kernel
theorem f238_79 : mFetch 238 79 = some (.iadd, 1, 0, 0, 0, 0) := by decide +kernel
theorem f238_80 : mFetch 238 80 = some (.putfield 377, 3, 12, 35, 0, 1) := by decide +kernel
theorem f238_83 : mFetch 238 83 = some (.aload_n 0, 1, 0, 0, 0, 0) := by decide +kernel
theorem f238_84 : mFetch 238 84 = some (.dup, 1, 0, 0, 0, 0) := by decide +kernel
theorem f238_85 : mFetch 238 85 = some (.getfield 374, 3, 12, 33, 0, 1) := by decide +kernel
theorem f238_88 : mFetch 238 88 = some (.iload 6, 2, 0, 0, 0, 0) := by decide +kernel
theorem f238_90 : mFetch 238 90 = some (.invokestatic 368, 3, 236, 0, 1, 99) := by decide +kernel
theorem f238_93 : mFetch 238 93 = some (.iadd, 1, 0, 0, 0, 0) := by decide +kernel
theorem f238_94 : mFetch 238 94 = some (.putfield 374, 3, 12, 33, 0, 1) := by decide +kernel
theorem f238_97 : mFetch 238 97 = some (.iload_n 3, 1, 0, 0, 0, 0) := by decide +kernel
theorem f238_98 : mFetch 238 98 = some (.iload 6, 2, 0, 0, 0, 0) := by decide +kernel
theorem f238_100 : mFetch 238 100 = some (.invokestatic 368, 3, 236, 0, 1, 99) := by decide +kernel
theorem f238_103 : mFetch 238 103 = some (.ifCond .ne 13, 3, 116, 0, 0, 0) := by decide +kernel
theorem f238_106 : mFetch 238 106 = some (.aload_n 0, 1, 0, 0, 0, 0) := by decide +kernel
theorem f238_107 : mFetch 238 107 = some (.iload_n 1, 1, 0, 0, 0, 0) := by decide +kernel
theorem f238_108 : mFetch 238 108 = some (.iload 5, 2, 0, 0, 0, 0) := by decide +kernel
theorem f238_110 : mFetch 238 110 = some (.invokevirtual 324, 3, 219, 0, 3, 12) := by decide +kernel
theorem f238_113 : mFetch 238 113 = some (.goto 4, 3, 117, 0, 0, 0) := by decide +kernel
theorem f238_116 : mFetch 238 116 = some (.iconst 0, 1, 0, 0, 0, 0) := by decide +kernel
theorem f238_117 : mFetch 238 117 = some (.iadd, 1, 0, 0, 0, 0) := by decide +kernel
theorem f238_118 : mFetch 238 118 = some (.istore_n 3, 1, 0, 0, 0, 0) := by decide +kernel
theorem f238_119 : mFetch 238 119 = some (.iinc 4 1, 3, 0, 0, 0, 0) := by decide +kernel
theorem f238_122 : mFetch 238 122 = some (.goto (-105), 3, 17, 0, 0, 0) := by decide +kernel
theorem f238_125 : mFetch 238 125 = some (.iconst 1, 1, 0, 0, 0, 0) := by decide +kernel
theorem f238_126 : mFetch 238 126 = some (.ireturn, 1, 0, 0, 0, 0) := by decide +kernel
theorem b238_0 {X : (Nat → Int) × Nat} {d : Nat} {s : mSt} {Q : mQ} {x1 : Int} {l2 : Option mV} {l3 : Option mV} {l4 : Option mV} {l5 : Option mV} {l6 : Option mV} (h_1 : Wp X d 238 17 [some (mR 407), some (mI x1), some (mI (-1)), some (mI 0), some (mI 0), l5, l6] [] (uS (uS s 407 33 0) 407 35 0) Q) : Wp X d 238 0 [some (mR 407), some (mI x1), l2, l3, l4, l5, l6] [] s Q := Wp_step k238 f238_0 (Wp_step k238 f238_1 (Wp_step k238 f238_2 (Wp_step k238 f238_3 (Wp_step k238 f238_4 (Wp_step k238 f238_5 (Wp_step k238 f238_6 ⟨kf_407, Wp_step k238 f238_9 (Wp_step k238 f238_10 (Wp_step k238 f238_11 ⟨kf_407, Wp_step k238 f238_14 (Wp_step k238 f238_15 (h_1))⟩))⟩))))))
theorem b238_17 {X : (Nat → Int) × Nat} {d : Nat} {s : mSt} {Q : mQ} {x1 : Int} {x2 : Int} {x3 : Int} {x4 : Int} {l5 : Option mV} {l6 : Option mV} (h_1 : (s 407 28) ≤ x4 → Wp X d 238 125 [some (mR 407), some (mI x1), some (mI x2), some (mI x3), some (mI x4), l5, l6] [] s Q) (h_2 : ¬ (s 407 28) ≤ x4 → Wp X d 238 26 [some (mR 407), some (mI x1), some (mI x2), some (mI x3), some (mI x4), l5, l6] [] s Q) : Wp X d 238 17 [some (mR 407), some (mI x1), some (mI x2), some (mI x3), some (mI x4), l5, l6] [] s Q := Wp_step k238 f238_17 (Wp_step k238 f238_19 (Wp_step k238 f238_20 ⟨kf_407, Wp_step k238 f238_23 ⟨h_1, h_2⟩⟩))
theorem b238_26 {X : (Nat → Int) × Nat} {d : Nat} {s : mSt} {Q : mQ} {x1 : Int} {x2 : Int} {x3 : Int} {x4 : Int} {l5 : Option mV} {l6 : Option mV} (h_1 : 0 ≤ x4 ∧ x4 < 5) (h_2 : Sp X d 237 [mR 407, mI x1, mI (s 420 x4.toNat), mI x2, mI (s 407 35), mI x3] s (fun r s' => ∃ v : Int, r = some (mI v) ∧ Wp X (d + 1) 238 48 [some (mR 407), some (mI x1), some (mI x2), some (mI x3), some (mI x4), some (mI (s 420 x4.toNat)), l6] [mI v] s' Q)) : Wp X (d + 1) 238 26 [some (mR 407), some (mI x1), some (mI x2), some (mI x3), some (mI x4), l5, l6] [] s Q := Wp_step k238 f238_26 (Wp_step k238 f238_27 ⟨kf_407, 420, rf_407_25, Wp_step k238 f238_30 (Wp_step k238 f238_32 ⟨5, af_420, h_1, Wp_step k238 f238_33 (Wp_step k238 f238_35 (Wp_step k238 f238_36 (Wp_step k238 f238_37 (Wp_step k238 f238_39 (Wp_step k238 f238_40 (Wp_step k238 f238_41 ⟨kf_407, Wp_step k238 f238_44 (Wp_step k238 f238_45 ⟨⟨kf_407, Nat.le_of_ble_eq_true rfl⟩, Nat.le_refl _, _, rfl, Sp_E h_2⟩)⟩))))))⟩)⟩)
theorem b238_48 {X : (Nat → Int) × Nat} {d : Nat} {s : mSt} {Q : mQ} {x1 : Int} {x2 : Int} {x3 : Int} {x4 : Int} {x5 : Int} {l6 : Option mV} {xt0 : Int} (h_1 : 0 ≤ xt0 → Wp X d 238 57 [some (mR 407), some (mI x1), some (mI x2), some (mI x3), some (mI x4), some (mI x5), some (mI xt0)] [] s Q) (h_2 : ¬ 0 ≤ xt0 → Wp X d 238 55 [some (mR 407), some (mI x1), some (mI x2), some (mI x3), some (mI x4), some (mI x5), some (mI xt0)] [] s Q) : Wp X d 238 48 [some (mR 407), some (mI x1), some (mI x2), some (mI x3), some (mI x4), some (mI x5), l6] [mI xt0] s Q := Wp_step k238 f238_48 (Wp_step k238 f238_50 (Wp_step k238 f238_52 ⟨h_1, h_2⟩))
theorem b238_55 {X : (Nat → Int) × Nat} {d : Nat} {s : mSt} {Q : mQ} {x1 : Int} {x2 : Int} {x3 : Int} {x4 : Int} {x5 : Int} {x6 : Int} (h_1 : Q (some (mI 0)) s) : Wp X d 238 55 [some (mR 407), some (mI x1), some (mI x2), some (mI x3), some (mI x4), some (mI x5), some (mI x6)] [] s Q := Wp_step k238 f238_55 (Wp_step k238 f238_56 ⟨⟨rfl, (Or.inl rfl)⟩, h_1⟩)
theorem b238_57 {X : (Nat → Int) × Nat} {d : Nat} {s : mSt} {Q : mQ} {x1 : Int} {x2 : Int} {x3 : Int} {x4 : Int} {x5 : Int} {x6 : Int} (h_1 : 0 ≤ x5 ∧ x5 < 5) (h_2 : Sp X d 219 [mR 407, mI x1, mI x5] (uS s 421 x5.toNat x6) (fun r s' => ∃ v : Int, r = some (mI v) ∧ Wp X (d + 1) 238 79 [some (mR 407), some (mI x1), some (mI x6), some (mI x3), some (mI x4), some (mI x5), some (mI x6)] [mI v, mI x6, mR 407] s' Q)) : Wp X (d + 1) 238 57 [some (mR 407), some (mI x1), some (mI x2), some (mI x3), some (mI x4), some (mI x5), some (mI x6)] [] s Q := Wp_step k238 f238_57 (Wp_step k238 f238_58 ⟨kf_407, 421, rf_407_26, Wp_step k238 f238_61 (Wp_step k238 f238_63 (Wp_step k238 f238_65 ⟨5, af_421, h_1, Wp_step k238 f238_66 (Wp_step k238 f238_68 (Wp_step k238 f238_69 (Wp_step k238 f238_70 (Wp_step k238 f238_72 (Wp_step k238 f238_73 (Wp_step k238 f238_74 (Wp_step k238 f238_76 ⟨⟨kf_407, Nat.le_of_ble_eq_true rfl⟩, Nat.le_refl _, _, rfl, Sp_E h_2⟩)))))))⟩))⟩)
theorem b238_79 {X : (Nat → Int) × Nat} {d : Nat} {s : mSt} {Q : mQ} {x1 : Int} {x2 : Int} {x3 : Int} {x4 : Int} {x5 : Int} {x6 : Int} {xt1 : Int} {xt2 : Int} (h_1 : Sp X d 236 [mI x6] (uS s 407 35 (w32 (xt1 + xt2))) (fun r s' => ∃ v : Int, r = some (mI v) ∧ Wp X (d + 1) 238 93 [some (mR 407), some (mI x1), some (mI x2), some (mI x3), some (mI x4), some (mI x5), some (mI x6)] [mI v, mI ((uS s 407 35 (w32 (xt1 + xt2))) 407 33), mR 407] s' Q)) : Wp X (d + 1) 238 79 [some (mR 407), some (mI x1), some (mI x2), some (mI x3), some (mI x4), some (mI x5), some (mI x6)] [mI xt2, mI xt1, mR 407] s Q := Wp_step k238 f238_79 (Wp_step k238 f238_80 ⟨kf_407, Wp_step k238 f238_83 (Wp_step k238 f238_84 (Wp_step k238 f238_85 ⟨kf_407, Wp_step k238 f238_88 (Wp_step k238 f238_90 ⟨⟨Nat.le_of_ble_eq_true rfl, Nat.le_refl _⟩, _, rfl, Sp_E h_1⟩)⟩))⟩)
theorem b238_93 {X : (Nat → Int) × Nat} {d : Nat} {s : mSt} {Q : mQ} {x1 : Int} {x2 : Int} {x3 : Int} {x4 : Int} {x5 : Int} {x6 : Int} {xt1 : Int} {xt2 : Int} (h_1 : Sp X d 236 [mI x6] (uS s 407 33 (w32 (xt1 + xt2))) (fun r s' => ∃ v : Int, r = some (mI v) ∧ Wp X (d + 1) 238 103 [some (mR 407), some (mI x1), some (mI x2), some (mI x3), some (mI x4), some (mI x5), some (mI x6)] [mI v, mI x3] s' Q)) : Wp X (d + 1) 238 93 [some (mR 407), some (mI x1), some (mI x2), some (mI x3), some (mI x4), some (mI x5), some (mI x6)] [mI xt2, mI xt1, mR 407] s Q := Wp_step k238 f238_93 (Wp_step k238 f238_94 ⟨kf_407, Wp_step k238 f238_97 (Wp_step k238 f238_98 (Wp_step k238 f238_100 ⟨⟨Nat.le_of_ble_eq_true rfl, Nat.le_refl _⟩, _, rfl, Sp_E h_1⟩))⟩)
theorem b238_103 {X : (Nat → Int) × Nat} {d : Nat} {s : mSt} {Q : mQ} {x1 : Int} {x2 : Int} {x3 : Int} {x4 : Int} {x5 : Int} {x6 : Int} {xt0 : Int} {xt1 : Int} (h_1 : ¬ xt1 = 0 → Wp X d 238 116 [some (mR 407), some (mI x1), some (mI x2), some (mI x3), some (mI x4), some (mI x5), some (mI x6)] [mI xt0] s Q) (h_2 : xt1 = 0 → Wp X d 238 106 [some (mR 407), some (mI x1), some (mI x2), some (mI x3), some (mI x4), some (mI x5), some (mI x6)] [mI xt0] s Q) : Wp X d 238 103 [some (mR 407), some (mI x1), some (mI x2), some (mI x3), some (mI x4), some (mI x5), some (mI x6)] [mI xt1, mI xt0] s Q := Wp_step k238 f238_103 ⟨h_1, h_2⟩
theorem b238_106 {X : (Nat → Int) × Nat} {d : Nat} {s : mSt} {Q : mQ} {x1 : Int} {x2 : Int} {x3 : Int} {x4 : Int} {x5 : Int} {x6 : Int} {xt0 : Int} (h_1 : Sp X d 219 [mR 407, mI x1, mI x5] s (fun r s' => ∃ v : Int, r = some (mI v) ∧ Wp X (d + 1) 238 113 [some (mR 407), some (mI x1), some (mI x2), some (mI x3), some (mI x4), some (mI x5), some (mI x6)] [mI v, mI xt0] s' Q)) : Wp X (d + 1) 238 106 [some (mR 407), some (mI x1), some (mI x2), some (mI x3), some (mI x4), some (mI x5), some (mI x6)] [mI xt0] s Q := Wp_step k238 f238_106 (Wp_step k238 f238_107 (Wp_step k238 f238_108 (Wp_step k238 f238_110 ⟨⟨kf_407, Nat.le_of_ble_eq_true rfl⟩, Nat.le_refl _, _, rfl, Sp_E h_1⟩)))
theorem b238_113 {X : (Nat → Int) × Nat} {d : Nat} {s : mSt} {Q : mQ} {x1 : Int} {x2 : Int} {x3 : Int} {x4 : Int} {x5 : Int} {x6 : Int} {xt0 : Int} {xt1 : Int} (h_1 : Wp X d 238 117 [some (mR 407), some (mI x1), some (mI x2), some (mI x3), some (mI x4), some (mI x5), some (mI x6)] [mI xt1, mI xt0] s Q) : Wp X d 238 113 [some (mR 407), some (mI x1), some (mI x2), some (mI x3), some (mI x4), some (mI x5), some (mI x6)] [mI xt1, mI xt0] s Q := Wp_step k238 f238_113 (h_1)
theorem b238_116 {X : (Nat → Int) × Nat} {d : Nat} {s : mSt} {Q : mQ} {x1 : Int} {x2 : Int} {x3 : Int} {x4 : Int} {x5 : Int} {x6 : Int} {xt0 : Int} (h_1 : Wp X d 238 117 [some (mR 407), some (mI x1), some (mI x2), some (mI x3), some (mI x4), some (mI x5), some (mI x6)] [mI 0, mI xt0] s Q) : Wp X d 238 116 [some (mR 407), some (mI x1), some (mI x2), some (mI x3), some (mI x4), some (mI x5), some (mI x6)] [mI xt0] s Q := Wp_step k238 f238_116 (h_1)
theorem b238_117 {X : (Nat → Int) × Nat} {d : Nat} {s : mSt} {Q : mQ} {x1 : Int} {x2 : Int} {x3 : Int} {x4 : Int} {x5 : Int} {x6 : Int} {xt0 : Int} {xt1 : Int} (h_1 : Wp X d 238 17 [some (mR 407), some (mI x1), some (mI x2), some (mI (w32 (xt0 + xt1))), some (mI (w32 (x4 + 1))), some (mI x5), some (mI x6)] [] s Q) : Wp X d 238 117 [some (mR 407), some (mI x1), some (mI x2), some (mI x3), some (mI x4), some (mI x5), some (mI x6)] [mI xt1, mI xt0] s Q := Wp_step k238 f238_117 (Wp_step k238 f238_118 (Wp_step k238 f238_119 (Wp_step k238 f238_122 (h_1))))
theorem b238_125 {X : (Nat → Int) × Nat} {d : Nat} {s : mSt} {Q : mQ} {x1 : Int} {x2 : Int} {x3 : Int} {x4 : Int} {l5 : Option mV} {l6 : Option mV} (h_1 : Q (some (mI 1)) s) : Wp X d 238 125 [some (mR 407), some (mI x1), some (mI x2), some (mI x3), some (mI x4), l5, l6] [] s Q := Wp_step k238 f238_125 (Wp_step k238 f238_126 ⟨⟨rfl, (Or.inr rfl)⟩, h_1⟩)
theorem e238 {X : (Nat → Int) × Nat} {d : Nat} {s : mSt} {Q : mQ} {x1 : Int} (h : Wp X d 238 0 [some (mR 407), some (mI x1), none, none, none, none, none] [] s Q) : Sp X d 238 [mR 407, mI x1] s Q := Sp_of (show mCe 238 = 0 by decide +kernel) (by rw [show mML 238 = 7 by decide +kernel]; rfl) (Nat.le_trans (Nat.le_of_ble_eq_true (show Nat.ble (mArgs _).length 7 = true from rfl)) (show 7 ≤ mML 238 by decide +kernel)) h
-- 239 ClashDayModel.isSitNow(II)Z
theorem k239 : mRk 239 = 2 := by decide +kernel
theorem f239_0 : mFetch 239 0 = some (.iconst 0, 1, 0, 0, 0, 0) := by decide +kernel
theorem f239_1 : mFetch 239 1 = some (.istore_n 3, 1, 0, 0, 0, 0) := by decide +kernel
theorem f239_2 : mFetch 239 2 = some (.iload_n 3, 1, 0, 0, 0, 0) := by decide +kernel
theorem f239_3 : mFetch 239 3 = some (.aload_n 0, 1, 0, 0, 0, 0) := by decide +kernel
theorem f239_4 : mFetch 239 4 = some (.getfield 362, 3, 12, 28, 0, 1) := by decide +kernel
theorem f239_7 : mFetch 239 7 = some (.if_icmp .ge 57, 3, 64, 0, 0, 0) := by decide +kernel
theorem f239_10 : mFetch 239 10 = some (.iload_n 2, 1, 0, 0, 0, 0) := by decide +kernel
theorem f239_11 : mFetch 239 11 = some (.i2l, 1, 0, 0, 0, 0) := by decide +kernel
theorem f239_12 : mFetch 239 12 = some (.aload_n 0, 1, 0, 0, 0, 0) := by decide +kernel
theorem f239_13 : mFetch 239 13 = some (.getfield 55, 3, 12, 26, 2, 1) := by decide +kernel
theorem f239_16 : mFetch 239 16 = some (.aload_n 0, 1, 0, 0, 0, 0) := by decide +kernel
theorem f239_17 : mFetch 239 17 = some (.getfield 49, 3, 12, 24, 2, 1) := by decide +kernel
theorem f239_20 : mFetch 239 20 = some (.iload_n 3, 1, 0, 0, 0, 0) := by decide +kernel
theorem f239_21 : mFetch 239 21 = some (.iaload, 1, 0, 0, 0, 0) := by decide +kernel
theorem f239_22 : mFetch 239 22 = some (.iaload, 1, 0, 0, 0, 0) := by decide +kernel
theorem f239_23 : mFetch 239 23 = some (.i2l, 1, 0, 0, 0, 0) := by decide +kernel
theorem f239_24 : mFetch 239 24 = some (.aload_n 0, 1, 0, 0, 0, 0) := by decide +kernel
theorem f239_25 : mFetch 239 25 = some (.getfield 55, 3, 12, 26, 2, 1) := by decide +kernel
theorem f239_28 : mFetch 239 28 = some (.aload_n 0, 1, 0, 0, 0, 0) := by decide +kernel
theorem f239_29 : mFetch 239 29 = some (.getfield 49, 3, 12, 24, 2, 1) := by decide +kernel
theorem f239_32 : mFetch 239 32 = some (.iload_n 3, 1, 0, 0, 0, 0) := by decide +kernel
theorem f239_33 : mFetch 239 33 = some (.iaload, 1, 0, 0, 0, 0) := by decide +kernel
theorem f239_34 : mFetch 239 34 = some (.iaload, 1, 0, 0, 0, 0) := by decide +kernel
theorem f239_35 : mFetch 239 35 = some (.aload_n 0, 1, 0, 0, 0, 0) := by decide +kernel
theorem f239_36 : mFetch 239 36 = some (.iload_n 1, 1, 0, 0, 0, 0) := by decide +kernel
theorem f239_37 : mFetch 239 37 = some (.aload_n 0, 1, 0, 0, 0, 0) := by decide +kernel
theorem f239_38 : mFetch 239 38 = some (.getfield 49, 3, 12, 24, 2, 1) := by decide +kernel
theorem f239_41 : mFetch 239 41 = some (.iload_n 3, 1, 0, 0, 0, 0) := by decide +kernel
theorem f239_42 : mFetch 239 42 = some (.iaload, 1, 0, 0, 0, 0) := by decide +kernel
theorem f239_43 : mFetch 239 43 = some (.invokevirtual 324, 3, 219, 0, 3, 12) := by decide +kernel
theorem f239_46 : mFetch 239 46 = some (.iadd, 1, 0, 0, 0, 0) := by decide +kernel
theorem f239_47 : mFetch 239 47 = some (.iconst 1, 1, 0, 0, 0, 0) := by decide +kernel
theorem f239_48 : mFetch 239 48 = some (.isub, 1, 0, 0, 0, 0) := by decide +kernel
theorem f239_49 : mFetch 239 49 = some (.i2l, 1, 0, 0, 0, 0) := by decide +kernel
theorem f239_50 : mFetch 239 50 = some (.invokestatic 151, 3, 167, 0, 3, 99) := by decide +kernel
theorem f239_53 : mFetch 239 53 = some (.ifCond .eq 5, 3, 58, 0, 0, 0) := by decide +kernel
theorem f239_56 : mFetch 239 56 = some (.iconst 1, 1, 0, 0, 0, 0) := by decide +kernel
theorem f239_57 : mFetch 239 57 = some (.ireturn, 1, 0, 0, 0, 0) := by decide +kernel
theorem f239_58 : mFetch 239 58 = some (.iinc 3 1, 3, 0, 0, 0, 0) := by decide +kernel
theorem f239_61 : mFetch 239 61 = some (.goto (-59), 3, 2, 0, 0, 0) := by decide +kernel
theorem f239_64 : mFetch 239 64 = some (.iconst 0, 1, 0, 0, 0, 0) := by decide +kernel
theorem f239_65 : mFetch 239 65 = some (.ireturn, 1, 0, 0, 0, 0) := by decide +kernel
theorem b239_0 {X : (Nat → Int) × Nat} {d : Nat} {s : mSt} {Q : mQ} {x1 : Int} {x2 : Int} {l3 : Option mV} (h_1 : Wp X d 239 2 [some (mR 407), some (mI x1), some (mI x2), some (mI 0)] [] s Q) : Wp X d 239 0 [some (mR 407), some (mI x1), some (mI x2), l3] [] s Q := Wp_step k239 f239_0 (Wp_step k239 f239_1 (h_1))
theorem b239_2 {X : (Nat → Int) × Nat} {d : Nat} {s : mSt} {Q : mQ} {x1 : Int} {x2 : Int} {x3 : Int} (h_1 : (s 407 28) ≤ x3 → Wp X d 239 64 [some (mR 407), some (mI x1), some (mI x2), some (mI x3)] [] s Q) (h_2 : ¬ (s 407 28) ≤ x3 → Wp X d 239 10 [some (mR 407), some (mI x1), some (mI x2), some (mI x3)] [] s Q) : Wp X d 239 2 [some (mR 407), some (mI x1), some (mI x2), some (mI x3)] [] s Q := Wp_step k239 f239_2 (Wp_step k239 f239_3 (Wp_step k239 f239_4 ⟨kf_407, Wp_step k239 f239_7 ⟨h_1, h_2⟩⟩))
theorem b239_10 {X : (Nat → Int) × Nat} {d : Nat} {s : mSt} {Q : mQ} {x1 : Int} {x2 : Int} {x3 : Int} (h_1 : 0 ≤ x3 ∧ x3 < 5) (h_2 : 0 ≤ (s 419 x3.toNat) ∧ (s 419 x3.toNat) < 5) (h_3 : 0 ≤ x3 ∧ x3 < 5) (h_4 : 0 ≤ (s 419 x3.toNat) ∧ (s 419 x3.toNat) < 5) (h_5 : 0 ≤ x3 ∧ x3 < 5) (h_6 : Sp X d 219 [mR 407, mI x1, mI (s 419 x3.toNat)] s (fun r s' => ∃ v : Int, r = some (mI v) ∧ Wp X (d + 1) 239 46 [some (mR 407), some (mI x1), some (mI x2), some (mI x3)] [mI v, mI (s 421 (s 419 x3.toNat).toNat), mJ (s 421 (s 419 x3.toNat).toNat), mJ x2] s' Q)) : Wp X (d + 1) 239 10 [some (mR 407), some (mI x1), some (mI x2), some (mI x3)] [] s Q := Wp_step k239 f239_10 (Wp_step k239 f239_11 (Wp_step k239 f239_12 (Wp_step k239 f239_13 ⟨kf_407, 421, rf_407_26, Wp_step k239 f239_16 (Wp_step k239 f239_17 ⟨kf_407, 419, rf_407_24, Wp_step k239 f239_20 (Wp_step k239 f239_21 ⟨5, af_419, h_1, Wp_step k239 f239_22 ⟨5, af_421, h_2, Wp_step k239 f239_23 (Wp_step k239 f239_24 (Wp_step k239 f239_25 ⟨kf_407, 421, rf_407_26, Wp_step k239 f239_28 (Wp_step k239 f239_29 ⟨kf_407, 419, rf_407_24, Wp_step k239 f239_32 (Wp_step k239 f239_33 ⟨5, af_419, h_3, Wp_step k239 f239_34 ⟨5, af_421, h_4, Wp_step k239 f239_35 (Wp_step k239 f239_36 (Wp_step k239 f239_37 (Wp_step k239 f239_38 ⟨kf_407, 419, rf_407_24, Wp_step k239 f239_41 (Wp_step k239 f239_42 ⟨5, af_419, h_5, Wp_step k239 f239_43 ⟨⟨kf_407, Nat.le_of_ble_eq_true rfl⟩, Nat.le_refl _, _, rfl, Sp_E h_6⟩⟩)⟩)))⟩⟩)⟩)⟩))⟩⟩)⟩)⟩)))
theorem b239_46 {X : (Nat → Int) × Nat} {d : Nat} {s : mSt} {Q : mQ} {x1 : Int} {x2 : Int} {x3 : Int} {xt0 : Int} {xt1 : Int} {xt2 : Int} {xt3 : Int} (h_1 : Sp X d 167 [mJ xt0, mJ xt1, mJ (w32 ((w32 (xt2 + xt3)) - 1))] s (fun r s' => ∃ v : Int, r = some (mI v) ∧ Wp X (d + 1) 239 53 [some (mR 407), some (mI x1), some (mI x2), some (mI x3)] [mI v] s' Q)) : Wp X (d + 1) 239 46 [some (mR 407), some (mI x1), some (mI x2), some (mI x3)] [mI xt3, mI xt2, mJ xt1, mJ xt0] s Q := Wp_step k239 f239_46 (Wp_step k239 f239_47 (Wp_step k239 f239_48 (Wp_step k239 f239_49 (Wp_step k239 f239_50 ⟨⟨Nat.le_of_ble_eq_true rfl, Nat.le_refl _⟩, _, rfl, Sp_E h_1⟩))))
theorem b239_53 {X : (Nat → Int) × Nat} {d : Nat} {s : mSt} {Q : mQ} {x1 : Int} {x2 : Int} {x3 : Int} {xt0 : Int} (h_1 : xt0 = 0 → Wp X d 239 58 [some (mR 407), some (mI x1), some (mI x2), some (mI x3)] [] s Q) (h_2 : ¬ xt0 = 0 → Wp X d 239 56 [some (mR 407), some (mI x1), some (mI x2), some (mI x3)] [] s Q) : Wp X d 239 53 [some (mR 407), some (mI x1), some (mI x2), some (mI x3)] [mI xt0] s Q := Wp_step k239 f239_53 ⟨h_1, h_2⟩
theorem b239_56 {X : (Nat → Int) × Nat} {d : Nat} {s : mSt} {Q : mQ} {x1 : Int} {x2 : Int} {x3 : Int} (h_1 : Q (some (mI 1)) s) : Wp X d 239 56 [some (mR 407), some (mI x1), some (mI x2), some (mI x3)] [] s Q := Wp_step k239 f239_56 (Wp_step k239 f239_57 ⟨⟨rfl, (Or.inr rfl)⟩, h_1⟩)
theorem b239_58 {X : (Nat → Int) × Nat} {d : Nat} {s : mSt} {Q : mQ} {x1 : Int} {x2 : Int} {x3 : Int} (h_1 : Wp X d 239 2 [some (mR 407), some (mI x1), some (mI x2), some (mI (w32 (x3 + 1)))] [] s Q) : Wp X d 239 58 [some (mR 407), some (mI x1), some (mI x2), some (mI x3)] [] s Q := Wp_step k239 f239_58 (Wp_step k239 f239_61 (h_1))
theorem b239_64 {X : (Nat → Int) × Nat} {d : Nat} {s : mSt} {Q : mQ} {x1 : Int} {x2 : Int} {x3 : Int} (h_1 : Q (some (mI 0)) s) : Wp X d 239 64 [some (mR 407), some (mI x1), some (mI x2), some (mI x3)] [] s Q := Wp_step k239 f239_64 (Wp_step k239 f239_65 ⟨⟨rfl, (Or.inl rfl)⟩, h_1⟩)
theorem e239 {X : (Nat → Int) × Nat} {d : Nat} {s : mSt} {Q : mQ} {x1 : Int} {x2 : Int} (h : Wp X d 239 0 [some (mR 407), some (mI x1), some (mI x2), none] [] s Q) : Sp X d 239 [mR 407, mI x1, mI x2] s Q := Sp_of (show mCe 239 = 0 by decide +kernel) (by rw [show mML 239 = 4 by decide +kernel]; rfl) (Nat.le_trans (Nat.le_of_ble_eq_true (show Nat.ble (mArgs _).length 4 = true from rfl)) (show 4 ≤ mML 239 by decide +kernel)) h
-- 240 ClashDayModel.isDueNow(I)Z
theorem k240 : mRk 240 = 2 := by decide +kernel
theorem f240_0 : mFetch 240 0 = some (.iconst 0, 1, 0, 0, 0, 0) := by decide +kernel
theorem f240_1 : mFetch 240 1 = some (.istore_n 2, 1, 0, 0, 0, 0) := by decide +kernel
theorem f240_2 : mFetch 240 2 = some (.iload_n 2, 1, 0, 0, 0, 0) := by decide +kernel
theorem f240_3 : mFetch 240 3 = some (.aload_n 0, 1, 0, 0, 0, 0) := by decide +kernel
theorem f240_4 : mFetch 240 4 = some (.getfield 362, 3, 12, 28, 0, 1) := by decide +kernel
theorem f240_7 : mFetch 240 7 = some (.if_icmp .ge 44, 3, 51, 0, 0, 0) := by decide +kernel
theorem f240_10 : mFetch 240 10 = some (.aload_n 0, 1, 0, 0, 0, 0) := by decide +kernel
theorem f240_11 : mFetch 240 11 = some (.getfield 39, 3, 12, 20, 2, 1) := by decide +kernel
theorem f240_14 : mFetch 240 14 = some (.bipush 6, 2, 0, 0, 0, 0) := by decide +kernel
theorem f240_16 : mFetch 240 16 = some (.aload_n 0, 1, 0, 0, 0, 0) := by decide +kernel
theorem f240_17 : mFetch 240 17 = some (.getfield 49, 3, 12, 24, 2, 1) := by decide +kernel
theorem f240_20 : mFetch 240 20 = some (.iload_n 2, 1, 0, 0, 0, 0) := by decide +kernel
theorem f240_21 : mFetch 240 21 = some (.iaload, 1, 0, 0, 0, 0) := by decide +kernel
theorem f240_22 : mFetch 240 22 = some (.iadd, 1, 0, 0, 0, 0) := by decide +kernel
theorem f240_23 : mFetch 240 23 = some (.iaload, 1, 0, 0, 0, 0) := by decide +kernel
theorem f240_24 : mFetch 240 24 = some (.iload_n 1, 1, 0, 0, 0, 0) := by decide +kernel
theorem f240_25 : mFetch 240 25 = some (.if_icmp .gt 20, 3, 45, 0, 0, 0) := by decide +kernel
theorem f240_28 : mFetch 240 28 = some (.aload_n 0, 1, 0, 0, 0, 0) := by decide +kernel
theorem f240_29 : mFetch 240 29 = some (.getfield 55, 3, 12, 26, 2, 1) := by decide +kernel
theorem f240_32 : mFetch 240 32 = some (.aload_n 0, 1, 0, 0, 0, 0) := by decide +kernel
theorem f240_33 : mFetch 240 33 = some (.getfield 49, 3, 12, 24, 2, 1) := by decide +kernel
theorem f240_36 : mFetch 240 36 = some (.iload_n 2, 1, 0, 0, 0, 0) := by decide +kernel
theorem f240_37 : mFetch 240 37 = some (.iaload, 1, 0, 0, 0, 0) := by decide +kernel
theorem f240_38 : mFetch 240 38 = some (.iaload, 1, 0, 0, 0, 0) := by decide +kernel
theorem f240_39 : mFetch 240 39 = some (.iload_n 1, 1, 0, 0, 0, 0) := by decide +kernel
theorem f240_40 : mFetch 240 40 = some (.if_icmp .le 5, 3, 45, 0, 0, 0) := by decide +kernel
theorem f240_43 : mFetch 240 43 = some (.iconst 1, 1, 0, 0, 0, 0) := by decide +kernel
theorem f240_44 : mFetch 240 44 = some (.ireturn, 1, 0, 0, 0, 0) := by decide +kernel
theorem f240_45 : mFetch 240 45 = some (.iinc 2 1, 3, 0, 0, 0, 0) := by decide +kernel
theorem f240_48 : mFetch 240 48 = some (.goto (-46), 3, 2, 0, 0, 0) := by decide +kernel
theorem f240_51 : mFetch 240 51 = some (.iconst 0, 1, 0, 0, 0, 0) := by decide +kernel
theorem f240_52 : mFetch 240 52 = some (.ireturn, 1, 0, 0, 0, 0) := by decide +kernel
theorem b240_0 {X : (Nat → Int) × Nat} {d : Nat} {s : mSt} {Q : mQ} {x1 : Int} {l2 : Option mV} (h_1 : Wp X d 240 2 [some (mR 407), some (mI x1), some (mI 0)] [] s Q) : Wp X d 240 0 [some (mR 407), some (mI x1), l2] [] s Q := Wp_step k240 f240_0 (Wp_step k240 f240_1 (h_1))
theorem b240_2 {X : (Nat → Int) × Nat} {d : Nat} {s : mSt} {Q : mQ} {x1 : Int} {x2 : Int} (h_1 : (s 407 28) ≤ x2 → Wp X d 240 51 [some (mR 407), some (mI x1), some (mI x2)] [] s Q) (h_2 : ¬ (s 407 28) ≤ x2 → Wp X d 240 10 [some (mR 407), some (mI x1), some (mI x2)] [] s Q) : Wp X d 240 2 [some (mR 407), some (mI x1), some (mI x2)] [] s Q := Wp_step k240 f240_2 (Wp_step k240 f240_3 (Wp_step k240 f240_4 ⟨kf_407, Wp_step k240 f240_7 ⟨h_1, h_2⟩⟩))
theorem b240_10 {X : (Nat → Int) × Nat} {d : Nat} {s : mSt} {Q : mQ} {x1 : Int} {x2 : Int} (h_1 : 0 ≤ x2 ∧ x2 < 5) (h_2 : 0 ≤ (w32 (6 + (s 419 x2.toNat))) ∧ (w32 (6 + (s 419 x2.toNat))) < 166) (h_3 : x1 < (s 417 (w32 (6 + (s 419 x2.toNat))).toNat) → Wp X d 240 45 [some (mR 407), some (mI x1), some (mI x2)] [] s Q) (h_4 : ¬ x1 < (s 417 (w32 (6 + (s 419 x2.toNat))).toNat) → Wp X d 240 28 [some (mR 407), some (mI x1), some (mI x2)] [] s Q) : Wp X d 240 10 [some (mR 407), some (mI x1), some (mI x2)] [] s Q := Wp_step k240 f240_10 (Wp_step k240 f240_11 ⟨kf_407, 417, rf_407_20, Wp_step k240 f240_14 (Wp_step k240 f240_16 (Wp_step k240 f240_17 ⟨kf_407, 419, rf_407_24, Wp_step k240 f240_20 (Wp_step k240 f240_21 ⟨5, af_419, h_1, Wp_step k240 f240_22 (Wp_step k240 f240_23 ⟨166, af_417, h_2, Wp_step k240 f240_24 (Wp_step k240 f240_25 ⟨h_3, h_4⟩)⟩)⟩)⟩))⟩)
theorem b240_28 {X : (Nat → Int) × Nat} {d : Nat} {s : mSt} {Q : mQ} {x1 : Int} {x2 : Int} (h_1 : 0 ≤ x2 ∧ x2 < 5) (h_2 : 0 ≤ (s 419 x2.toNat) ∧ (s 419 x2.toNat) < 5) (h_3 : (s 421 (s 419 x2.toNat).toNat) ≤ x1 → Wp X d 240 45 [some (mR 407), some (mI x1), some (mI x2)] [] s Q) (h_4 : ¬ (s 421 (s 419 x2.toNat).toNat) ≤ x1 → Wp X d 240 43 [some (mR 407), some (mI x1), some (mI x2)] [] s Q) : Wp X d 240 28 [some (mR 407), some (mI x1), some (mI x2)] [] s Q := Wp_step k240 f240_28 (Wp_step k240 f240_29 ⟨kf_407, 421, rf_407_26, Wp_step k240 f240_32 (Wp_step k240 f240_33 ⟨kf_407, 419, rf_407_24, Wp_step k240 f240_36 (Wp_step k240 f240_37 ⟨5, af_419, h_1, Wp_step k240 f240_38 ⟨5, af_421, h_2, Wp_step k240 f240_39 (Wp_step k240 f240_40 ⟨h_3, h_4⟩)⟩⟩)⟩)⟩)
theorem b240_43 {X : (Nat → Int) × Nat} {d : Nat} {s : mSt} {Q : mQ} {x1 : Int} {x2 : Int} (h_1 : Q (some (mI 1)) s) : Wp X d 240 43 [some (mR 407), some (mI x1), some (mI x2)] [] s Q := Wp_step k240 f240_43 (Wp_step k240 f240_44 ⟨⟨rfl, (Or.inr rfl)⟩, h_1⟩)
theorem b240_45 {X : (Nat → Int) × Nat} {d : Nat} {s : mSt} {Q : mQ} {x1 : Int} {x2 : Int} (h_1 : Wp X d 240 2 [some (mR 407), some (mI x1), some (mI (w32 (x2 + 1)))] [] s Q) : Wp X d 240 45 [some (mR 407), some (mI x1), some (mI x2)] [] s Q := Wp_step k240 f240_45 (Wp_step k240 f240_48 (h_1))
theorem b240_51 {X : (Nat → Int) × Nat} {d : Nat} {s : mSt} {Q : mQ} {x1 : Int} {x2 : Int} (h_1 : Q (some (mI 0)) s) : Wp X d 240 51 [some (mR 407), some (mI x1), some (mI x2)] [] s Q := Wp_step k240 f240_51 (Wp_step k240 f240_52 ⟨⟨rfl, (Or.inl rfl)⟩, h_1⟩)
theorem e240 {X : (Nat → Int) × Nat} {d : Nat} {s : mSt} {Q : mQ} {x1 : Int} (h : Wp X d 240 0 [some (mR 407), some (mI x1), none] [] s Q) : Sp X d 240 [mR 407, mI x1] s Q := Sp_of (show mCe 240 = 0 by decide +kernel) (by rw [show mML 240 = 3 by decide +kernel]; rfl) (Nat.le_trans (Nat.le_of_ble_eq_true (show Nat.ble (mArgs _).length 3 = true from rfl)) (show 3 ≤ mML 240 by decide +kernel)) h
-- 241 ClashDayModel.countsKept(I)V
theorem k241 : mRk 241 = 0 := by decide +kernel
theorem f241_0 : mFetch 241 0 = some (.aload_n 0, 1, 0, 0, 0, 0) := by decide +kernel
theorem f241_1 : mFetch 241 1 = some (.iconst 0, 1, 0, 0, 0, 0) := by decide +kernel
theorem f241_2 : mFetch 241 2 = some (.putfield 384, 3, 12, 34, 0, 1) := by decide +kernel
theorem f241_5 : mFetch 241 5 = some (.iconst 0, 1, 0, 0, 0, 0) := by decide +kernel
theorem f241_6 : mFetch 241 6 = some (.istore_n 2, 1, 0, 0, 0, 0) := by decide +kernel
theorem f241_7 : mFetch 241 7 = some (.iload_n 2, 1, 0, 0, 0, 0) := by decide +kernel
theorem f241_8 : mFetch 241 8 = some (.bipush 30, 2, 0, 0, 0, 0) := by decide +kernel
theorem f241_10 : mFetch 241 10 = some (.if_icmp .ge 40, 3, 50, 0, 0, 0) := by decide +kernel
theorem f241_13 : mFetch 241 13 = some (.aload_n 0, 1, 0, 0, 0, 0) := by decide +kernel
theorem f241_14 : mFetch 241 14 = some (.dup, 1, 0, 0, 0, 0) := by decide +kernel
theorem f241_15 : mFetch 241 15 = some (.getfield 384, 3, 12, 34, 0, 1) := by decide +kernel
theorem f241_18 : mFetch 241 18 = some (.aload_n 0, 1, 0, 0, 0, 0) := by decide +kernel
theorem f241_19 : mFetch 241 19 = some (.iload_n 2, 1, 0, 0, 0, 0) := by decide +kernel
theorem f241_20 : mFetch 241 20 = some (.invokevirtual 387, 3, 240, 0, 2, 12) := by decide +kernel
theorem f241_23 : mFetch 241 23 = some (.ifCond .eq 16, 3, 39, 0, 0, 0) := by decide +kernel
theorem f241_26 : mFetch 241 26 = some (.aload_n 0, 1, 0, 0, 0, 0) := by decide +kernel
theorem f241_27 : mFetch 241 27 = some (.iload_n 1, 1, 0, 0, 0, 0) := by decide +kernel
theorem f241_28 : mFetch 241 28 = some (.iload_n 2, 1, 0, 0, 0, 0) := by decide +kernel
theorem f241_29 : mFetch 241 29 = some (.invokevirtual 390, 3, 239, 0, 3, 12) := by decide +kernel
theorem f241_32 : mFetch 241 32 = some (.ifCond .ne 7, 3, 39, 0, 0, 0) := by decide +kernel
theorem f241_35 : mFetch 241 35 = some (.iconst 1, 1, 0, 0, 0, 0) := by decide +kernel
theorem f241_36 : mFetch 241 36 = some (.goto 4, 3, 40, 0, 0, 0) := by decide +kernel
theorem f241_39 : mFetch 241 39 = some (.iconst 0, 1, 0, 0, 0, 0) := by decide +kernel
theorem f241_40 : mFetch 241 40 = some (.iadd, 1, 0, 0, 0, 0) := by decide +kernel
theorem f241_41 : mFetch 241 41 = some (.putfield 384, 3, 12, 34, 0, 1) := by decide +kernel
theorem f241_44 : mFetch 241 44 = some (.iinc 2 1, 3, 0, 0, 0, 0) := by decide +kernel
theorem f241_47 : mFetch 241 47 = some (.goto (-40), 3, 7, 0, 0, 0) := by decide +kernel
theorem f241_50 : mFetch 241 50 = some (.return_, 1, 0, 0, 0, 0) := by decide +kernel
theorem b241_0 {X : (Nat → Int) × Nat} {d : Nat} {s : mSt} {Q : mQ} {x1 : Int} {l2 : Option mV} (h_1 : Wp X d 241 7 [some (mR 407), some (mI x1), some (mI 0)] [] (uS s 407 34 0) Q) : Wp X d 241 0 [some (mR 407), some (mI x1), l2] [] s Q := Wp_step k241 f241_0 (Wp_step k241 f241_1 (Wp_step k241 f241_2 ⟨kf_407, Wp_step k241 f241_5 (Wp_step k241 f241_6 (h_1))⟩))
theorem b241_7 {X : (Nat → Int) × Nat} {d : Nat} {s : mSt} {Q : mQ} {x1 : Int} {x2 : Int} (h_1 : 30 ≤ x2 → Wp X d 241 50 [some (mR 407), some (mI x1), some (mI x2)] [] s Q) (h_2 : ¬ 30 ≤ x2 → Wp X d 241 13 [some (mR 407), some (mI x1), some (mI x2)] [] s Q) : Wp X d 241 7 [some (mR 407), some (mI x1), some (mI x2)] [] s Q := Wp_step k241 f241_7 (Wp_step k241 f241_8 (Wp_step k241 f241_10 ⟨h_1, h_2⟩))
theorem b241_13 {X : (Nat → Int) × Nat} {d : Nat} {s : mSt} {Q : mQ} {x1 : Int} {x2 : Int} (h_1 : Sp X d 240 [mR 407, mI x2] s (fun r s' => ∃ v : Int, r = some (mI v) ∧ Wp X (d + 1) 241 23 [some (mR 407), some (mI x1), some (mI x2)] [mI v, mI (s 407 34), mR 407] s' Q)) : Wp X (d + 1) 241 13 [some (mR 407), some (mI x1), some (mI x2)] [] s Q := Wp_step k241 f241_13 (Wp_step k241 f241_14 (Wp_step k241 f241_15 ⟨kf_407, Wp_step k241 f241_18 (Wp_step k241 f241_19 (Wp_step k241 f241_20 ⟨⟨kf_407, Nat.le_of_ble_eq_true rfl⟩, Nat.le_refl _, _, rfl, Sp_E h_1⟩))⟩))
theorem b241_23 {X : (Nat → Int) × Nat} {d : Nat} {s : mSt} {Q : mQ} {x1 : Int} {x2 : Int} {xt1 : Int} {xt2 : Int} (h_1 : xt2 = 0 → Wp X d 241 39 [some (mR 407), some (mI x1), some (mI x2)] [mI xt1, mR 407] s Q) (h_2 : ¬ xt2 = 0 → Wp X d 241 26 [some (mR 407), some (mI x1), some (mI x2)] [mI xt1, mR 407] s Q) : Wp X d 241 23 [some (mR 407), some (mI x1), some (mI x2)] [mI xt2, mI xt1, mR 407] s Q := Wp_step k241 f241_23 ⟨h_1, h_2⟩
theorem b241_26 {X : (Nat → Int) × Nat} {d : Nat} {s : mSt} {Q : mQ} {x1 : Int} {x2 : Int} {xt1 : Int} (h_1 : Sp X d 239 [mR 407, mI x1, mI x2] s (fun r s' => ∃ v : Int, r = some (mI v) ∧ Wp X (d + 1) 241 32 [some (mR 407), some (mI x1), some (mI x2)] [mI v, mI xt1, mR 407] s' Q)) : Wp X (d + 1) 241 26 [some (mR 407), some (mI x1), some (mI x2)] [mI xt1, mR 407] s Q := Wp_step k241 f241_26 (Wp_step k241 f241_27 (Wp_step k241 f241_28 (Wp_step k241 f241_29 ⟨⟨kf_407, Nat.le_of_ble_eq_true rfl⟩, Nat.le_refl _, _, rfl, Sp_E h_1⟩)))
theorem b241_32 {X : (Nat → Int) × Nat} {d : Nat} {s : mSt} {Q : mQ} {x1 : Int} {x2 : Int} {xt1 : Int} {xt2 : Int} (h_1 : ¬ xt2 = 0 → Wp X d 241 39 [some (mR 407), some (mI x1), some (mI x2)] [mI xt1, mR 407] s Q) (h_2 : xt2 = 0 → Wp X d 241 35 [some (mR 407), some (mI x1), some (mI x2)] [mI xt1, mR 407] s Q) : Wp X d 241 32 [some (mR 407), some (mI x1), some (mI x2)] [mI xt2, mI xt1, mR 407] s Q := Wp_step k241 f241_32 ⟨h_1, h_2⟩
theorem b241_35 {X : (Nat → Int) × Nat} {d : Nat} {s : mSt} {Q : mQ} {x1 : Int} {x2 : Int} {xt1 : Int} (h_1 : Wp X d 241 40 [some (mR 407), some (mI x1), some (mI x2)] [mI 1, mI xt1, mR 407] s Q) : Wp X d 241 35 [some (mR 407), some (mI x1), some (mI x2)] [mI xt1, mR 407] s Q := Wp_step k241 f241_35 (Wp_step k241 f241_36 (h_1))
theorem b241_39 {X : (Nat → Int) × Nat} {d : Nat} {s : mSt} {Q : mQ} {x1 : Int} {x2 : Int} {xt1 : Int} (h_1 : Wp X d 241 40 [some (mR 407), some (mI x1), some (mI x2)] [mI 0, mI xt1, mR 407] s Q) : Wp X d 241 39 [some (mR 407), some (mI x1), some (mI x2)] [mI xt1, mR 407] s Q := Wp_step k241 f241_39 (h_1)
theorem b241_40 {X : (Nat → Int) × Nat} {d : Nat} {s : mSt} {Q : mQ} {x1 : Int} {x2 : Int} {xt1 : Int} {xt2 : Int} (h_1 : Wp X d 241 7 [some (mR 407), some (mI x1), some (mI (w32 (x2 + 1)))] [] (uS s 407 34 (w32 (xt1 + xt2))) Q) : Wp X d 241 40 [some (mR 407), some (mI x1), some (mI x2)] [mI xt2, mI xt1, mR 407] s Q := Wp_step k241 f241_40 (Wp_step k241 f241_41 ⟨kf_407, Wp_step k241 f241_44 (Wp_step k241 f241_47 (h_1))⟩)
theorem b241_50 {X : (Nat → Int) × Nat} {d : Nat} {s : mSt} {Q : mQ} {x1 : Int} {x2 : Int} (h_1 : Q none s) : Wp X d 241 50 [some (mR 407), some (mI x1), some (mI x2)] [] s Q := Wp_step k241 f241_50 ⟨⟨rfl, Or.inl rfl⟩, h_1⟩
theorem e241 {X : (Nat → Int) × Nat} {d : Nat} {s : mSt} {Q : mQ} {x1 : Int} (h : Wp X d 241 0 [some (mR 407), some (mI x1), none] [] s Q) : Sp X d 241 [mR 407, mI x1] s Q := Sp_of (show mCe 241 = 0 by decide +kernel) (by rw [show mML 241 = 3 by decide +kernel]; rfl) (Nat.le_trans (Nat.le_of_ble_eq_true (show Nat.ble (mArgs _).length 3 = true from rfl)) (show 3 ≤ mML 241 by decide +kernel)) h
-- 242 ClashDayModel.isBetter()Z
theorem k242 : mRk 242 = 2 := by decide +kernel
theorem f242_0 : mFetch 242 0 = some (.aload_n 0, 1, 0, 0, 0, 0) := by decide +kernel
theorem f242_1 : mFetch 242 1 = some (.getfield 393, 3, 12, 32, 0, 1) := by decide +kernel
theorem f242_4 : mFetch 242 4 = some (.iconst 1, 1, 0, 0, 0, 0) := by decide +kernel
theorem f242_5 : mFetch 242 5 = some (.if_icmp .ne 5, 3, 10, 0, 0, 0) := by decide +kernel
theorem f242_8 : mFetch 242 8 = some (.iconst 1, 1, 0, 0, 0, 0) := by decide +kernel
theorem f242_9 : mFetch 242 9 = some (.ireturn, 1, 0, 0, 0, 0) := by decide +kernel
theorem f242_10 : mFetch 242 10 = some (.aload_n 0, 1, 0, 0, 0, 0) := by decide +kernel
theorem f242_11 : mFetch 242 11 = some (.getfield 374, 3, 12, 33, 0, 1) := by decide +kernel
theorem f242_14 : mFetch 242 14 = some (.aload_n 0, 1, 0, 0, 0, 0) := by decide +kernel
theorem f242_15 : mFetch 242 15 = some (.getfield 396, 3, 12, 29, 0, 1) := by decide +kernel
theorem f242_18 : mFetch 242 18 = some (.if_icmp .eq 20, 3, 38, 0, 0, 0) := by decide +kernel
theorem f242_21 : mFetch 242 21 = some (.aload_n 0, 1, 0, 0, 0, 0) := by decide +kernel
theorem f242_22 : mFetch 242 22 = some (.getfield 374, 3, 12, 33, 0, 1) := by decide +kernel
theorem f242_25 : mFetch 242 25 = some (.aload_n 0, 1, 0, 0, 0, 0) := by decide +kernel
theorem f242_26 : mFetch 242 26 = some (.getfield 396, 3, 12, 29, 0, 1) := by decide +kernel
theorem f242_29 : mFetch 242 29 = some (.if_icmp .ge 7, 3, 36, 0, 0, 0) := by decide +kernel
theorem f242_32 : mFetch 242 32 = some (.iconst 1, 1, 0, 0, 0, 0) := by decide +kernel
theorem f242_33 : mFetch 242 33 = some (.goto 4, 3, 37, 0, 0, 0) := by decide +kernel
theorem f242_36 : mFetch 242 36 = some (.iconst 0, 1, 0, 0, 0, 0) := by decide +kernel
theorem f242_37 : mFetch 242 37 = some (.ireturn, 1, 0, 0, 0, 0) := by decide +kernel
theorem f242_38 : mFetch 242 38 = some (.aload_n 0, 1, 0, 0, 0, 0) := by decide +kernel
theorem f242_39 : mFetch 242 39 = some (.getfield 384, 3, 12, 34, 0, 1) := by decide +kernel
theorem f242_42 : mFetch 242 42 = some (.aload_n 0, 1, 0, 0, 0, 0) := by decide +kernel
theorem f242_43 : mFetch 242 43 = some (.getfield 399, 3, 12, 30, 0, 1) := by decide +kernel
theorem f242_46 : mFetch 242 46 = some (.if_icmp .eq 22, 3, 68, 0, 0, 0) := by decide +kernel
theorem f242_49 : mFetch 242 49 = some (.aload_n 0, 1, 0, 0, 0, 0) := by decide +kernel
theorem f242_50 : mFetch 242 50 = some (.getfield 384, 3, 12, 34, 0, 1) := by decide +kernel
theorem f242_53 : mFetch 242 53 = some (.aload_n 0, 1, 0, 0, 0, 0) := by decide +kernel
theorem f242_54 : mFetch 242 54 = some (.getfield 399, 3, 12, 30, 0, 1) := by decide +kernel
theorem f242_57 : mFetch 242 57 = some (.if_icmp .ge 7, 3, 64, 0, 0, 0) := by decide +kernel
theorem f242_60 : mFetch 242 60 = some (.iconst 1, 1, 0, 0, 0, 0) := by decide +kernel
theorem f242_61 : mFetch 242 61 = some (.goto 23, 3, 84, 0, 0, 0) := by decide +kernel
theorem f242_64 : mFetch 242 64 = some (.iconst 0, 1, 0, 0, 0, 0) := by decide +kernel
theorem f242_65 : mFetch 242 65 = some (.goto 19, 3, 84, 0, 0, 0) := by decide +kernel
theorem f242_68 : mFetch 242 68 = some (.aload_n 0, 1, 0, 0, 0, 0) := by decide +kernel
theorem f242_69 : mFetch 242 69 = some (.getfield 377, 3, 12, 35, 0, 1) := by decide +kernel
theorem f242_72 : mFetch 242 72 = some (.aload_n 0, 1, 0, 0, 0, 0) := by decide +kernel
theorem f242_73 : mFetch 242 73 = some (.getfield 402, 3, 12, 31, 0, 1) := by decide +kernel
theorem f242_76 : mFetch 242 76 = some (.if_icmp .ge 7, 3, 83, 0, 0, 0) := by decide +kernel
theorem f242_79 : mFetch 242 79 = some (.iconst 1, 1, 0, 0, 0, 0) := by decide +kernel
theorem f242_80 : mFetch 242 80 = some (.goto 4, 3, 84, 0, 0, 0) := by decide +kernel
theorem f242_83 : mFetch 242 83 = some (.iconst 0, 1, 0, 0, 0, 0) := by decide +kernel
theorem f242_84 : mFetch 242 84 = some (.ireturn, 1, 0, 0, 0, 0) := by decide +kernel
theorem b242_0 {X : (Nat → Int) × Nat} {d : Nat} {s : mSt} {Q : mQ} (h_1 : ¬ (s 407 32) = 1 → Wp X d 242 10 [some (mR 407)] [] s Q) (h_2 : (s 407 32) = 1 → Wp X d 242 8 [some (mR 407)] [] s Q) : Wp X d 242 0 [some (mR 407)] [] s Q := Wp_step k242 f242_0 (Wp_step k242 f242_1 ⟨kf_407, Wp_step k242 f242_4 (Wp_step k242 f242_5 ⟨h_1, h_2⟩)⟩)
theorem b242_8 {X : (Nat → Int) × Nat} {d : Nat} {s : mSt} {Q : mQ} (h_1 : Q (some (mI 1)) s) : Wp X d 242 8 [some (mR 407)] [] s Q := Wp_step k242 f242_8 (Wp_step k242 f242_9 ⟨⟨rfl, (Or.inr rfl)⟩, h_1⟩)
theorem b242_10 {X : (Nat → Int) × Nat} {d : Nat} {s : mSt} {Q : mQ} (h_1 : (s 407 33) = (s 407 29) → Wp X d 242 38 [some (mR 407)] [] s Q) (h_2 : ¬ (s 407 33) = (s 407 29) → Wp X d 242 21 [some (mR 407)] [] s Q) : Wp X d 242 10 [some (mR 407)] [] s Q := Wp_step k242 f242_10 (Wp_step k242 f242_11 ⟨kf_407, Wp_step k242 f242_14 (Wp_step k242 f242_15 ⟨kf_407, Wp_step k242 f242_18 ⟨h_1, h_2⟩⟩)⟩)
theorem b242_21 {X : (Nat → Int) × Nat} {d : Nat} {s : mSt} {Q : mQ} (h_1 : (s 407 29) ≤ (s 407 33) → Wp X d 242 36 [some (mR 407)] [] s Q) (h_2 : ¬ (s 407 29) ≤ (s 407 33) → Wp X d 242 32 [some (mR 407)] [] s Q) : Wp X d 242 21 [some (mR 407)] [] s Q := Wp_step k242 f242_21 (Wp_step k242 f242_22 ⟨kf_407, Wp_step k242 f242_25 (Wp_step k242 f242_26 ⟨kf_407, Wp_step k242 f242_29 ⟨h_1, h_2⟩⟩)⟩)
theorem b242_32 {X : (Nat → Int) × Nat} {d : Nat} {s : mSt} {Q : mQ} (h_1 : Wp X d 242 37 [some (mR 407)] [mI 1] s Q) : Wp X d 242 32 [some (mR 407)] [] s Q := Wp_step k242 f242_32 (Wp_step k242 f242_33 (h_1))
theorem b242_36 {X : (Nat → Int) × Nat} {d : Nat} {s : mSt} {Q : mQ} (h_1 : Wp X d 242 37 [some (mR 407)] [mI 0] s Q) : Wp X d 242 36 [some (mR 407)] [] s Q := Wp_step k242 f242_36 (h_1)
theorem b242_37 {X : (Nat → Int) × Nat} {d : Nat} {s : mSt} {Q : mQ} {xt0 : Int} (h_1 : Q (some (mI xt0)) s) (h_2 : xt0 = 0 ∨ xt0 = 1) : Wp X d 242 37 [some (mR 407)] [mI xt0] s Q := Wp_step k242 f242_37 ⟨⟨rfl, h_2⟩, h_1⟩
theorem b242_38 {X : (Nat → Int) × Nat} {d : Nat} {s : mSt} {Q : mQ} (h_1 : (s 407 34) = (s 407 30) → Wp X d 242 68 [some (mR 407)] [] s Q) (h_2 : ¬ (s 407 34) = (s 407 30) → Wp X d 242 49 [some (mR 407)] [] s Q) : Wp X d 242 38 [some (mR 407)] [] s Q := Wp_step k242 f242_38 (Wp_step k242 f242_39 ⟨kf_407, Wp_step k242 f242_42 (Wp_step k242 f242_43 ⟨kf_407, Wp_step k242 f242_46 ⟨h_1, h_2⟩⟩)⟩)
theorem b242_49 {X : (Nat → Int) × Nat} {d : Nat} {s : mSt} {Q : mQ} (h_1 : (s 407 30) ≤ (s 407 34) → Wp X d 242 64 [some (mR 407)] [] s Q) (h_2 : ¬ (s 407 30) ≤ (s 407 34) → Wp X d 242 60 [some (mR 407)] [] s Q) : Wp X d 242 49 [some (mR 407)] [] s Q := Wp_step k242 f242_49 (Wp_step k242 f242_50 ⟨kf_407, Wp_step k242 f242_53 (Wp_step k242 f242_54 ⟨kf_407, Wp_step k242 f242_57 ⟨h_1, h_2⟩⟩)⟩)
theorem b242_60 {X : (Nat → Int) × Nat} {d : Nat} {s : mSt} {Q : mQ} (h_1 : Wp X d 242 84 [some (mR 407)] [mI 1] s Q) : Wp X d 242 60 [some (mR 407)] [] s Q := Wp_step k242 f242_60 (Wp_step k242 f242_61 (h_1))
theorem b242_64 {X : (Nat → Int) × Nat} {d : Nat} {s : mSt} {Q : mQ} (h_1 : Wp X d 242 84 [some (mR 407)] [mI 0] s Q) : Wp X d 242 64 [some (mR 407)] [] s Q := Wp_step k242 f242_64 (Wp_step k242 f242_65 (h_1))
theorem b242_68 {X : (Nat → Int) × Nat} {d : Nat} {s : mSt} {Q : mQ} (h_1 : (s 407 31) ≤ (s 407 35) → Wp X d 242 83 [some (mR 407)] [] s Q) (h_2 : ¬ (s 407 31) ≤ (s 407 35) → Wp X d 242 79 [some (mR 407)] [] s Q) : Wp X d 242 68 [some (mR 407)] [] s Q := Wp_step k242 f242_68 (Wp_step k242 f242_69 ⟨kf_407, Wp_step k242 f242_72 (Wp_step k242 f242_73 ⟨kf_407, Wp_step k242 f242_76 ⟨h_1, h_2⟩⟩)⟩)
theorem b242_79 {X : (Nat → Int) × Nat} {d : Nat} {s : mSt} {Q : mQ} (h_1 : Wp X d 242 84 [some (mR 407)] [mI 1] s Q) : Wp X d 242 79 [some (mR 407)] [] s Q := Wp_step k242 f242_79 (Wp_step k242 f242_80 (h_1))
theorem b242_83 {X : (Nat → Int) × Nat} {d : Nat} {s : mSt} {Q : mQ} (h_1 : Wp X d 242 84 [some (mR 407)] [mI 0] s Q) : Wp X d 242 83 [some (mR 407)] [] s Q := Wp_step k242 f242_83 (h_1)
theorem b242_84 {X : (Nat → Int) × Nat} {d : Nat} {s : mSt} {Q : mQ} {xt0 : Int} (h_1 : Q (some (mI xt0)) s) (h_2 : xt0 = 0 ∨ xt0 = 1) : Wp X d 242 84 [some (mR 407)] [mI xt0] s Q := Wp_step k242 f242_84 ⟨⟨rfl, h_2⟩, h_1⟩
theorem e242 {X : (Nat → Int) × Nat} {d : Nat} {s : mSt} {Q : mQ} (h : Wp X d 242 0 [some (mR 407)] [] s Q) : Sp X d 242 [mR 407] s Q := Sp_of (show mCe 242 = 0 by decide +kernel) (by rw [show mML 242 = 1 by decide +kernel]; rfl) (Nat.le_trans (Nat.le_of_ble_eq_true (show Nat.ble (mArgs _).length 1 = true from rfl)) (show 1 ≤ mML 242 by decide +kernel)) h
