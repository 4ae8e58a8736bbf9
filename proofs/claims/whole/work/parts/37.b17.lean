-- 263 ClashDayModel.orders(I)I
theorem k263 : mRk 263 = 1 := by decide +kernel
theorem f263_0 : mFetch 263 0 = some (.aload_n 0, 1, 0, 0, 0, 0) := by decide +kernel
theorem f263_1 : mFetch 263 1 = some (.iload_n 1, 1, 0, 0, 0, 0) := by decide +kernel
theorem f263_2 : mFetch 263 2 = some (.invokevirtual 328, 3, 215, 0, 2, 12) := by decide +kernel
theorem f263_5 : mFetch 263 5 = some (.ifCond .ne 5, 3, 10, 0, 0, 0) := by decide +kernel
theorem f263_8 : mFetch 263 8 = some (.iconst (-1), 1, 0, 0, 0, 0) := by decide +kernel
theorem f263_9 : mFetch 263 9 = some (.ireturn, 1, 0, 0, 0, 0) := by decide +kernel
theorem f263_10 : mFetch 263 10 = some (.aload_n 0, 1, 0, 0, 0, 0) := by decide +kernel
theorem f263_11 : mFetch 263 11 = some (.iload_n 1, 1, 0, 0, 0, 0) := by decide +kernel
theorem f263_12 : mFetch 263 12 = some (.invokevirtual 420, 3, 244, 0, 2, 12) := by decide +kernel
theorem f263_15 : mFetch 263 15 = some (.pop, 1, 0, 0, 0, 0) := by decide +kernel
theorem f263_16 : mFetch 263 16 = some (.aload_n 0, 1, 0, 0, 0, 0) := by decide +kernel
theorem f263_17 : mFetch 263 17 = some (.getfield 393, 3, 12, 32, 0, 1) := by decide +kernel
theorem f263_20 : mFetch 263 20 = some (.ireturn, 1, 0, 0, 0, 0) := by decide +kernel
theorem b263_0 {X : (Nat → Int) × Nat} {d : Nat} {s : mSt} {Q : mQ} {x1 : Int} (h_1 : Sp X d 215 [mR 407, mI x1] s (fun r s' => ∃ v : Int, r = some (mI v) ∧ Wp X (d + 1) 263 5 [some (mR 407), some (mI x1)] [mI v] s' Q)) : Wp X (d + 1) 263 0 [some (mR 407), some (mI x1)] [] s Q := Wp_step k263 f263_0 (Wp_step k263 f263_1 (Wp_step k263 f263_2 ⟨⟨kf_407, Nat.le_of_ble_eq_true rfl⟩, Nat.le_refl _, _, rfl, Sp_E h_1⟩))
theorem b263_5 {X : (Nat → Int) × Nat} {d : Nat} {s : mSt} {Q : mQ} {x1 : Int} {xt0 : Int} (h_1 : ¬ xt0 = 0 → Wp X d 263 10 [some (mR 407), some (mI x1)] [] s Q) (h_2 : xt0 = 0 → Wp X d 263 8 [some (mR 407), some (mI x1)] [] s Q) : Wp X d 263 5 [some (mR 407), some (mI x1)] [mI xt0] s Q := Wp_step k263 f263_5 ⟨h_1, h_2⟩
theorem b263_8 {X : (Nat → Int) × Nat} {d : Nat} {s : mSt} {Q : mQ} {x1 : Int} (h_1 : Q (some (mI (-1))) s) : Wp X d 263 8 [some (mR 407), some (mI x1)] [] s Q := Wp_step k263 f263_8 (Wp_step k263 f263_9 ⟨⟨rfl, trivial⟩, h_1⟩)
theorem b263_10 {X : (Nat → Int) × Nat} {d : Nat} {s : mSt} {Q : mQ} {x1 : Int} (h_1 : Sp X d 244 [mR 407, mI x1] s (fun r s' => ∃ v : Int, r = some (mI v) ∧ Wp X (d + 1) 263 15 [some (mR 407), some (mI x1)] [mI v] s' Q)) : Wp X (d + 1) 263 10 [some (mR 407), some (mI x1)] [] s Q := Wp_step k263 f263_10 (Wp_step k263 f263_11 (Wp_step k263 f263_12 ⟨⟨kf_407, Nat.le_of_ble_eq_true rfl⟩, Nat.le_refl _, _, rfl, Sp_E h_1⟩))
theorem b263_15 {X : (Nat → Int) × Nat} {d : Nat} {s : mSt} {Q : mQ} {x1 : Int} {xt0 : Int} (h_1 : Q (some (mI (s 407 32))) s) : Wp X d 263 15 [some (mR 407), some (mI x1)] [mI xt0] s Q := Wp_step k263 f263_15 (Wp_step k263 f263_16 (Wp_step k263 f263_17 ⟨kf_407, Wp_step k263 f263_20 ⟨⟨rfl, trivial⟩, h_1⟩⟩))
theorem e263 {X : (Nat → Int) × Nat} {d : Nat} {s : mSt} {Q : mQ} {x1 : Int} (h : Wp X d 263 0 [some (mR 407), some (mI x1)] [] s Q) : Sp X d 263 [mR 407, mI x1] s Q := Sp_of (show mCe 263 = 0 by decide +kernel) (by rw [show mML 263 = 2 by decide +kernel]; rfl) (Nat.le_trans (Nat.le_of_ble_eq_true (show Nat.ble (mArgs _).length 2 = true from rfl)) (show 2 ≤ mML 263 by decide +kernel)) h
-- 264 ClashDayModel.clash(II)I
theorem k264 : mRk 264 = 1 := by decide +kernel
theorem f264_0 : mFetch 264 0 = some (.aload_n 0, 1, 0, 0, 0, 0) := by decide +kernel
theorem f264_1 : mFetch 264 1 = some (.iload_n 1, 1, 0, 0, 0, 0) := by decide +kernel
theorem f264_2 : mFetch 264 2 = some (.invokevirtual 328, 3, 215, 0, 2, 12) := by decide +kernel
theorem f264_5 : mFetch 264 5 = some (.ifCond .eq 13, 3, 18, 0, 0, 0) := by decide +kernel
theorem f264_8 : mFetch 264 8 = some (.iload_n 2, 1, 0, 0, 0, 0) := by decide +kernel
theorem f264_9 : mFetch 264 9 = some (.i2l, 1, 0, 0, 0, 0) := by decide +kernel
theorem f264_10 : mFetch 264 10 = some (.lconst 0, 1, 0, 0, 0, 0) := by decide +kernel
theorem f264_11 : mFetch 264 11 = some (.lconst 1, 1, 0, 0, 0, 0) := by decide +kernel
theorem f264_12 : mFetch 264 12 = some (.invokestatic 151, 3, 167, 0, 3, 99) := by decide +kernel
theorem f264_15 : mFetch 264 15 = some (.ifCond .ne 5, 3, 20, 0, 0, 0) := by decide +kernel
theorem f264_18 : mFetch 264 18 = some (.iconst (-1), 1, 0, 0, 0, 0) := by decide +kernel
theorem f264_19 : mFetch 264 19 = some (.ireturn, 1, 0, 0, 0, 0) := by decide +kernel
theorem f264_20 : mFetch 264 20 = some (.aload_n 0, 1, 0, 0, 0, 0) := by decide +kernel
theorem f264_21 : mFetch 264 21 = some (.iload_n 1, 1, 0, 0, 0, 0) := by decide +kernel
theorem f264_22 : mFetch 264 22 = some (.invokevirtual 420, 3, 244, 0, 2, 12) := by decide +kernel
theorem f264_25 : mFetch 264 25 = some (.ifCond .eq 6, 3, 31, 0, 0, 0) := by decide +kernel
theorem f264_28 : mFetch 264 28 = some (.bipush (-2), 2, 0, 0, 0, 0) := by decide +kernel
theorem f264_30 : mFetch 264 30 = some (.ireturn, 1, 0, 0, 0, 0) := by decide +kernel
theorem f264_31 : mFetch 264 31 = some (.aload_n 0, 1, 0, 0, 0, 0) := by decide +kernel
theorem f264_32 : mFetch 264 32 = some (.getfield 39, 3, 12, 20, 2, 1) := by decide +kernel
theorem f264_35 : mFetch 264 35 = some (.bipush 117, 2, 0, 0, 0, 0) := by decide +kernel
theorem f264_37 : mFetch 264 37 = some (.iload_n 1, 1, 0, 0, 0, 0) := by decide +kernel
theorem f264_38 : mFetch 264 38 = some (.iadd, 1, 0, 0, 0, 0) := by decide +kernel
theorem f264_39 : mFetch 264 39 = some (.iaload, 1, 0, 0, 0, 0) := by decide +kernel
theorem f264_40 : mFetch 264 40 = some (.istore_n 3, 1, 0, 0, 0, 0) := by decide +kernel
theorem f264_41 : mFetch 264 41 = some (.iload_n 3, 1, 0, 0, 0, 0) := by decide +kernel
theorem f264_42 : mFetch 264 42 = some (.istore 4, 2, 0, 0, 0, 0) := by decide +kernel
theorem f264_44 : mFetch 264 44 = some (.iconst 1, 1, 0, 0, 0, 0) := by decide +kernel
theorem f264_45 : mFetch 264 45 = some (.istore 5, 2, 0, 0, 0, 0) := by decide +kernel
theorem f264_47 : mFetch 264 47 = some (.iload 5, 2, 0, 0, 0, 0) := by decide +kernel
theorem f264_49 : mFetch 264 49 = some (.iload_n 3, 1, 0, 0, 0, 0) := by decide +kernel
theorem f264_50 : mFetch 264 50 = some (.if_icmp .ge 48, 3, 98, 0, 0, 0) := by decide +kernel
theorem f264_53 : mFetch 264 53 = some (.iload 5, 2, 0, 0, 0, 0) := by decide +kernel
theorem f264_55 : mFetch 264 55 = some (.iload_n 3, 1, 0, 0, 0, 0) := by decide +kernel
theorem f264_56 : mFetch 264 56 = some (.iconst (-1), 1, 0, 0, 0, 0) := by decide +kernel
theorem f264_57 : mFetch 264 57 = some (.ixor, 1, 0, 0, 0, 0) := by decide +kernel
theorem f264_58 : mFetch 264 58 = some (.iand, 1, 0, 0, 0, 0) := by decide +kernel
theorem f264_59 : mFetch 264 59 = some (.ifCond .ne 33, 3, 92, 0, 0, 0) := by decide +kernel
theorem f264_62 : mFetch 264 62 = some (.iload 5, 2, 0, 0, 0, 0) := by decide +kernel
theorem f264_64 : mFetch 264 64 = some (.invokestatic 427, 3, 169, 0, 1, 99) := by decide +kernel
theorem f264_67 : mFetch 264 67 = some (.iload 4, 2, 0, 0, 0, 0) := by decide +kernel
theorem f264_69 : mFetch 264 69 = some (.invokestatic 427, 3, 169, 0, 1, 99) := by decide +kernel
theorem f264_72 : mFetch 264 72 = some (.if_icmp .ge 20, 3, 92, 0, 0, 0) := by decide +kernel
theorem f264_75 : mFetch 264 75 = some (.aload_n 0, 1, 0, 0, 0, 0) := by decide +kernel
theorem f264_76 : mFetch 264 76 = some (.iload_n 1, 1, 0, 0, 0, 0) := by decide +kernel
theorem f264_77 : mFetch 264 77 = some (.iload 5, 2, 0, 0, 0, 0) := by decide +kernel
theorem f264_79 : mFetch 264 79 = some (.invokevirtual 417, 3, 243, 0, 3, 12) := by decide +kernel
theorem f264_82 : mFetch 264 82 = some (.ifCond .eq 6, 3, 88, 0, 0, 0) := by decide +kernel
theorem f264_85 : mFetch 264 85 = some (.goto 7, 3, 92, 0, 0, 0) := by decide +kernel
theorem f264_88 : mFetch 264 88 = some (.iload 5, 2, 0, 0, 0, 0) := by decide +kernel
theorem f264_90 : mFetch 264 90 = some (.istore 4, 2, 0, 0, 0, 0) := by decide +kernel
theorem f264_92 : mFetch 264 92 = some (.iinc 5 1, 3, 0, 0, 0, 0) := by decide +kernel
theorem f264_95 : mFetch 264 95 = some (.goto (-48), 3, 47, 0, 0, 0) := by decide +kernel
theorem f264_98 : mFetch 264 98 = some (.iload_n 2, 1, 0, 0, 0, 0) := by decide +kernel
theorem f264_99 : mFetch 264 99 = some (.ifCond .ne 11, 3, 110, 0, 0, 0) := by decide +kernel
theorem f264_102 : mFetch 264 102 = some (.iload 4, 2, 0, 0, 0, 0) := by decide +kernel
theorem f264_104 : mFetch 264 104 = some (.invokestatic 427, 3, 169, 0, 1, 99) := by decide +kernel
theorem f264_107 : mFetch 264 107 = some (.goto 5, 3, 112, 0, 0, 0) := by decide +kernel
theorem f264_110 : mFetch 264 110 = some (.iload 4, 2, 0, 0, 0, 0) := by decide +kernel
theorem f264_112 : mFetch 264 112 = some (.ireturn, 1, 0, 0, 0, 0) := by decide +kernel
theorem b264_0 {X : (Nat → Int) × Nat} {d : Nat} {s : mSt} {Q : mQ} {x1 : Int} {x2 : Int} (h_1 : Sp X d 215 [mR 407, mI x1] s (fun r s' => ∃ v : Int, r = some (mI v) ∧ Wp X (d + 1) 264 5 [some (mR 407), some (mI x1), some (mI x2), none, none, none] [mI v] s' Q)) : Wp X (d + 1) 264 0 [some (mR 407), some (mI x1), some (mI x2), none, none, none] [] s Q := Wp_step k264 f264_0 (Wp_step k264 f264_1 (Wp_step k264 f264_2 ⟨⟨kf_407, Nat.le_of_ble_eq_true rfl⟩, Nat.le_refl _, _, rfl, Sp_E h_1⟩))
theorem b264_5 {X : (Nat → Int) × Nat} {d : Nat} {s : mSt} {Q : mQ} {x1 : Int} {x2 : Int} {xt0 : Int} (h_1 : xt0 = 0 → Wp X d 264 18 [some (mR 407), some (mI x1), some (mI x2), none, none, none] [] s Q) (h_2 : ¬ xt0 = 0 → Wp X d 264 8 [some (mR 407), some (mI x1), some (mI x2), none, none, none] [] s Q) : Wp X d 264 5 [some (mR 407), some (mI x1), some (mI x2), none, none, none] [mI xt0] s Q := Wp_step k264 f264_5 ⟨h_1, h_2⟩
theorem b264_8 {X : (Nat → Int) × Nat} {d : Nat} {s : mSt} {Q : mQ} {x1 : Int} {x2 : Int} (h_1 : Sp X d 167 [mJ x2, mJ 0, mJ 1] s (fun r s' => ∃ v : Int, r = some (mI v) ∧ Wp X (d + 1) 264 15 [some (mR 407), some (mI x1), some (mI x2), none, none, none] [mI v] s' Q)) : Wp X (d + 1) 264 8 [some (mR 407), some (mI x1), some (mI x2), none, none, none] [] s Q := Wp_step k264 f264_8 (Wp_step k264 f264_9 (Wp_step k264 f264_10 (Wp_step k264 f264_11 (Wp_step k264 f264_12 ⟨⟨Nat.le_of_ble_eq_true rfl, Nat.le_refl _⟩, _, rfl, Sp_E h_1⟩))))
theorem b264_15 {X : (Nat → Int) × Nat} {d : Nat} {s : mSt} {Q : mQ} {x1 : Int} {x2 : Int} {xt0 : Int} (h_1 : ¬ xt0 = 0 → Wp X d 264 20 [some (mR 407), some (mI x1), some (mI x2), none, none, none] [] s Q) (h_2 : xt0 = 0 → Wp X d 264 18 [some (mR 407), some (mI x1), some (mI x2), none, none, none] [] s Q) : Wp X d 264 15 [some (mR 407), some (mI x1), some (mI x2), none, none, none] [mI xt0] s Q := Wp_step k264 f264_15 ⟨h_1, h_2⟩
theorem b264_18 {X : (Nat → Int) × Nat} {d : Nat} {s : mSt} {Q : mQ} {x1 : Int} {x2 : Int} (h_1 : Q (some (mI (-1))) s) : Wp X d 264 18 [some (mR 407), some (mI x1), some (mI x2), none, none, none] [] s Q := Wp_step k264 f264_18 (Wp_step k264 f264_19 ⟨⟨rfl, trivial⟩, h_1⟩)
theorem b264_20 {X : (Nat → Int) × Nat} {d : Nat} {s : mSt} {Q : mQ} {x1 : Int} {x2 : Int} (h_1 : Sp X d 244 [mR 407, mI x1] s (fun r s' => ∃ v : Int, r = some (mI v) ∧ Wp X (d + 1) 264 25 [some (mR 407), some (mI x1), some (mI x2), none, none, none] [mI v] s' Q)) : Wp X (d + 1) 264 20 [some (mR 407), some (mI x1), some (mI x2), none, none, none] [] s Q := Wp_step k264 f264_20 (Wp_step k264 f264_21 (Wp_step k264 f264_22 ⟨⟨kf_407, Nat.le_of_ble_eq_true rfl⟩, Nat.le_refl _, _, rfl, Sp_E h_1⟩))
theorem b264_25 {X : (Nat → Int) × Nat} {d : Nat} {s : mSt} {Q : mQ} {x1 : Int} {x2 : Int} {xt0 : Int} (h_1 : xt0 = 0 → Wp X d 264 31 [some (mR 407), some (mI x1), some (mI x2), none, none, none] [] s Q) (h_2 : ¬ xt0 = 0 → Wp X d 264 28 [some (mR 407), some (mI x1), some (mI x2), none, none, none] [] s Q) : Wp X d 264 25 [some (mR 407), some (mI x1), some (mI x2), none, none, none] [mI xt0] s Q := Wp_step k264 f264_25 ⟨h_1, h_2⟩
theorem b264_28 {X : (Nat → Int) × Nat} {d : Nat} {s : mSt} {Q : mQ} {x1 : Int} {x2 : Int} (h_1 : Q (some (mI (-2))) s) : Wp X d 264 28 [some (mR 407), some (mI x1), some (mI x2), none, none, none] [] s Q := Wp_step k264 f264_28 (Wp_step k264 f264_30 ⟨⟨rfl, trivial⟩, h_1⟩)
theorem b264_31 {X : (Nat → Int) × Nat} {d : Nat} {s : mSt} {Q : mQ} {x1 : Int} {x2 : Int} (h_1 : 0 ≤ (w32 (117 + x1)) ∧ (w32 (117 + x1)) < 166) (h_2 : Wp X d 264 47 [some (mR 407), some (mI x1), some (mI x2), some (mI (s 417 (w32 (117 + x1)).toNat)), some (mI (s 417 (w32 (117 + x1)).toNat)), some (mI 1)] [] s Q) : Wp X d 264 31 [some (mR 407), some (mI x1), some (mI x2), none, none, none] [] s Q := Wp_step k264 f264_31 (Wp_step k264 f264_32 ⟨kf_407, 417, rf_407_20, Wp_step k264 f264_35 (Wp_step k264 f264_37 (Wp_step k264 f264_38 (Wp_step k264 f264_39 ⟨166, af_417, h_1, Wp_step k264 f264_40 (Wp_step k264 f264_41 (Wp_step k264 f264_42 (Wp_step k264 f264_44 (Wp_step k264 f264_45 (h_2)))))⟩)))⟩)
theorem b264_47 {X : (Nat → Int) × Nat} {d : Nat} {s : mSt} {Q : mQ} {x1 : Int} {x2 : Int} {x3 : Int} {x4 : Int} {x5 : Int} (h_1 : x3 ≤ x5 → Wp X d 264 98 [some (mR 407), some (mI x1), some (mI x2), some (mI x3), some (mI x4), some (mI x5)] [] s Q) (h_2 : ¬ x3 ≤ x5 → Wp X d 264 53 [some (mR 407), some (mI x1), some (mI x2), some (mI x3), some (mI x4), some (mI x5)] [] s Q) : Wp X d 264 47 [some (mR 407), some (mI x1), some (mI x2), some (mI x3), some (mI x4), some (mI x5)] [] s Q := Wp_step k264 f264_47 (Wp_step k264 f264_49 (Wp_step k264 f264_50 ⟨h_1, h_2⟩))
theorem b264_53 {X : (Nat → Int) × Nat} {d : Nat} {s : mSt} {Q : mQ} {x1 : Int} {x2 : Int} {x3 : Int} {x4 : Int} {x5 : Int} (h_1 : ¬ (iAnd x5 (iXor x3 (-1))) = 0 → Wp X d 264 92 [some (mR 407), some (mI x1), some (mI x2), some (mI x3), some (mI x4), some (mI x5)] [] s Q) (h_2 : (iAnd x5 (iXor x3 (-1))) = 0 → Wp X d 264 62 [some (mR 407), some (mI x1), some (mI x2), some (mI x3), some (mI x4), some (mI x5)] [] s Q) : Wp X d 264 53 [some (mR 407), some (mI x1), some (mI x2), some (mI x3), some (mI x4), some (mI x5)] [] s Q := Wp_step k264 f264_53 (Wp_step k264 f264_55 (Wp_step k264 f264_56 (Wp_step k264 f264_57 (Wp_step k264 f264_58 (Wp_step k264 f264_59 ⟨h_1, h_2⟩)))))
theorem b264_62 {X : (Nat → Int) × Nat} {d : Nat} {s : mSt} {Q : mQ} {x1 : Int} {x2 : Int} {x3 : Int} {x4 : Int} {x5 : Int} (h_1 : Sp X d 169 [mI x5] s (fun r s' => ∃ v : Int, r = some (mI v) ∧ Wp X (d + 1) 264 67 [some (mR 407), some (mI x1), some (mI x2), some (mI x3), some (mI x4), some (mI x5)] [mI v] s' Q)) : Wp X (d + 1) 264 62 [some (mR 407), some (mI x1), some (mI x2), some (mI x3), some (mI x4), some (mI x5)] [] s Q := Wp_step k264 f264_62 (Wp_step k264 f264_64 ⟨⟨Nat.le_of_ble_eq_true rfl, Nat.le_refl _⟩, _, rfl, Sp_E h_1⟩)
theorem b264_67 {X : (Nat → Int) × Nat} {d : Nat} {s : mSt} {Q : mQ} {x1 : Int} {x2 : Int} {x3 : Int} {x4 : Int} {x5 : Int} {xt0 : Int} (h_1 : Sp X d 169 [mI x4] s (fun r s' => ∃ v : Int, r = some (mI v) ∧ Wp X (d + 1) 264 72 [some (mR 407), some (mI x1), some (mI x2), some (mI x3), some (mI x4), some (mI x5)] [mI v, mI xt0] s' Q)) : Wp X (d + 1) 264 67 [some (mR 407), some (mI x1), some (mI x2), some (mI x3), some (mI x4), some (mI x5)] [mI xt0] s Q := Wp_step k264 f264_67 (Wp_step k264 f264_69 ⟨⟨Nat.le_of_ble_eq_true rfl, Nat.le_refl _⟩, _, rfl, Sp_E h_1⟩)
theorem b264_72 {X : (Nat → Int) × Nat} {d : Nat} {s : mSt} {Q : mQ} {x1 : Int} {x2 : Int} {x3 : Int} {x4 : Int} {x5 : Int} {xt0 : Int} {xt1 : Int} (h_1 : xt1 ≤ xt0 → Wp X d 264 92 [some (mR 407), some (mI x1), some (mI x2), some (mI x3), some (mI x4), some (mI x5)] [] s Q) (h_2 : ¬ xt1 ≤ xt0 → Wp X d 264 75 [some (mR 407), some (mI x1), some (mI x2), some (mI x3), some (mI x4), some (mI x5)] [] s Q) : Wp X d 264 72 [some (mR 407), some (mI x1), some (mI x2), some (mI x3), some (mI x4), some (mI x5)] [mI xt1, mI xt0] s Q := Wp_step k264 f264_72 ⟨h_1, h_2⟩
theorem b264_75 {X : (Nat → Int) × Nat} {d : Nat} {s : mSt} {Q : mQ} {x1 : Int} {x2 : Int} {x3 : Int} {x4 : Int} {x5 : Int} (h_1 : Sp X d 243 [mR 407, mI x1, mI x5] s (fun r s' => ∃ v : Int, r = some (mI v) ∧ Wp X (d + 1) 264 82 [some (mR 407), some (mI x1), some (mI x2), some (mI x3), some (mI x4), some (mI x5)] [mI v] s' Q)) : Wp X (d + 1) 264 75 [some (mR 407), some (mI x1), some (mI x2), some (mI x3), some (mI x4), some (mI x5)] [] s Q := Wp_step k264 f264_75 (Wp_step k264 f264_76 (Wp_step k264 f264_77 (Wp_step k264 f264_79 ⟨⟨kf_407, Nat.le_of_ble_eq_true rfl⟩, Nat.le_refl _, _, rfl, Sp_E h_1⟩)))
theorem b264_82 {X : (Nat → Int) × Nat} {d : Nat} {s : mSt} {Q : mQ} {x1 : Int} {x2 : Int} {x3 : Int} {x4 : Int} {x5 : Int} {xt0 : Int} (h_1 : xt0 = 0 → Wp X d 264 88 [some (mR 407), some (mI x1), some (mI x2), some (mI x3), some (mI x4), some (mI x5)] [] s Q) (h_2 : ¬ xt0 = 0 → Wp X d 264 85 [some (mR 407), some (mI x1), some (mI x2), some (mI x3), some (mI x4), some (mI x5)] [] s Q) : Wp X d 264 82 [some (mR 407), some (mI x1), some (mI x2), some (mI x3), some (mI x4), some (mI x5)] [mI xt0] s Q := Wp_step k264 f264_82 ⟨h_1, h_2⟩
theorem b264_85 {X : (Nat → Int) × Nat} {d : Nat} {s : mSt} {Q : mQ} {x1 : Int} {x2 : Int} {x3 : Int} {x4 : Int} {x5 : Int} (h_1 : Wp X d 264 92 [some (mR 407), some (mI x1), some (mI x2), some (mI x3), some (mI x4), some (mI x5)] [] s Q) : Wp X d 264 85 [some (mR 407), some (mI x1), some (mI x2), some (mI x3), some (mI x4), some (mI x5)] [] s Q := Wp_step k264 f264_85 (h_1)
theorem b264_88 {X : (Nat → Int) × Nat} {d : Nat} {s : mSt} {Q : mQ} {x1 : Int} {x2 : Int} {x3 : Int} {x4 : Int} {x5 : Int} (h_1 : Wp X d 264 92 [some (mR 407), some (mI x1), some (mI x2), some (mI x3), some (mI x5), some (mI x5)] [] s Q) : Wp X d 264 88 [some (mR 407), some (mI x1), some (mI x2), some (mI x3), some (mI x4), some (mI x5)] [] s Q := Wp_step k264 f264_88 (Wp_step k264 f264_90 (h_1))
theorem b264_92 {X : (Nat → Int) × Nat} {d : Nat} {s : mSt} {Q : mQ} {x1 : Int} {x2 : Int} {x3 : Int} {x4 : Int} {x5 : Int} (h_1 : Wp X d 264 47 [some (mR 407), some (mI x1), some (mI x2), some (mI x3), some (mI x4), some (mI (w32 (x5 + 1)))] [] s Q) : Wp X d 264 92 [some (mR 407), some (mI x1), some (mI x2), some (mI x3), some (mI x4), some (mI x5)] [] s Q := Wp_step k264 f264_92 (Wp_step k264 f264_95 (h_1))
theorem b264_98 {X : (Nat → Int) × Nat} {d : Nat} {s : mSt} {Q : mQ} {x1 : Int} {x2 : Int} {x3 : Int} {x4 : Int} {x5 : Int} (h_1 : ¬ x2 = 0 → Wp X d 264 110 [some (mR 407), some (mI x1), some (mI x2), some (mI x3), some (mI x4), some (mI x5)] [] s Q) (h_2 : x2 = 0 → Wp X d 264 102 [some (mR 407), some (mI x1), some (mI x2), some (mI x3), some (mI x4), some (mI x5)] [] s Q) : Wp X d 264 98 [some (mR 407), some (mI x1), some (mI x2), some (mI x3), some (mI x4), some (mI x5)] [] s Q := Wp_step k264 f264_98 (Wp_step k264 f264_99 ⟨h_1, h_2⟩)
theorem b264_102 {X : (Nat → Int) × Nat} {d : Nat} {s : mSt} {Q : mQ} {x1 : Int} {x2 : Int} {x3 : Int} {x4 : Int} {x5 : Int} (h_1 : Sp X d 169 [mI x4] s (fun r s' => ∃ v : Int, r = some (mI v) ∧ Wp X (d + 1) 264 107 [some (mR 407), some (mI x1), some (mI x2), some (mI x3), some (mI x4), some (mI x5)] [mI v] s' Q)) : Wp X (d + 1) 264 102 [some (mR 407), some (mI x1), some (mI x2), some (mI x3), some (mI x4), some (mI x5)] [] s Q := Wp_step k264 f264_102 (Wp_step k264 f264_104 ⟨⟨Nat.le_of_ble_eq_true rfl, Nat.le_refl _⟩, _, rfl, Sp_E h_1⟩)
theorem b264_107 {X : (Nat → Int) × Nat} {d : Nat} {s : mSt} {Q : mQ} {x1 : Int} {x2 : Int} {x3 : Int} {x4 : Int} {x5 : Int} {xt0 : Int} (h_1 : Wp X d 264 112 [some (mR 407), some (mI x1), some (mI x2), some (mI x3), some (mI x4), some (mI x5)] [mI xt0] s Q) : Wp X d 264 107 [some (mR 407), some (mI x1), some (mI x2), some (mI x3), some (mI x4), some (mI x5)] [mI xt0] s Q := Wp_step k264 f264_107 (h_1)
theorem b264_110 {X : (Nat → Int) × Nat} {d : Nat} {s : mSt} {Q : mQ} {x1 : Int} {x2 : Int} {x3 : Int} {x4 : Int} {x5 : Int} (h_1 : Wp X d 264 112 [some (mR 407), some (mI x1), some (mI x2), some (mI x3), some (mI x4), some (mI x5)] [mI x4] s Q) : Wp X d 264 110 [some (mR 407), some (mI x1), some (mI x2), some (mI x3), some (mI x4), some (mI x5)] [] s Q := Wp_step k264 f264_110 (h_1)
theorem b264_112 {X : (Nat → Int) × Nat} {d : Nat} {s : mSt} {Q : mQ} {x1 : Int} {x2 : Int} {x3 : Int} {x4 : Int} {x5 : Int} {xt0 : Int} (h_1 : Q (some (mI xt0)) s) : Wp X d 264 112 [some (mR 407), some (mI x1), some (mI x2), some (mI x3), some (mI x4), some (mI x5)] [mI xt0] s Q := Wp_step k264 f264_112 ⟨⟨rfl, trivial⟩, h_1⟩
theorem e264 {X : (Nat → Int) × Nat} {d : Nat} {s : mSt} {Q : mQ} {x1 : Int} {x2 : Int} (h : Wp X d 264 0 [some (mR 407), some (mI x1), some (mI x2), none, none, none] [] s Q) : Sp X d 264 [mR 407, mI x1, mI x2] s Q := Sp_of (show mCe 264 = 0 by decide +kernel) (by rw [show mML 264 = 6 by decide +kernel]; rfl) (Nat.le_trans (Nat.le_of_ble_eq_true (show Nat.ble (mArgs _).length 6 = true from rfl)) (show 6 ≤ mML 264 by decide +kernel)) h
-- 265 ClashDayModel.signOf(II)I
theorem k265 : mRk 265 = 1 := by decide +kernel
theorem f265_0 : mFetch 265 0 = some (.aload_n 0, 1, 0, 0, 0, 0) := by decide +kernel
theorem f265_1 : mFetch 265 1 = some (.iload_n 1, 1, 0, 0, 0, 0) := by decide +kernel
theorem f265_2 : mFetch 265 2 = some (.iload_n 2, 1, 0, 0, 0, 0) := by decide +kernel
theorem f265_3 : mFetch 265 3 = some (.invokevirtual 337, 3, 222, 0, 3, 12) := by decide +kernel
theorem f265_6 : mFetch 265 6 = some (.istore_n 3, 1, 0, 0, 0, 0) := by decide +kernel
theorem f265_7 : mFetch 265 7 = some (.iload_n 3, 1, 0, 0, 0, 0) := by decide +kernel
theorem f265_8 : mFetch 265 8 = some (.ifCond .lt 10, 3, 18, 0, 0, 0) := by decide +kernel
theorem f265_11 : mFetch 265 11 = some (.bipush 65, 2, 0, 0, 0, 0) := by decide +kernel
theorem f265_13 : mFetch 265 13 = some (.iload_n 3, 1, 0, 0, 0, 0) := by decide +kernel
theorem f265_14 : mFetch 265 14 = some (.iadd, 1, 0, 0, 0, 0) := by decide +kernel
theorem f265_15 : mFetch 265 15 = some (.goto 19, 3, 34, 0, 0, 0) := by decide +kernel
theorem f265_18 : mFetch 265 18 = some (.aload_n 0, 1, 0, 0, 0, 0) := by decide +kernel
theorem f265_19 : mFetch 265 19 = some (.iload_n 1, 1, 0, 0, 0, 0) := by decide +kernel
theorem f265_20 : mFetch 265 20 = some (.iload_n 2, 1, 0, 0, 0, 0) := by decide +kernel
theorem f265_21 : mFetch 265 21 = some (.invokevirtual 340, 3, 224, 0, 3, 12) := by decide +kernel
theorem f265_24 : mFetch 265 24 = some (.ifCond .eq 8, 3, 32, 0, 0, 0) := by decide +kernel
theorem f265_27 : mFetch 265 27 = some (.bipush 107, 2, 0, 0, 0, 0) := by decide +kernel
theorem f265_29 : mFetch 265 29 = some (.goto 5, 3, 34, 0, 0, 0) := by decide +kernel
theorem f265_32 : mFetch 265 32 = some (.bipush 46, 2, 0, 0, 0, 0) := by decide +kernel
theorem f265_34 : mFetch 265 34 = some (.ireturn, 1, 0, 0, 0, 0) := by decide +kernel
theorem b265_0 {X : (Nat → Int) × Nat} {d : Nat} {s : mSt} {Q : mQ} {x1 : Int} {x2 : Int} (h_1 : Sp X d 222 [mR 407, mI x1, mI x2] s (fun r s' => ∃ v : Int, r = some (mI v) ∧ Wp X (d + 1) 265 6 [some (mR 407), some (mI x1), some (mI x2), none] [mI v] s' Q)) : Wp X (d + 1) 265 0 [some (mR 407), some (mI x1), some (mI x2), none] [] s Q := Wp_step k265 f265_0 (Wp_step k265 f265_1 (Wp_step k265 f265_2 (Wp_step k265 f265_3 ⟨⟨kf_407, Nat.le_of_ble_eq_true rfl⟩, Nat.le_refl _, _, rfl, Sp_E h_1⟩)))
theorem b265_6 {X : (Nat → Int) × Nat} {d : Nat} {s : mSt} {Q : mQ} {x1 : Int} {x2 : Int} {xt0 : Int} (h_1 : xt0 < 0 → Wp X d 265 18 [some (mR 407), some (mI x1), some (mI x2), some (mI xt0)] [] s Q) (h_2 : ¬ xt0 < 0 → Wp X d 265 11 [some (mR 407), some (mI x1), some (mI x2), some (mI xt0)] [] s Q) : Wp X d 265 6 [some (mR 407), some (mI x1), some (mI x2), none] [mI xt0] s Q := Wp_step k265 f265_6 (Wp_step k265 f265_7 (Wp_step k265 f265_8 ⟨h_1, h_2⟩))
theorem b265_11 {X : (Nat → Int) × Nat} {d : Nat} {s : mSt} {Q : mQ} {x1 : Int} {x2 : Int} {x3 : Int} (h_1 : Wp X d 265 34 [some (mR 407), some (mI x1), some (mI x2), some (mI x3)] [mI (w32 (65 + x3))] s Q) : Wp X d 265 11 [some (mR 407), some (mI x1), some (mI x2), some (mI x3)] [] s Q := Wp_step k265 f265_11 (Wp_step k265 f265_13 (Wp_step k265 f265_14 (Wp_step k265 f265_15 (h_1))))
theorem b265_18 {X : (Nat → Int) × Nat} {d : Nat} {s : mSt} {Q : mQ} {x1 : Int} {x2 : Int} {x3 : Int} (h_1 : Sp X d 224 [mR 407, mI x1, mI x2] s (fun r s' => ∃ v : Int, r = some (mI v) ∧ Wp X (d + 1) 265 24 [some (mR 407), some (mI x1), some (mI x2), some (mI x3)] [mI v] s' Q)) : Wp X (d + 1) 265 18 [some (mR 407), some (mI x1), some (mI x2), some (mI x3)] [] s Q := Wp_step k265 f265_18 (Wp_step k265 f265_19 (Wp_step k265 f265_20 (Wp_step k265 f265_21 ⟨⟨kf_407, Nat.le_of_ble_eq_true rfl⟩, Nat.le_refl _, _, rfl, Sp_E h_1⟩)))
theorem b265_24 {X : (Nat → Int) × Nat} {d : Nat} {s : mSt} {Q : mQ} {x1 : Int} {x2 : Int} {x3 : Int} {xt0 : Int} (h_1 : xt0 = 0 → Wp X d 265 32 [some (mR 407), some (mI x1), some (mI x2), some (mI x3)] [] s Q) (h_2 : ¬ xt0 = 0 → Wp X d 265 27 [some (mR 407), some (mI x1), some (mI x2), some (mI x3)] [] s Q) : Wp X d 265 24 [some (mR 407), some (mI x1), some (mI x2), some (mI x3)] [mI xt0] s Q := Wp_step k265 f265_24 ⟨h_1, h_2⟩
theorem b265_27 {X : (Nat → Int) × Nat} {d : Nat} {s : mSt} {Q : mQ} {x1 : Int} {x2 : Int} {x3 : Int} (h_1 : Wp X d 265 34 [some (mR 407), some (mI x1), some (mI x2), some (mI x3)] [mI 107] s Q) : Wp X d 265 27 [some (mR 407), some (mI x1), some (mI x2), some (mI x3)] [] s Q := Wp_step k265 f265_27 (Wp_step k265 f265_29 (h_1))
theorem b265_32 {X : (Nat → Int) × Nat} {d : Nat} {s : mSt} {Q : mQ} {x1 : Int} {x2 : Int} {x3 : Int} (h_1 : Wp X d 265 34 [some (mR 407), some (mI x1), some (mI x2), some (mI x3)] [mI 46] s Q) : Wp X d 265 32 [some (mR 407), some (mI x1), some (mI x2), some (mI x3)] [] s Q := Wp_step k265 f265_32 (h_1)
theorem b265_34 {X : (Nat → Int) × Nat} {d : Nat} {s : mSt} {Q : mQ} {x1 : Int} {x2 : Int} {x3 : Int} {xt0 : Int} (h_1 : Q (some (mI xt0)) s) : Wp X d 265 34 [some (mR 407), some (mI x1), some (mI x2), some (mI x3)] [mI xt0] s Q := Wp_step k265 f265_34 ⟨⟨rfl, trivial⟩, h_1⟩
theorem e265 {X : (Nat → Int) × Nat} {d : Nat} {s : mSt} {Q : mQ} {x1 : Int} {x2 : Int} (h : Wp X d 265 0 [some (mR 407), some (mI x1), some (mI x2), none] [] s Q) : Sp X d 265 [mR 407, mI x1, mI x2] s Q := Sp_of (show mCe 265 = 0 by decide +kernel) (by rw [show mML 265 = 4 by decide +kernel]; rfl) (Nat.le_trans (Nat.le_of_ble_eq_true (show Nat.ble (mArgs _).length 4 = true from rfl)) (show 4 ≤ mML 265 by decide +kernel)) h
-- 266 ClashDayModel.line(II)I
theorem k266 : mRk 266 = 1 := by decide +kernel
theorem f266_0 : mFetch 266 0 = some (.aload_n 0, 1, 0, 0, 0, 0) := by decide +kernel
theorem f266_1 : mFetch 266 1 = some (.iload_n 1, 1, 0, 0, 0, 0) := by decide +kernel
theorem f266_2 : mFetch 266 2 = some (.invokevirtual 334, 3, 216, 0, 2, 12) := by decide +kernel
theorem f266_5 : mFetch 266 5 = some (.ifCond .eq 24, 3, 29, 0, 0, 0) := by decide +kernel
theorem f266_8 : mFetch 266 8 = some (.iload_n 2, 1, 0, 0, 0, 0) := by decide +kernel
theorem f266_9 : mFetch 266 9 = some (.i2l, 1, 0, 0, 0, 0) := by decide +kernel
theorem f266_10 : mFetch 266 10 = some (.lconst 0, 1, 0, 0, 0, 0) := by decide +kernel
theorem f266_11 : mFetch 266 11 = some (.ldc2_w 357, 3, 29, 0, 0, 0) := by decide +kernel
theorem f266_14 : mFetch 266 14 = some (.invokestatic 151, 3, 167, 0, 3, 99) := by decide +kernel
theorem f266_17 : mFetch 266 17 = some (.ifCond .eq 12, 3, 29, 0, 0, 0) := by decide +kernel
theorem f266_20 : mFetch 266 20 = some (.aload_n 0, 1, 0, 0, 0, 0) := by decide +kernel
theorem f266_21 : mFetch 266 21 = some (.iload_n 1, 1, 0, 0, 0, 0) := by decide +kernel
theorem f266_22 : mFetch 266 22 = some (.iload_n 2, 1, 0, 0, 0, 0) := by decide +kernel
theorem f266_23 : mFetch 266 23 = some (.invokevirtual 468, 3, 265, 0, 3, 12) := by decide +kernel
theorem f266_26 : mFetch 266 26 = some (.goto 4, 3, 30, 0, 0, 0) := by decide +kernel
theorem f266_29 : mFetch 266 29 = some (.iconst (-1), 1, 0, 0, 0, 0) := by decide +kernel
theorem f266_30 : mFetch 266 30 = some (.ireturn, 1, 0, 0, 0, 0) := by decide +kernel
theorem b266_0 {X : (Nat → Int) × Nat} {d : Nat} {s : mSt} {Q : mQ} {x1 : Int} {x2 : Int} (h_1 : Sp X d 216 [mR 407, mI x1] s (fun r s' => ∃ v : Int, r = some (mI v) ∧ Wp X (d + 1) 266 5 [some (mR 407), some (mI x1), some (mI x2)] [mI v] s' Q)) : Wp X (d + 1) 266 0 [some (mR 407), some (mI x1), some (mI x2)] [] s Q := Wp_step k266 f266_0 (Wp_step k266 f266_1 (Wp_step k266 f266_2 ⟨⟨kf_407, Nat.le_of_ble_eq_true rfl⟩, Nat.le_refl _, _, rfl, Sp_E h_1⟩))
theorem b266_5 {X : (Nat → Int) × Nat} {d : Nat} {s : mSt} {Q : mQ} {x1 : Int} {x2 : Int} {xt0 : Int} (h_1 : xt0 = 0 → Wp X d 266 29 [some (mR 407), some (mI x1), some (mI x2)] [] s Q) (h_2 : ¬ xt0 = 0 → Wp X d 266 8 [some (mR 407), some (mI x1), some (mI x2)] [] s Q) : Wp X d 266 5 [some (mR 407), some (mI x1), some (mI x2)] [mI xt0] s Q := Wp_step k266 f266_5 ⟨h_1, h_2⟩
theorem b266_8 {X : (Nat → Int) × Nat} {d : Nat} {s : mSt} {Q : mQ} {x1 : Int} {x2 : Int} (h_1 : Sp X d 167 [mJ x2, mJ 0, mJ 29] s (fun r s' => ∃ v : Int, r = some (mI v) ∧ Wp X (d + 1) 266 17 [some (mR 407), some (mI x1), some (mI x2)] [mI v] s' Q)) : Wp X (d + 1) 266 8 [some (mR 407), some (mI x1), some (mI x2)] [] s Q := Wp_step k266 f266_8 (Wp_step k266 f266_9 (Wp_step k266 f266_10 (Wp_step k266 f266_11 (Wp_step k266 f266_14 ⟨⟨Nat.le_of_ble_eq_true rfl, Nat.le_refl _⟩, _, rfl, Sp_E h_1⟩))))
theorem b266_17 {X : (Nat → Int) × Nat} {d : Nat} {s : mSt} {Q : mQ} {x1 : Int} {x2 : Int} {xt0 : Int} (h_1 : xt0 = 0 → Wp X d 266 29 [some (mR 407), some (mI x1), some (mI x2)] [] s Q) (h_2 : ¬ xt0 = 0 → Wp X d 266 20 [some (mR 407), some (mI x1), some (mI x2)] [] s Q) : Wp X d 266 17 [some (mR 407), some (mI x1), some (mI x2)] [mI xt0] s Q := Wp_step k266 f266_17 ⟨h_1, h_2⟩
theorem b266_20 {X : (Nat → Int) × Nat} {d : Nat} {s : mSt} {Q : mQ} {x1 : Int} {x2 : Int} (h_1 : Sp X d 265 [mR 407, mI x1, mI x2] s (fun r s' => ∃ v : Int, r = some (mI v) ∧ Wp X (d + 1) 266 26 [some (mR 407), some (mI x1), some (mI x2)] [mI v] s' Q)) : Wp X (d + 1) 266 20 [some (mR 407), some (mI x1), some (mI x2)] [] s Q := Wp_step k266 f266_20 (Wp_step k266 f266_21 (Wp_step k266 f266_22 (Wp_step k266 f266_23 ⟨⟨kf_407, Nat.le_of_ble_eq_true rfl⟩, Nat.le_refl _, _, rfl, Sp_E h_1⟩)))
theorem b266_26 {X : (Nat → Int) × Nat} {d : Nat} {s : mSt} {Q : mQ} {x1 : Int} {x2 : Int} {xt0 : Int} (h_1 : Wp X d 266 30 [some (mR 407), some (mI x1), some (mI x2)] [mI xt0] s Q) : Wp X d 266 26 [some (mR 407), some (mI x1), some (mI x2)] [mI xt0] s Q := Wp_step k266 f266_26 (h_1)
theorem b266_29 {X : (Nat → Int) × Nat} {d : Nat} {s : mSt} {Q : mQ} {x1 : Int} {x2 : Int} (h_1 : Wp X d 266 30 [some (mR 407), some (mI x1), some (mI x2)] [mI (-1)] s Q) : Wp X d 266 29 [some (mR 407), some (mI x1), some (mI x2)] [] s Q := Wp_step k266 f266_29 (h_1)
theorem b266_30 {X : (Nat → Int) × Nat} {d : Nat} {s : mSt} {Q : mQ} {x1 : Int} {x2 : Int} {xt0 : Int} (h_1 : Q (some (mI xt0)) s) : Wp X d 266 30 [some (mR 407), some (mI x1), some (mI x2)] [mI xt0] s Q := Wp_step k266 f266_30 ⟨⟨rfl, trivial⟩, h_1⟩
theorem e266 {X : (Nat → Int) × Nat} {d : Nat} {s : mSt} {Q : mQ} {x1 : Int} {x2 : Int} (h : Wp X d 266 0 [some (mR 407), some (mI x1), some (mI x2)] [] s Q) : Sp X d 266 [mR 407, mI x1, mI x2] s Q := Sp_of (show mCe 266 = 0 by decide +kernel) (by rw [show mML 266 = 3 by decide +kernel]; rfl) (Nat.le_trans (Nat.le_of_ble_eq_true (show Nat.ble (mArgs _).length 3 = true from rfl)) (show 3 ≤ mML 266 by decide +kernel)) h
-- 267 ClashDayModel.putsSign(II)V
theorem k267 : mRk 267 = 0 := by decide +kernel
theorem f267_0 : mFetch 267 0 = some (.aload_n 0, 1, 0, 0, 0, 0) := by decide +kernel
theorem f267_1 : mFetch 267 1 = some (.getfield 64, 3, 12, 38, 2, 1) := by decide +kernel
theorem f267_4 : mFetch 267 4 = some (.bipush 60, 2, 0, 0, 0, 0) := by decide +kernel
theorem f267_6 : mFetch 267 6 = some (.iload_n 1, 1, 0, 0, 0, 0) := by decide +kernel
theorem f267_7 : mFetch 267 7 = some (.imul, 1, 0, 0, 0, 0) := by decide +kernel
theorem f267_8 : mFetch 267 8 = some (.aload_n 0, 1, 0, 0, 0, 0) := by decide +kernel
theorem f267_9 : mFetch 267 9 = some (.getfield 67, 3, 12, 39, 2, 1) := by decide +kernel
theorem f267_12 : mFetch 267 12 = some (.iload_n 1, 1, 0, 0, 0, 0) := by decide +kernel
theorem f267_13 : mFetch 267 13 = some (.iaload, 1, 0, 0, 0, 0) := by decide +kernel
theorem f267_14 : mFetch 267 14 = some (.iadd, 1, 0, 0, 0, 0) := by decide +kernel
theorem f267_15 : mFetch 267 15 = some (.iload_n 2, 1, 0, 0, 0, 0) := by decide +kernel
theorem f267_16 : mFetch 267 16 = some (.iastore, 1, 0, 0, 0, 0) := by decide +kernel
theorem f267_17 : mFetch 267 17 = some (.aload_n 0, 1, 0, 0, 0, 0) := by decide +kernel
theorem f267_18 : mFetch 267 18 = some (.getfield 67, 3, 12, 39, 2, 1) := by decide +kernel
theorem f267_21 : mFetch 267 21 = some (.iload_n 1, 1, 0, 0, 0, 0) := by decide +kernel
theorem f267_22 : mFetch 267 22 = some (.dup2, 1, 0, 0, 0, 0) := by decide +kernel
theorem f267_23 : mFetch 267 23 = some (.iaload, 1, 0, 0, 0, 0) := by decide +kernel
theorem f267_24 : mFetch 267 24 = some (.iconst 1, 1, 0, 0, 0, 0) := by decide +kernel
theorem f267_25 : mFetch 267 25 = some (.iadd, 1, 0, 0, 0, 0) := by decide +kernel
theorem f267_26 : mFetch 267 26 = some (.iastore, 1, 0, 0, 0, 0) := by decide +kernel
theorem f267_27 : mFetch 267 27 = some (.return_, 1, 0, 0, 0, 0) := by decide +kernel
theorem b267_0 {X : (Nat → Int) × Nat} {d : Nat} {s : mSt} {Q : mQ} {x1 : Int} {x2 : Int} (h_1 : 0 ≤ x1 ∧ x1 < 2) (h_2 : 0 ≤ (w32 ((w32 (60 * x1)) + (s 425 x1.toNat))) ∧ (w32 ((w32 (60 * x1)) + (s 425 x1.toNat))) < 120) (h_3 : 0 ≤ x1 ∧ x1 < 2) (h_4 : 0 ≤ x1 ∧ x1 < 2) (h_5 : Q none (uS (uS s 424 ((w32 ((w32 (60 * x1)) + (s 425 x1.toNat))).toNat) x2) 425 x1.toNat (w32 (((uS s 424 ((w32 ((w32 (60 * x1)) + (s 425 x1.toNat))).toNat) x2) 425 x1.toNat) + 1)))) : Wp X d 267 0 [some (mR 407), some (mI x1), some (mI x2)] [] s Q := Wp_step k267 f267_0 (Wp_step k267 f267_1 ⟨kf_407, 424, rf_407_38, Wp_step k267 f267_4 (Wp_step k267 f267_6 (Wp_step k267 f267_7 (Wp_step k267 f267_8 (Wp_step k267 f267_9 ⟨kf_407, 425, rf_407_39, Wp_step k267 f267_12 (Wp_step k267 f267_13 ⟨2, af_425, h_1, Wp_step k267 f267_14 (Wp_step k267 f267_15 (Wp_step k267 f267_16 ⟨120, af_424, h_2, Wp_step k267 f267_17 (Wp_step k267 f267_18 ⟨kf_407, 425, rf_407_39, Wp_step k267 f267_21 (Wp_step k267 f267_22 (Wp_step k267 f267_23 ⟨2, af_425, h_3, Wp_step k267 f267_24 (Wp_step k267 f267_25 (Wp_step k267 f267_26 ⟨2, af_425, h_4, Wp_step k267 f267_27 ⟨⟨rfl, Or.inl rfl⟩, h_5⟩⟩))⟩))⟩)⟩))⟩)⟩))))⟩)
theorem e267 {X : (Nat → Int) × Nat} {d : Nat} {s : mSt} {Q : mQ} {x1 : Int} {x2 : Int} (h : Wp X d 267 0 [some (mR 407), some (mI x1), some (mI x2)] [] s Q) : Sp X d 267 [mR 407, mI x1, mI x2] s Q := Sp_of (show mCe 267 = 0 by decide +kernel) (by rw [show mML 267 = 3 by decide +kernel]; rfl) (Nat.le_trans (Nat.le_of_ble_eq_true (show Nat.ble (mArgs _).length 3 = true from rfl)) (show 3 ≤ mML 267 by decide +kernel)) h
-- 268 ClashDayModel.spells(II)V
theorem k268 : mRk 268 = 0 := by decide +kernel
theorem f268_0 : mFetch 268 0 = some (.aload_n 0, 1, 0, 0, 0, 0) := by decide +kernel
theorem f268_1 : mFetch 268 1 = some (.getfield 67, 3, 12, 39, 2, 1) := by decide +kernel
theorem f268_4 : mFetch 268 4 = some (.iload_n 1, 1, 0, 0, 0, 0) := by decide +kernel
theorem f268_5 : mFetch 268 5 = some (.iconst 0, 1, 0, 0, 0, 0) := by decide +kernel
theorem f268_6 : mFetch 268 6 = some (.iastore, 1, 0, 0, 0, 0) := by decide +kernel
theorem f268_7 : mFetch 268 7 = some (.iconst 0, 1, 0, 0, 0, 0) := by decide +kernel
theorem f268_8 : mFetch 268 8 = some (.istore_n 3, 1, 0, 0, 0, 0) := by decide +kernel
theorem f268_9 : mFetch 268 9 = some (.iload_n 3, 1, 0, 0, 0, 0) := by decide +kernel
theorem f268_10 : mFetch 268 10 = some (.bipush 30, 2, 0, 0, 0, 0) := by decide +kernel
theorem f268_12 : mFetch 268 12 = some (.if_icmp .ge 99, 3, 111, 0, 0, 0) := by decide +kernel
theorem f268_15 : mFetch 268 15 = some (.iload_n 3, 1, 0, 0, 0, 0) := by decide +kernel
theorem f268_16 : mFetch 268 16 = some (.istore 4, 2, 0, 0, 0, 0) := by decide +kernel
theorem f268_18 : mFetch 268 18 = some (.iload 4, 2, 0, 0, 0, 0) := by decide +kernel
theorem f268_20 : mFetch 268 20 = some (.bipush 30, 2, 0, 0, 0, 0) := by decide +kernel
theorem f268_22 : mFetch 268 22 = some (.if_icmp .ge 25, 3, 47, 0, 0, 0) := by decide +kernel
theorem f268_25 : mFetch 268 25 = some (.aload_n 0, 1, 0, 0, 0, 0) := by decide +kernel
theorem f268_26 : mFetch 268 26 = some (.iload_n 2, 1, 0, 0, 0, 0) := by decide +kernel
theorem f268_27 : mFetch 268 27 = some (.iload 4, 2, 0, 0, 0, 0) := by decide +kernel
theorem f268_29 : mFetch 268 29 = some (.invokevirtual 468, 3, 265, 0, 3, 12) := by decide +kernel
theorem f268_32 : mFetch 268 32 = some (.aload_n 0, 1, 0, 0, 0, 0) := by decide +kernel
theorem f268_33 : mFetch 268 33 = some (.iload_n 2, 1, 0, 0, 0, 0) := by decide +kernel
theorem f268_34 : mFetch 268 34 = some (.iload_n 3, 1, 0, 0, 0, 0) := by decide +kernel
theorem f268_35 : mFetch 268 35 = some (.invokevirtual 468, 3, 265, 0, 3, 12) := by decide +kernel
theorem f268_38 : mFetch 268 38 = some (.if_icmp .ne 9, 3, 47, 0, 0, 0) := by decide +kernel
theorem f268_41 : mFetch 268 41 = some (.iinc 4 1, 3, 0, 0, 0, 0) := by decide +kernel
theorem f268_44 : mFetch 268 44 = some (.goto (-26), 3, 18, 0, 0, 0) := by decide +kernel
theorem f268_47 : mFetch 268 47 = some (.iload 4, 2, 0, 0, 0, 0) := by decide +kernel
theorem f268_49 : mFetch 268 49 = some (.iload_n 3, 1, 0, 0, 0, 0) := by decide +kernel
theorem f268_50 : mFetch 268 50 = some (.isub, 1, 0, 0, 0, 0) := by decide +kernel
theorem f268_51 : mFetch 268 51 = some (.bipush 9, 2, 0, 0, 0, 0) := by decide +kernel
theorem f268_53 : mFetch 268 53 = some (.if_icmp .le 18, 3, 71, 0, 0, 0) := by decide +kernel
theorem f268_56 : mFetch 268 56 = some (.aload_n 0, 1, 0, 0, 0, 0) := by decide +kernel
theorem f268_57 : mFetch 268 57 = some (.iload_n 1, 1, 0, 0, 0, 0) := by decide +kernel
theorem f268_58 : mFetch 268 58 = some (.bipush 48, 2, 0, 0, 0, 0) := by decide +kernel
theorem f268_60 : mFetch 268 60 = some (.iload 4, 2, 0, 0, 0, 0) := by decide +kernel
theorem f268_62 : mFetch 268 62 = some (.iload_n 3, 1, 0, 0, 0, 0) := by decide +kernel
theorem f268_63 : mFetch 268 63 = some (.isub, 1, 0, 0, 0, 0) := by decide +kernel
theorem f268_64 : mFetch 268 64 = some (.bipush 10, 2, 0, 0, 0, 0) := by decide +kernel
theorem f268_66 : mFetch 268 66 = some (.idiv, 1, 0, 0, 0, 0) := by decide +kernel
theorem f268_67 : mFetch 268 67 = some (.iadd, 1, 0, 0, 0, 0) := by decide +kernel
theorem f268_68 : mFetch 268 68 = some (.invokevirtual 471, 3, 267, 0, 3, 12) := by decide +kernel
theorem f268_71 : mFetch 268 71 = some (.iload 4, 2, 0, 0, 0, 0) := by decide +kernel
theorem f268_73 : mFetch 268 73 = some (.iload_n 3, 1, 0, 0, 0, 0) := by decide +kernel
theorem f268_74 : mFetch 268 74 = some (.isub, 1, 0, 0, 0, 0) := by decide +kernel
theorem f268_75 : mFetch 268 75 = some (.iconst 1, 1, 0, 0, 0, 0) := by decide +kernel
theorem f268_76 : mFetch 268 76 = some (.if_icmp .le 18, 3, 94, 0, 0, 0) := by decide +kernel
theorem f268_79 : mFetch 268 79 = some (.aload_n 0, 1, 0, 0, 0, 0) := by decide +kernel
theorem f268_80 : mFetch 268 80 = some (.iload_n 1, 1, 0, 0, 0, 0) := by decide +kernel
theorem f268_81 : mFetch 268 81 = some (.bipush 48, 2, 0, 0, 0, 0) := by decide +kernel
theorem f268_83 : mFetch 268 83 = some (.iload 4, 2, 0, 0, 0, 0) := by decide +kernel
theorem f268_85 : mFetch 268 85 = some (.iload_n 3, 1, 0, 0, 0, 0) := by decide +kernel
theorem f268_86 : mFetch 268 86 = some (.isub, 1, 0, 0, 0, 0) := by decide +kernel
theorem f268_87 : mFetch 268 87 = some (.bipush 10, 2, 0, 0, 0, 0) := by decide +kernel
theorem f268_89 : mFetch 268 89 = some (.irem, 1, 0, 0, 0, 0) := by decide +kernel
theorem f268_90 : mFetch 268 90 = some (.iadd, 1, 0, 0, 0, 0) := by decide +kernel
theorem f268_91 : mFetch 268 91 = some (.invokevirtual 471, 3, 267, 0, 3, 12) := by decide +kernel
theorem f268_94 : mFetch 268 94 = some (.aload_n 0, 1, 0, 0, 0, 0) := by decide +kernel
theorem f268_95 : mFetch 268 95 = some (.iload_n 1, 1, 0, 0, 0, 0) := by decide +kernel
theorem f268_96 : mFetch 268 96 = some (.aload_n 0, 1, 0, 0, 0, 0) := by decide +kernel
theorem f268_97 : mFetch 268 97 = some (.iload_n 2, 1, 0, 0, 0, 0) := by decide +kernel
theorem f268_98 : mFetch 268 98 = some (.iload_n 3, 1, 0, 0, 0, 0) := by decide +kernel
theorem f268_99 : mFetch 268 99 = some (.invokevirtual 468, 3, 265, 0, 3, 12) := by decide +kernel
theorem f268_102 : mFetch 268 102 = some (.invokevirtual 471, 3, 267, 0, 3, 12) := by decide +kernel
theorem f268_105 : mFetch 268 105 = some (.iload 4, 2, 0, 0, 0, 0) := by decide +kernel
theorem f268_107 : mFetch 268 107 = some (.istore_n 3, 1, 0, 0, 0, 0) := by decide +kernel
theorem f268_108 : mFetch 268 108 = some (.goto (-99), 3, 9, 0, 0, 0) := by decide +kernel
theorem f268_111 : mFetch 268 111 = some (.return_, 1, 0, 0, 0, 0) := by decide +kernel
theorem b268_0 {X : (Nat → Int) × Nat} {d : Nat} {s : mSt} {Q : mQ} {x1 : Int} {x2 : Int} (h_1 : 0 ≤ x1 ∧ x1 < 2) (h_2 : Wp X d 268 9 [some (mR 407), some (mI x1), some (mI x2), some (mI 0), none] [] (uS s 425 x1.toNat 0) Q) : Wp X d 268 0 [some (mR 407), some (mI x1), some (mI x2), none, none] [] s Q := Wp_step k268 f268_0 (Wp_step k268 f268_1 ⟨kf_407, 425, rf_407_39, Wp_step k268 f268_4 (Wp_step k268 f268_5 (Wp_step k268 f268_6 ⟨2, af_425, h_1, Wp_step k268 f268_7 (Wp_step k268 f268_8 (h_2))⟩))⟩)
theorem b268_9 {X : (Nat → Int) × Nat} {d : Nat} {s : mSt} {Q : mQ} {x1 : Int} {x2 : Int} {x3 : Int} (h_1 : 30 ≤ x3 → Wp X d 268 111 [some (mR 407), some (mI x1), some (mI x2), some (mI x3), none] [] s Q) (h_2 : ¬ 30 ≤ x3 → Wp X d 268 15 [some (mR 407), some (mI x1), some (mI x2), some (mI x3), none] [] s Q) : Wp X d 268 9 [some (mR 407), some (mI x1), some (mI x2), some (mI x3), none] [] s Q := Wp_step k268 f268_9 (Wp_step k268 f268_10 (Wp_step k268 f268_12 ⟨h_1, h_2⟩))
theorem b268_15 {X : (Nat → Int) × Nat} {d : Nat} {s : mSt} {Q : mQ} {x1 : Int} {x2 : Int} {x3 : Int} (h_1 : Wp X d 268 18 [some (mR 407), some (mI x1), some (mI x2), some (mI x3), some (mI x3)] [] s Q) : Wp X d 268 15 [some (mR 407), some (mI x1), some (mI x2), some (mI x3), none] [] s Q := Wp_step k268 f268_15 (Wp_step k268 f268_16 (h_1))
theorem b268_18 {X : (Nat → Int) × Nat} {d : Nat} {s : mSt} {Q : mQ} {x1 : Int} {x2 : Int} {x3 : Int} {x4 : Int} (h_1 : 30 ≤ x4 → Wp X d 268 47 [some (mR 407), some (mI x1), some (mI x2), some (mI x3), some (mI x4)] [] s Q) (h_2 : ¬ 30 ≤ x4 → Wp X d 268 25 [some (mR 407), some (mI x1), some (mI x2), some (mI x3), some (mI x4)] [] s Q) : Wp X d 268 18 [some (mR 407), some (mI x1), some (mI x2), some (mI x3), some (mI x4)] [] s Q := Wp_step k268 f268_18 (Wp_step k268 f268_20 (Wp_step k268 f268_22 ⟨h_1, h_2⟩))
theorem b268_25 {X : (Nat → Int) × Nat} {d : Nat} {s : mSt} {Q : mQ} {x1 : Int} {x2 : Int} {x3 : Int} {x4 : Int} (h_1 : Sp X d 265 [mR 407, mI x2, mI x4] s (fun r s' => ∃ v : Int, r = some (mI v) ∧ Wp X (d + 1) 268 32 [some (mR 407), some (mI x1), some (mI x2), some (mI x3), some (mI x4)] [mI v] s' Q)) : Wp X (d + 1) 268 25 [some (mR 407), some (mI x1), some (mI x2), some (mI x3), some (mI x4)] [] s Q := Wp_step k268 f268_25 (Wp_step k268 f268_26 (Wp_step k268 f268_27 (Wp_step k268 f268_29 ⟨⟨kf_407, Nat.le_of_ble_eq_true rfl⟩, Nat.le_refl _, _, rfl, Sp_E h_1⟩)))
theorem b268_32 {X : (Nat → Int) × Nat} {d : Nat} {s : mSt} {Q : mQ} {x1 : Int} {x2 : Int} {x3 : Int} {x4 : Int} {xt0 : Int} (h_1 : Sp X d 265 [mR 407, mI x2, mI x3] s (fun r s' => ∃ v : Int, r = some (mI v) ∧ Wp X (d + 1) 268 38 [some (mR 407), some (mI x1), some (mI x2), some (mI x3), some (mI x4)] [mI v, mI xt0] s' Q)) : Wp X (d + 1) 268 32 [some (mR 407), some (mI x1), some (mI x2), some (mI x3), some (mI x4)] [mI xt0] s Q := Wp_step k268 f268_32 (Wp_step k268 f268_33 (Wp_step k268 f268_34 (Wp_step k268 f268_35 ⟨⟨kf_407, Nat.le_of_ble_eq_true rfl⟩, Nat.le_refl _, _, rfl, Sp_E h_1⟩)))
theorem b268_38 {X : (Nat → Int) × Nat} {d : Nat} {s : mSt} {Q : mQ} {x1 : Int} {x2 : Int} {x3 : Int} {x4 : Int} {xt0 : Int} {xt1 : Int} (h_1 : ¬ xt0 = xt1 → Wp X d 268 47 [some (mR 407), some (mI x1), some (mI x2), some (mI x3), some (mI x4)] [] s Q) (h_2 : xt0 = xt1 → Wp X d 268 41 [some (mR 407), some (mI x1), some (mI x2), some (mI x3), some (mI x4)] [] s Q) : Wp X d 268 38 [some (mR 407), some (mI x1), some (mI x2), some (mI x3), some (mI x4)] [mI xt1, mI xt0] s Q := Wp_step k268 f268_38 ⟨h_1, h_2⟩
theorem b268_41 {X : (Nat → Int) × Nat} {d : Nat} {s : mSt} {Q : mQ} {x1 : Int} {x2 : Int} {x3 : Int} {x4 : Int} (h_1 : Wp X d 268 18 [some (mR 407), some (mI x1), some (mI x2), some (mI x3), some (mI (w32 (x4 + 1)))] [] s Q) : Wp X d 268 41 [some (mR 407), some (mI x1), some (mI x2), some (mI x3), some (mI x4)] [] s Q := Wp_step k268 f268_41 (Wp_step k268 f268_44 (h_1))
theorem b268_47 {X : (Nat → Int) × Nat} {d : Nat} {s : mSt} {Q : mQ} {x1 : Int} {x2 : Int} {x3 : Int} {x4 : Int} (h_1 : (w32 (x4 - x3)) ≤ 9 → Wp X d 268 71 [some (mR 407), some (mI x1), some (mI x2), some (mI x3), some (mI x4)] [] s Q) (h_2 : ¬ (w32 (x4 - x3)) ≤ 9 → Wp X d 268 56 [some (mR 407), some (mI x1), some (mI x2), some (mI x3), some (mI x4)] [] s Q) : Wp X d 268 47 [some (mR 407), some (mI x1), some (mI x2), some (mI x3), some (mI x4)] [] s Q := Wp_step k268 f268_47 (Wp_step k268 f268_49 (Wp_step k268 f268_50 (Wp_step k268 f268_51 (Wp_step k268 f268_53 ⟨h_1, h_2⟩))))
theorem b268_56 {X : (Nat → Int) × Nat} {d : Nat} {s : mSt} {Q : mQ} {x1 : Int} {x2 : Int} {x3 : Int} {x4 : Int} (h_1 : Sp X d 267 [mR 407, mI x1, mI (w32 (48 + (w32 (Int.tdiv (w32 (x4 - x3)) 10))))] s (fun r s' => r = none ∧ Wp X (d + 1) 268 71 [some (mR 407), some (mI x1), some (mI x2), some (mI x3), some (mI x4)] [] s' Q)) : Wp X (d + 1) 268 56 [some (mR 407), some (mI x1), some (mI x2), some (mI x3), some (mI x4)] [] s Q := Wp_step k268 f268_56 (Wp_step k268 f268_57 (Wp_step k268 f268_58 (Wp_step k268 f268_60 (Wp_step k268 f268_62 (Wp_step k268 f268_63 (Wp_step k268 f268_64 (Wp_step k268 f268_66 ⟨(by decide), Wp_step k268 f268_67 (Wp_step k268 f268_68 ⟨⟨kf_407, Nat.le_of_ble_eq_true rfl⟩, Nat.le_refl _, _, rfl, Sp_V h_1⟩)⟩)))))))
theorem b268_71 {X : (Nat → Int) × Nat} {d : Nat} {s : mSt} {Q : mQ} {x1 : Int} {x2 : Int} {x3 : Int} {x4 : Int} (h_1 : (w32 (x4 - x3)) ≤ 1 → Wp X d 268 94 [some (mR 407), some (mI x1), some (mI x2), some (mI x3), some (mI x4)] [] s Q) (h_2 : ¬ (w32 (x4 - x3)) ≤ 1 → Wp X d 268 79 [some (mR 407), some (mI x1), some (mI x2), some (mI x3), some (mI x4)] [] s Q) : Wp X d 268 71 [some (mR 407), some (mI x1), some (mI x2), some (mI x3), some (mI x4)] [] s Q := Wp_step k268 f268_71 (Wp_step k268 f268_73 (Wp_step k268 f268_74 (Wp_step k268 f268_75 (Wp_step k268 f268_76 ⟨h_1, h_2⟩))))
theorem b268_79 {X : (Nat → Int) × Nat} {d : Nat} {s : mSt} {Q : mQ} {x1 : Int} {x2 : Int} {x3 : Int} {x4 : Int} (h_1 : Sp X d 267 [mR 407, mI x1, mI (w32 (48 + (Int.tmod (w32 (x4 - x3)) 10)))] s (fun r s' => r = none ∧ Wp X (d + 1) 268 94 [some (mR 407), some (mI x1), some (mI x2), some (mI x3), some (mI x4)] [] s' Q)) : Wp X (d + 1) 268 79 [some (mR 407), some (mI x1), some (mI x2), some (mI x3), some (mI x4)] [] s Q := Wp_step k268 f268_79 (Wp_step k268 f268_80 (Wp_step k268 f268_81 (Wp_step k268 f268_83 (Wp_step k268 f268_85 (Wp_step k268 f268_86 (Wp_step k268 f268_87 (Wp_step k268 f268_89 ⟨(by decide), Wp_step k268 f268_90 (Wp_step k268 f268_91 ⟨⟨kf_407, Nat.le_of_ble_eq_true rfl⟩, Nat.le_refl _, _, rfl, Sp_V h_1⟩)⟩)))))))
theorem b268_94 {X : (Nat → Int) × Nat} {d : Nat} {s : mSt} {Q : mQ} {x1 : Int} {x2 : Int} {x3 : Int} {x4 : Int} (h_1 : Sp X d 265 [mR 407, mI x2, mI x3] s (fun r s' => ∃ v : Int, r = some (mI v) ∧ Wp X (d + 1) 268 102 [some (mR 407), some (mI x1), some (mI x2), some (mI x3), some (mI x4)] [mI v, mI x1, mR 407] s' Q)) : Wp X (d + 1) 268 94 [some (mR 407), some (mI x1), some (mI x2), some (mI x3), some (mI x4)] [] s Q := Wp_step k268 f268_94 (Wp_step k268 f268_95 (Wp_step k268 f268_96 (Wp_step k268 f268_97 (Wp_step k268 f268_98 (Wp_step k268 f268_99 ⟨⟨kf_407, Nat.le_of_ble_eq_true rfl⟩, Nat.le_refl _, _, rfl, Sp_E h_1⟩)))))
theorem b268_102 {X : (Nat → Int) × Nat} {d : Nat} {s : mSt} {Q : mQ} {x1 : Int} {x2 : Int} {x3 : Int} {x4 : Int} {xt1 : Int} {xt2 : Int} (h_1 : Sp X d 267 [mR 407, mI xt1, mI xt2] s (fun r s' => r = none ∧ Wp X (d + 1) 268 105 [some (mR 407), some (mI x1), some (mI x2), some (mI x3), some (mI x4)] [] s' Q)) : Wp X (d + 1) 268 102 [some (mR 407), some (mI x1), some (mI x2), some (mI x3), some (mI x4)] [mI xt2, mI xt1, mR 407] s Q := Wp_step k268 f268_102 ⟨⟨kf_407, Nat.le_of_ble_eq_true rfl⟩, Nat.le_refl _, _, rfl, Sp_V h_1⟩
theorem b268_105 {X : (Nat → Int) × Nat} {d : Nat} {s : mSt} {Q : mQ} {x1 : Int} {x2 : Int} {x3 : Int} {x4 : Int} (h_1 : Wp X d 268 9 [some (mR 407), some (mI x1), some (mI x2), some (mI x4), some (mI x4)] [] s Q) : Wp X d 268 105 [some (mR 407), some (mI x1), some (mI x2), some (mI x3), some (mI x4)] [] s Q := Wp_step k268 f268_105 (Wp_step k268 f268_107 (Wp_step k268 f268_108 (h_1)))
theorem b268_111 {X : (Nat → Int) × Nat} {d : Nat} {s : mSt} {Q : mQ} {x1 : Int} {x2 : Int} {x3 : Int} (h_1 : Q none s) : Wp X d 268 111 [some (mR 407), some (mI x1), some (mI x2), some (mI x3), none] [] s Q := Wp_step k268 f268_111 ⟨⟨rfl, Or.inl rfl⟩, h_1⟩
theorem e268 {X : (Nat → Int) × Nat} {d : Nat} {s : mSt} {Q : mQ} {x1 : Int} {x2 : Int} (h : Wp X d 268 0 [some (mR 407), some (mI x1), some (mI x2), none, none] [] s Q) : Sp X d 268 [mR 407, mI x1, mI x2] s Q := Sp_of (show mCe 268 = 0 by decide +kernel) (by rw [show mML 268 = 5 by decide +kernel]; rfl) (Nat.le_trans (Nat.le_of_ble_eq_true (show Nat.ble (mArgs _).length 5 = true from rfl)) (show 5 ≤ mML 268 by decide +kernel)) h
-- 269 ClashDayModel.spelt(II)I
theorem k269 : mRk 269 = 1 := by decide +kernel
theorem f269_0 : mFetch 269 0 = some (.aload_n 0, 1, 0, 0, 0, 0) := by decide +kernel
theorem f269_1 : mFetch 269 1 = some (.iload_n 1, 1, 0, 0, 0, 0) := by decide +kernel
theorem f269_2 : mFetch 269 2 = some (.invokevirtual 334, 3, 216, 0, 2, 12) := by decide +kernel
theorem f269_5 : mFetch 269 5 = some (.ifCond .eq 8, 3, 13, 0, 0, 0) := by decide +kernel
theorem f269_8 : mFetch 269 8 = some (.iload_n 2, 1, 0, 0, 0, 0) := by decide +kernel
theorem f269_9 : mFetch 269 9 = some (.iconst (-1), 1, 0, 0, 0, 0) := by decide +kernel
theorem f269_10 : mFetch 269 10 = some (.if_icmp .ge 5, 3, 15, 0, 0, 0) := by decide +kernel
theorem f269_13 : mFetch 269 13 = some (.iconst (-1), 1, 0, 0, 0, 0) := by decide +kernel
theorem f269_14 : mFetch 269 14 = some (.ireturn, 1, 0, 0, 0, 0) := by decide +kernel
theorem f269_15 : mFetch 269 15 = some (.aload_n 0, 1, 0, 0, 0, 0) := by decide +kernel
theorem f269_16 : mFetch 269 16 = some (.iconst 0, 1, 0, 0, 0, 0) := by decide +kernel
theorem f269_17 : mFetch 269 17 = some (.iload_n 1, 1, 0, 0, 0, 0) := by decide +kernel
theorem f269_18 : mFetch 269 18 = some (.invokevirtual 474, 3, 268, 0, 3, 12) := by decide +kernel
theorem f269_21 : mFetch 269 21 = some (.iload_n 2, 1, 0, 0, 0, 0) := by decide +kernel
theorem f269_22 : mFetch 269 22 = some (.iconst (-1), 1, 0, 0, 0, 0) := by decide +kernel
theorem f269_23 : mFetch 269 23 = some (.if_icmp .ne 12, 3, 35, 0, 0, 0) := by decide +kernel
theorem f269_26 : mFetch 269 26 = some (.aload_n 0, 1, 0, 0, 0, 0) := by decide +kernel
theorem f269_27 : mFetch 269 27 = some (.getfield 67, 3, 12, 39, 2, 1) := by decide +kernel
theorem f269_30 : mFetch 269 30 = some (.iconst 0, 1, 0, 0, 0, 0) := by decide +kernel
theorem f269_31 : mFetch 269 31 = some (.iaload, 1, 0, 0, 0, 0) := by decide +kernel
theorem f269_32 : mFetch 269 32 = some (.goto 24, 3, 56, 0, 0, 0) := by decide +kernel
theorem f269_35 : mFetch 269 35 = some (.iload_n 2, 1, 0, 0, 0, 0) := by decide +kernel
theorem f269_36 : mFetch 269 36 = some (.aload_n 0, 1, 0, 0, 0, 0) := by decide +kernel
theorem f269_37 : mFetch 269 37 = some (.getfield 67, 3, 12, 39, 2, 1) := by decide +kernel
theorem f269_40 : mFetch 269 40 = some (.iconst 0, 1, 0, 0, 0, 0) := by decide +kernel
theorem f269_41 : mFetch 269 41 = some (.iaload, 1, 0, 0, 0, 0) := by decide +kernel
theorem f269_42 : mFetch 269 42 = some (.if_icmp .ge 12, 3, 54, 0, 0, 0) := by decide +kernel
theorem f269_45 : mFetch 269 45 = some (.aload_n 0, 1, 0, 0, 0, 0) := by decide +kernel
theorem f269_46 : mFetch 269 46 = some (.getfield 64, 3, 12, 38, 2, 1) := by decide +kernel
theorem f269_49 : mFetch 269 49 = some (.iload_n 2, 1, 0, 0, 0, 0) := by decide +kernel
theorem f269_50 : mFetch 269 50 = some (.iaload, 1, 0, 0, 0, 0) := by decide +kernel
theorem f269_51 : mFetch 269 51 = some (.goto 5, 3, 56, 0, 0, 0) := by decide +kernel
theorem f269_54 : mFetch 269 54 = some (.bipush (-2), 2, 0, 0, 0, 0) := by decide +kernel
theorem f269_56 : mFetch 269 56 = some (.ireturn, 1, 0, 0, 0, 0) := by decide +kernel
theorem b269_0 {X : (Nat → Int) × Nat} {d : Nat} {s : mSt} {Q : mQ} {x1 : Int} {x2 : Int} (h_1 : Sp X d 216 [mR 407, mI x1] s (fun r s' => ∃ v : Int, r = some (mI v) ∧ Wp X (d + 1) 269 5 [some (mR 407), some (mI x1), some (mI x2)] [mI v] s' Q)) : Wp X (d + 1) 269 0 [some (mR 407), some (mI x1), some (mI x2)] [] s Q := Wp_step k269 f269_0 (Wp_step k269 f269_1 (Wp_step k269 f269_2 ⟨⟨kf_407, Nat.le_of_ble_eq_true rfl⟩, Nat.le_refl _, _, rfl, Sp_E h_1⟩))
theorem b269_5 {X : (Nat → Int) × Nat} {d : Nat} {s : mSt} {Q : mQ} {x1 : Int} {x2 : Int} {xt0 : Int} (h_1 : xt0 = 0 → Wp X d 269 13 [some (mR 407), some (mI x1), some (mI x2)] [] s Q) (h_2 : ¬ xt0 = 0 → Wp X d 269 8 [some (mR 407), some (mI x1), some (mI x2)] [] s Q) : Wp X d 269 5 [some (mR 407), some (mI x1), some (mI x2)] [mI xt0] s Q := Wp_step k269 f269_5 ⟨h_1, h_2⟩
theorem b269_8 {X : (Nat → Int) × Nat} {d : Nat} {s : mSt} {Q : mQ} {x1 : Int} {x2 : Int} (h_1 : (-1) ≤ x2 → Wp X d 269 15 [some (mR 407), some (mI x1), some (mI x2)] [] s Q) (h_2 : ¬ (-1) ≤ x2 → Wp X d 269 13 [some (mR 407), some (mI x1), some (mI x2)] [] s Q) : Wp X d 269 8 [some (mR 407), some (mI x1), some (mI x2)] [] s Q := Wp_step k269 f269_8 (Wp_step k269 f269_9 (Wp_step k269 f269_10 ⟨h_1, h_2⟩))
theorem b269_13 {X : (Nat → Int) × Nat} {d : Nat} {s : mSt} {Q : mQ} {x1 : Int} {x2 : Int} (h_1 : Q (some (mI (-1))) s) : Wp X d 269 13 [some (mR 407), some (mI x1), some (mI x2)] [] s Q := Wp_step k269 f269_13 (Wp_step k269 f269_14 ⟨⟨rfl, trivial⟩, h_1⟩)
theorem b269_15 {X : (Nat → Int) × Nat} {d : Nat} {s : mSt} {Q : mQ} {x1 : Int} {x2 : Int} (h_1 : Sp X d 268 [mR 407, mI 0, mI x1] s (fun r s' => r = none ∧ Wp X (d + 1) 269 21 [some (mR 407), some (mI x1), some (mI x2)] [] s' Q)) : Wp X (d + 1) 269 15 [some (mR 407), some (mI x1), some (mI x2)] [] s Q := Wp_step k269 f269_15 (Wp_step k269 f269_16 (Wp_step k269 f269_17 (Wp_step k269 f269_18 ⟨⟨kf_407, Nat.le_of_ble_eq_true rfl⟩, Nat.le_refl _, _, rfl, Sp_V h_1⟩)))
theorem b269_21 {X : (Nat → Int) × Nat} {d : Nat} {s : mSt} {Q : mQ} {x1 : Int} {x2 : Int} (h_1 : ¬ x2 = (-1) → Wp X d 269 35 [some (mR 407), some (mI x1), some (mI x2)] [] s Q) (h_2 : x2 = (-1) → Wp X d 269 26 [some (mR 407), some (mI x1), some (mI x2)] [] s Q) : Wp X d 269 21 [some (mR 407), some (mI x1), some (mI x2)] [] s Q := Wp_step k269 f269_21 (Wp_step k269 f269_22 (Wp_step k269 f269_23 ⟨h_1, h_2⟩))
theorem b269_26 {X : (Nat → Int) × Nat} {d : Nat} {s : mSt} {Q : mQ} {x1 : Int} {x2 : Int} (h_1 : Wp X d 269 56 [some (mR 407), some (mI x1), some (mI x2)] [mI (s 425 0)] s Q) : Wp X d 269 26 [some (mR 407), some (mI x1), some (mI x2)] [] s Q := Wp_step k269 f269_26 (Wp_step k269 f269_27 ⟨kf_407, 425, rf_407_39, Wp_step k269 f269_30 (Wp_step k269 f269_31 ⟨2, af_425, ⟨by decide, by decide⟩, Wp_step k269 f269_32 (h_1)⟩)⟩)
theorem b269_35 {X : (Nat → Int) × Nat} {d : Nat} {s : mSt} {Q : mQ} {x1 : Int} {x2 : Int} (h_1 : (s 425 0) ≤ x2 → Wp X d 269 54 [some (mR 407), some (mI x1), some (mI x2)] [] s Q) (h_2 : ¬ (s 425 0) ≤ x2 → Wp X d 269 45 [some (mR 407), some (mI x1), some (mI x2)] [] s Q) : Wp X d 269 35 [some (mR 407), some (mI x1), some (mI x2)] [] s Q := Wp_step k269 f269_35 (Wp_step k269 f269_36 (Wp_step k269 f269_37 ⟨kf_407, 425, rf_407_39, Wp_step k269 f269_40 (Wp_step k269 f269_41 ⟨2, af_425, ⟨by decide, by decide⟩, Wp_step k269 f269_42 ⟨h_1, h_2⟩⟩)⟩))
theorem b269_45 {X : (Nat → Int) × Nat} {d : Nat} {s : mSt} {Q : mQ} {x1 : Int} {x2 : Int} (h_1 : 0 ≤ x2 ∧ x2 < 120) (h_2 : Wp X d 269 56 [some (mR 407), some (mI x1), some (mI x2)] [mI (s 424 x2.toNat)] s Q) : Wp X d 269 45 [some (mR 407), some (mI x1), some (mI x2)] [] s Q := Wp_step k269 f269_45 (Wp_step k269 f269_46 ⟨kf_407, 424, rf_407_38, Wp_step k269 f269_49 (Wp_step k269 f269_50 ⟨120, af_424, h_1, Wp_step k269 f269_51 (h_2)⟩)⟩)
theorem b269_54 {X : (Nat → Int) × Nat} {d : Nat} {s : mSt} {Q : mQ} {x1 : Int} {x2 : Int} (h_1 : Wp X d 269 56 [some (mR 407), some (mI x1), some (mI x2)] [mI (-2)] s Q) : Wp X d 269 54 [some (mR 407), some (mI x1), some (mI x2)] [] s Q := Wp_step k269 f269_54 (h_1)
theorem b269_56 {X : (Nat → Int) × Nat} {d : Nat} {s : mSt} {Q : mQ} {x1 : Int} {x2 : Int} {xt0 : Int} (h_1 : Q (some (mI xt0)) s) : Wp X d 269 56 [some (mR 407), some (mI x1), some (mI x2)] [mI xt0] s Q := Wp_step k269 f269_56 ⟨⟨rfl, trivial⟩, h_1⟩
theorem e269 {X : (Nat → Int) × Nat} {d : Nat} {s : mSt} {Q : mQ} {x1 : Int} {x2 : Int} (h : Wp X d 269 0 [some (mR 407), some (mI x1), some (mI x2)] [] s Q) : Sp X d 269 [mR 407, mI x1, mI x2] s Q := Sp_of (show mCe 269 = 0 by decide +kernel) (by rw [show mML 269 = 3 by decide +kernel]; rfl) (Nat.le_trans (Nat.le_of_ble_eq_true (show Nat.ble (mArgs _).length 3 = true from rfl)) (show 3 ≤ mML 269 by decide +kernel)) h
-- 270 ClashDayModel.first(III)I
theorem k270 : mRk 270 = 1 := by decide +kernel
theorem f270_0 : mFetch 270 0 = some (.aload_n 0, 1, 0, 0, 0, 0) := by decide +kernel
theorem f270_1 : mFetch 270 1 = some (.iload_n 1, 1, 0, 0, 0, 0) := by decide +kernel
theorem f270_2 : mFetch 270 2 = some (.invokevirtual 334, 3, 216, 0, 2, 12) := by decide +kernel
theorem f270_5 : mFetch 270 5 = some (.ifCond .eq 26, 3, 31, 0, 0, 0) := by decide +kernel
theorem f270_8 : mFetch 270 8 = some (.aload_n 0, 1, 0, 0, 0, 0) := by decide +kernel
theorem f270_9 : mFetch 270 9 = some (.iload_n 2, 1, 0, 0, 0, 0) := by decide +kernel
theorem f270_10 : mFetch 270 10 = some (.invokevirtual 334, 3, 216, 0, 2, 12) := by decide +kernel
theorem f270_13 : mFetch 270 13 = some (.ifCond .eq 18, 3, 31, 0, 0, 0) := by decide +kernel
theorem f270_16 : mFetch 270 16 = some (.iload_n 1, 1, 0, 0, 0, 0) := by decide +kernel
theorem f270_17 : mFetch 270 17 = some (.iload_n 2, 1, 0, 0, 0, 0) := by decide +kernel
theorem f270_18 : mFetch 270 18 = some (.if_icmp .eq 13, 3, 31, 0, 0, 0) := by decide +kernel
theorem f270_21 : mFetch 270 21 = some (.iload_n 3, 1, 0, 0, 0, 0) := by decide +kernel
theorem f270_22 : mFetch 270 22 = some (.i2l, 1, 0, 0, 0, 0) := by decide +kernel
theorem f270_23 : mFetch 270 23 = some (.lconst 0, 1, 0, 0, 0, 0) := by decide +kernel
theorem f270_24 : mFetch 270 24 = some (.lconst 1, 1, 0, 0, 0, 0) := by decide +kernel
theorem f270_25 : mFetch 270 25 = some (.invokestatic 151, 3, 167, 0, 3, 99) := by decide +kernel
theorem f270_28 : mFetch 270 28 = some (.ifCond .ne 5, 3, 33, 0, 0, 0) := by decide +kernel
theorem f270_31 : mFetch 270 31 = some (.iconst (-1), 1, 0, 0, 0, 0) := by decide +kernel
theorem f270_32 : mFetch 270 32 = some (.ireturn, 1, 0, 0, 0, 0) := by decide +kernel
theorem f270_33 : mFetch 270 33 = some (.aload_n 0, 1, 0, 0, 0, 0) := by decide +kernel
theorem f270_34 : mFetch 270 34 = some (.iconst 0, 1, 0, 0, 0, 0) := by decide +kernel
theorem f270_35 : mFetch 270 35 = some (.iload_n 1, 1, 0, 0, 0, 0) := by decide +kernel
theorem f270_36 : mFetch 270 36 = some (.invokevirtual 474, 3, 268, 0, 3, 12) := by decide +kernel
theorem f270_39 : mFetch 270 39 = some (.aload_n 0, 1, 0, 0, 0, 0) := by decide +kernel
theorem f270_40 : mFetch 270 40 = some (.iconst 1, 1, 0, 0, 0, 0) := by decide +kernel
theorem f270_41 : mFetch 270 41 = some (.iload_n 2, 1, 0, 0, 0, 0) := by decide +kernel
theorem f270_42 : mFetch 270 42 = some (.invokevirtual 474, 3, 268, 0, 3, 12) := by decide +kernel
theorem f270_45 : mFetch 270 45 = some (.iconst 0, 1, 0, 0, 0, 0) := by decide +kernel
theorem f270_46 : mFetch 270 46 = some (.istore 4, 2, 0, 0, 0, 0) := by decide +kernel
theorem f270_48 : mFetch 270 48 = some (.iload 4, 2, 0, 0, 0, 0) := by decide +kernel
theorem f270_50 : mFetch 270 50 = some (.aload_n 0, 1, 0, 0, 0, 0) := by decide +kernel
theorem f270_51 : mFetch 270 51 = some (.getfield 67, 3, 12, 39, 2, 1) := by decide +kernel
theorem f270_54 : mFetch 270 54 = some (.iconst 0, 1, 0, 0, 0, 0) := by decide +kernel
theorem f270_55 : mFetch 270 55 = some (.iaload, 1, 0, 0, 0, 0) := by decide +kernel
theorem f270_56 : mFetch 270 56 = some (.if_icmp .ge 40, 3, 96, 0, 0, 0) := by decide +kernel
theorem f270_59 : mFetch 270 59 = some (.iload 4, 2, 0, 0, 0, 0) := by decide +kernel
theorem f270_61 : mFetch 270 61 = some (.aload_n 0, 1, 0, 0, 0, 0) := by decide +kernel
theorem f270_62 : mFetch 270 62 = some (.getfield 67, 3, 12, 39, 2, 1) := by decide +kernel
theorem f270_65 : mFetch 270 65 = some (.iconst 1, 1, 0, 0, 0, 0) := by decide +kernel
theorem f270_66 : mFetch 270 66 = some (.iaload, 1, 0, 0, 0, 0) := by decide +kernel
theorem f270_67 : mFetch 270 67 = some (.if_icmp .ge 29, 3, 96, 0, 0, 0) := by decide +kernel
theorem f270_70 : mFetch 270 70 = some (.aload_n 0, 1, 0, 0, 0, 0) := by decide +kernel
theorem f270_71 : mFetch 270 71 = some (.getfield 64, 3, 12, 38, 2, 1) := by decide +kernel
theorem f270_74 : mFetch 270 74 = some (.iload 4, 2, 0, 0, 0, 0) := by decide +kernel
theorem f270_76 : mFetch 270 76 = some (.iaload, 1, 0, 0, 0, 0) := by decide +kernel
theorem f270_77 : mFetch 270 77 = some (.aload_n 0, 1, 0, 0, 0, 0) := by decide +kernel
theorem f270_78 : mFetch 270 78 = some (.getfield 64, 3, 12, 38, 2, 1) := by decide +kernel
theorem f270_81 : mFetch 270 81 = some (.bipush 60, 2, 0, 0, 0, 0) := by decide +kernel
theorem f270_83 : mFetch 270 83 = some (.iload 4, 2, 0, 0, 0, 0) := by decide +kernel
theorem f270_85 : mFetch 270 85 = some (.iadd, 1, 0, 0, 0, 0) := by decide +kernel
theorem f270_86 : mFetch 270 86 = some (.iaload, 1, 0, 0, 0, 0) := by decide +kernel
theorem f270_87 : mFetch 270 87 = some (.if_icmp .ne 9, 3, 96, 0, 0, 0) := by decide +kernel
theorem f270_90 : mFetch 270 90 = some (.iinc 4 1, 3, 0, 0, 0, 0) := by decide +kernel
theorem f270_93 : mFetch 270 93 = some (.goto (-45), 3, 48, 0, 0, 0) := by decide +kernel
theorem f270_96 : mFetch 270 96 = some (.iload_n 3, 1, 0, 0, 0, 0) := by decide +kernel
theorem f270_97 : mFetch 270 97 = some (.iconst 1, 1, 0, 0, 0, 0) := by decide +kernel
theorem f270_98 : mFetch 270 98 = some (.if_icmp .ne 6, 3, 104, 0, 0, 0) := by decide +kernel
theorem f270_101 : mFetch 270 101 = some (.iload 4, 2, 0, 0, 0, 0) := by decide +kernel
theorem f270_103 : mFetch 270 103 = some (.ireturn, 1, 0, 0, 0, 0) := by decide +kernel
theorem f270_104 : mFetch 270 104 = some (.iload 4, 2, 0, 0, 0, 0) := by decide +kernel
theorem f270_106 : mFetch 270 106 = some (.aload_n 0, 1, 0, 0, 0, 0) := by decide +kernel
theorem f270_107 : mFetch 270 107 = some (.getfield 67, 3, 12, 39, 2, 1) := by decide +kernel
theorem f270_110 : mFetch 270 110 = some (.iconst 0, 1, 0, 0, 0, 0) := by decide +kernel
theorem f270_111 : mFetch 270 111 = some (.iaload, 1, 0, 0, 0, 0) := by decide +kernel
theorem f270_112 : mFetch 270 112 = some (.if_icmp .eq 14, 3, 126, 0, 0, 0) := by decide +kernel
theorem f270_115 : mFetch 270 115 = some (.iload 4, 2, 0, 0, 0, 0) := by decide +kernel
theorem f270_117 : mFetch 270 117 = some (.aload_n 0, 1, 0, 0, 0, 0) := by decide +kernel
theorem f270_118 : mFetch 270 118 = some (.getfield 67, 3, 12, 39, 2, 1) := by decide +kernel
theorem f270_121 : mFetch 270 121 = some (.iconst 1, 1, 0, 0, 0, 0) := by decide +kernel
theorem f270_122 : mFetch 270 122 = some (.iaload, 1, 0, 0, 0, 0) := by decide +kernel
theorem f270_123 : mFetch 270 123 = some (.if_icmp .ne 44, 3, 167, 0, 0, 0) := by decide +kernel
theorem f270_126 : mFetch 270 126 = some (.aload_n 0, 1, 0, 0, 0, 0) := by decide +kernel
theorem f270_127 : mFetch 270 127 = some (.getfield 67, 3, 12, 39, 2, 1) := by decide +kernel
theorem f270_130 : mFetch 270 130 = some (.iconst 0, 1, 0, 0, 0, 0) := by decide +kernel
theorem f270_131 : mFetch 270 131 = some (.iaload, 1, 0, 0, 0, 0) := by decide +kernel
theorem f270_132 : mFetch 270 132 = some (.aload_n 0, 1, 0, 0, 0, 0) := by decide +kernel
theorem f270_133 : mFetch 270 133 = some (.getfield 67, 3, 12, 39, 2, 1) := by decide +kernel
theorem f270_136 : mFetch 270 136 = some (.iconst 1, 1, 0, 0, 0, 0) := by decide +kernel
theorem f270_137 : mFetch 270 137 = some (.iaload, 1, 0, 0, 0, 0) := by decide +kernel
theorem f270_138 : mFetch 270 138 = some (.if_icmp .ne 8, 3, 146, 0, 0, 0) := by decide +kernel
theorem f270_141 : mFetch 270 141 = some (.bipush (-2), 2, 0, 0, 0, 0) := by decide +kernel
theorem f270_143 : mFetch 270 143 = some (.goto 23, 3, 166, 0, 0, 0) := by decide +kernel
theorem f270_146 : mFetch 270 146 = some (.aload_n 0, 1, 0, 0, 0, 0) := by decide +kernel
theorem f270_147 : mFetch 270 147 = some (.getfield 67, 3, 12, 39, 2, 1) := by decide +kernel
theorem f270_150 : mFetch 270 150 = some (.iconst 0, 1, 0, 0, 0, 0) := by decide +kernel
theorem f270_151 : mFetch 270 151 = some (.iaload, 1, 0, 0, 0, 0) := by decide +kernel
theorem f270_152 : mFetch 270 152 = some (.aload_n 0, 1, 0, 0, 0, 0) := by decide +kernel
theorem f270_153 : mFetch 270 153 = some (.getfield 67, 3, 12, 39, 2, 1) := by decide +kernel
theorem f270_156 : mFetch 270 156 = some (.iconst 1, 1, 0, 0, 0, 0) := by decide +kernel
theorem f270_157 : mFetch 270 157 = some (.iaload, 1, 0, 0, 0, 0) := by decide +kernel
theorem f270_158 : mFetch 270 158 = some (.if_icmp .ge 7, 3, 165, 0, 0, 0) := by decide +kernel
theorem f270_161 : mFetch 270 161 = some (.iload_n 1, 1, 0, 0, 0, 0) := by decide +kernel
theorem f270_162 : mFetch 270 162 = some (.goto 4, 3, 166, 0, 0, 0) := by decide +kernel
theorem f270_165 : mFetch 270 165 = some (.iload_n 2, 1, 0, 0, 0, 0) := by decide +kernel
theorem f270_166 : mFetch 270 166 = some (.ireturn, 1, 0, 0, 0, 0) := by decide +kernel
theorem f270_167 : mFetch 270 167 = some (.aload_n 0, 1, 0, 0, 0, 0) := by decide +kernel
theorem f270_168 : mFetch 270 168 = some (.getfield 64, 3, 12, 38, 2, 1) := by decide +kernel
theorem f270_171 : mFetch 270 171 = some (.iload 4, 2, 0, 0, 0, 0) := by decide +kernel
theorem f270_173 : mFetch 270 173 = some (.iaload, 1, 0, 0, 0, 0) := by decide +kernel
theorem f270_174 : mFetch 270 174 = some (.aload_n 0, 1, 0, 0, 0, 0) := by decide +kernel
theorem f270_175 : mFetch 270 175 = some (.getfield 64, 3, 12, 38, 2, 1) := by decide +kernel
theorem f270_178 : mFetch 270 178 = some (.bipush 60, 2, 0, 0, 0, 0) := by decide +kernel
theorem f270_180 : mFetch 270 180 = some (.iload 4, 2, 0, 0, 0, 0) := by decide +kernel
theorem f270_182 : mFetch 270 182 = some (.iadd, 1, 0, 0, 0, 0) := by decide +kernel
theorem f270_183 : mFetch 270 183 = some (.iaload, 1, 0, 0, 0, 0) := by decide +kernel
theorem f270_184 : mFetch 270 184 = some (.if_icmp .ge 7, 3, 191, 0, 0, 0) := by decide +kernel
theorem f270_187 : mFetch 270 187 = some (.iload_n 1, 1, 0, 0, 0, 0) := by decide +kernel
theorem f270_188 : mFetch 270 188 = some (.goto 4, 3, 192, 0, 0, 0) := by decide +kernel
theorem f270_191 : mFetch 270 191 = some (.iload_n 2, 1, 0, 0, 0, 0) := by decide +kernel
theorem f270_192 : mFetch 270 192 = some (.ireturn, 1, 0, 0, 0, 0) := by decide +kernel
theorem b270_0 {X : (Nat → Int) × Nat} {d : Nat} {s : mSt} {Q : mQ} {x1 : Int} {x2 : Int} {x3 : Int} (h_1 : Sp X d 216 [mR 407, mI x1] s (fun r s' => ∃ v : Int, r = some (mI v) ∧ Wp X (d + 1) 270 5 [some (mR 407), some (mI x1), some (mI x2), some (mI x3), none] [mI v] s' Q)) : Wp X (d + 1) 270 0 [some (mR 407), some (mI x1), some (mI x2), some (mI x3), none] [] s Q := Wp_step k270 f270_0 (Wp_step k270 f270_1 (Wp_step k270 f270_2 ⟨⟨kf_407, Nat.le_of_ble_eq_true rfl⟩, Nat.le_refl _, _, rfl, Sp_E h_1⟩))
theorem b270_5 {X : (Nat → Int) × Nat} {d : Nat} {s : mSt} {Q : mQ} {x1 : Int} {x2 : Int} {x3 : Int} {xt0 : Int} (h_1 : xt0 = 0 → Wp X d 270 31 [some (mR 407), some (mI x1), some (mI x2), some (mI x3), none] [] s Q) (h_2 : ¬ xt0 = 0 → Wp X d 270 8 [some (mR 407), some (mI x1), some (mI x2), some (mI x3), none] [] s Q) : Wp X d 270 5 [some (mR 407), some (mI x1), some (mI x2), some (mI x3), none] [mI xt0] s Q := Wp_step k270 f270_5 ⟨h_1, h_2⟩
theorem b270_8 {X : (Nat → Int) × Nat} {d : Nat} {s : mSt} {Q : mQ} {x1 : Int} {x2 : Int} {x3 : Int} (h_1 : Sp X d 216 [mR 407, mI x2] s (fun r s' => ∃ v : Int, r = some (mI v) ∧ Wp X (d + 1) 270 13 [some (mR 407), some (mI x1), some (mI x2), some (mI x3), none] [mI v] s' Q)) : Wp X (d + 1) 270 8 [some (mR 407), some (mI x1), some (mI x2), some (mI x3), none] [] s Q := Wp_step k270 f270_8 (Wp_step k270 f270_9 (Wp_step k270 f270_10 ⟨⟨kf_407, Nat.le_of_ble_eq_true rfl⟩, Nat.le_refl _, _, rfl, Sp_E h_1⟩))
theorem b270_13 {X : (Nat → Int) × Nat} {d : Nat} {s : mSt} {Q : mQ} {x1 : Int} {x2 : Int} {x3 : Int} {xt0 : Int} (h_1 : xt0 = 0 → Wp X d 270 31 [some (mR 407), some (mI x1), some (mI x2), some (mI x3), none] [] s Q) (h_2 : ¬ xt0 = 0 → Wp X d 270 16 [some (mR 407), some (mI x1), some (mI x2), some (mI x3), none] [] s Q) : Wp X d 270 13 [some (mR 407), some (mI x1), some (mI x2), some (mI x3), none] [mI xt0] s Q := Wp_step k270 f270_13 ⟨h_1, h_2⟩
theorem b270_16 {X : (Nat → Int) × Nat} {d : Nat} {s : mSt} {Q : mQ} {x1 : Int} {x2 : Int} {x3 : Int} (h_1 : x1 = x2 → Wp X d 270 31 [some (mR 407), some (mI x1), some (mI x2), some (mI x3), none] [] s Q) (h_2 : ¬ x1 = x2 → Wp X d 270 21 [some (mR 407), some (mI x1), some (mI x2), some (mI x3), none] [] s Q) : Wp X d 270 16 [some (mR 407), some (mI x1), some (mI x2), some (mI x3), none] [] s Q := Wp_step k270 f270_16 (Wp_step k270 f270_17 (Wp_step k270 f270_18 ⟨h_1, h_2⟩))
theorem b270_21 {X : (Nat → Int) × Nat} {d : Nat} {s : mSt} {Q : mQ} {x1 : Int} {x2 : Int} {x3 : Int} (h_1 : Sp X d 167 [mJ x3, mJ 0, mJ 1] s (fun r s' => ∃ v : Int, r = some (mI v) ∧ Wp X (d + 1) 270 28 [some (mR 407), some (mI x1), some (mI x2), some (mI x3), none] [mI v] s' Q)) : Wp X (d + 1) 270 21 [some (mR 407), some (mI x1), some (mI x2), some (mI x3), none] [] s Q := Wp_step k270 f270_21 (Wp_step k270 f270_22 (Wp_step k270 f270_23 (Wp_step k270 f270_24 (Wp_step k270 f270_25 ⟨⟨Nat.le_of_ble_eq_true rfl, Nat.le_refl _⟩, _, rfl, Sp_E h_1⟩))))
theorem b270_28 {X : (Nat → Int) × Nat} {d : Nat} {s : mSt} {Q : mQ} {x1 : Int} {x2 : Int} {x3 : Int} {xt0 : Int} (h_1 : ¬ xt0 = 0 → Wp X d 270 33 [some (mR 407), some (mI x1), some (mI x2), some (mI x3), none] [] s Q) (h_2 : xt0 = 0 → Wp X d 270 31 [some (mR 407), some (mI x1), some (mI x2), some (mI x3), none] [] s Q) : Wp X d 270 28 [some (mR 407), some (mI x1), some (mI x2), some (mI x3), none] [mI xt0] s Q := Wp_step k270 f270_28 ⟨h_1, h_2⟩
theorem b270_31 {X : (Nat → Int) × Nat} {d : Nat} {s : mSt} {Q : mQ} {x1 : Int} {x2 : Int} {x3 : Int} (h_1 : Q (some (mI (-1))) s) : Wp X d 270 31 [some (mR 407), some (mI x1), some (mI x2), some (mI x3), none] [] s Q := Wp_step k270 f270_31 (Wp_step k270 f270_32 ⟨⟨rfl, trivial⟩, h_1⟩)
theorem b270_33 {X : (Nat → Int) × Nat} {d : Nat} {s : mSt} {Q : mQ} {x1 : Int} {x2 : Int} {x3 : Int} (h_1 : Sp X d 268 [mR 407, mI 0, mI x1] s (fun r s' => r = none ∧ Wp X (d + 1) 270 39 [some (mR 407), some (mI x1), some (mI x2), some (mI x3), none] [] s' Q)) : Wp X (d + 1) 270 33 [some (mR 407), some (mI x1), some (mI x2), some (mI x3), none] [] s Q := Wp_step k270 f270_33 (Wp_step k270 f270_34 (Wp_step k270 f270_35 (Wp_step k270 f270_36 ⟨⟨kf_407, Nat.le_of_ble_eq_true rfl⟩, Nat.le_refl _, _, rfl, Sp_V h_1⟩)))
theorem b270_39 {X : (Nat → Int) × Nat} {d : Nat} {s : mSt} {Q : mQ} {x1 : Int} {x2 : Int} {x3 : Int} (h_1 : Sp X d 268 [mR 407, mI 1, mI x2] s (fun r s' => r = none ∧ Wp X (d + 1) 270 45 [some (mR 407), some (mI x1), some (mI x2), some (mI x3), none] [] s' Q)) : Wp X (d + 1) 270 39 [some (mR 407), some (mI x1), some (mI x2), some (mI x3), none] [] s Q := Wp_step k270 f270_39 (Wp_step k270 f270_40 (Wp_step k270 f270_41 (Wp_step k270 f270_42 ⟨⟨kf_407, Nat.le_of_ble_eq_true rfl⟩, Nat.le_refl _, _, rfl, Sp_V h_1⟩)))
theorem b270_45 {X : (Nat → Int) × Nat} {d : Nat} {s : mSt} {Q : mQ} {x1 : Int} {x2 : Int} {x3 : Int} (h_1 : Wp X d 270 48 [some (mR 407), some (mI x1), some (mI x2), some (mI x3), some (mI 0)] [] s Q) : Wp X d 270 45 [some (mR 407), some (mI x1), some (mI x2), some (mI x3), none] [] s Q := Wp_step k270 f270_45 (Wp_step k270 f270_46 (h_1))
theorem b270_48 {X : (Nat → Int) × Nat} {d : Nat} {s : mSt} {Q : mQ} {x1 : Int} {x2 : Int} {x3 : Int} {x4 : Int} (h_1 : (s 425 0) ≤ x4 → Wp X d 270 96 [some (mR 407), some (mI x1), some (mI x2), some (mI x3), some (mI x4)] [] s Q) (h_2 : ¬ (s 425 0) ≤ x4 → Wp X d 270 59 [some (mR 407), some (mI x1), some (mI x2), some (mI x3), some (mI x4)] [] s Q) : Wp X d 270 48 [some (mR 407), some (mI x1), some (mI x2), some (mI x3), some (mI x4)] [] s Q := Wp_step k270 f270_48 (Wp_step k270 f270_50 (Wp_step k270 f270_51 ⟨kf_407, 425, rf_407_39, Wp_step k270 f270_54 (Wp_step k270 f270_55 ⟨2, af_425, ⟨by decide, by decide⟩, Wp_step k270 f270_56 ⟨h_1, h_2⟩⟩)⟩))
theorem b270_59 {X : (Nat → Int) × Nat} {d : Nat} {s : mSt} {Q : mQ} {x1 : Int} {x2 : Int} {x3 : Int} {x4 : Int} (h_1 : (s 425 1) ≤ x4 → Wp X d 270 96 [some (mR 407), some (mI x1), some (mI x2), some (mI x3), some (mI x4)] [] s Q) (h_2 : ¬ (s 425 1) ≤ x4 → Wp X d 270 70 [some (mR 407), some (mI x1), some (mI x2), some (mI x3), some (mI x4)] [] s Q) : Wp X d 270 59 [some (mR 407), some (mI x1), some (mI x2), some (mI x3), some (mI x4)] [] s Q := Wp_step k270 f270_59 (Wp_step k270 f270_61 (Wp_step k270 f270_62 ⟨kf_407, 425, rf_407_39, Wp_step k270 f270_65 (Wp_step k270 f270_66 ⟨2, af_425, ⟨by decide, by decide⟩, Wp_step k270 f270_67 ⟨h_1, h_2⟩⟩)⟩))
theorem b270_70 {X : (Nat → Int) × Nat} {d : Nat} {s : mSt} {Q : mQ} {x1 : Int} {x2 : Int} {x3 : Int} {x4 : Int} (h_1 : 0 ≤ x4 ∧ x4 < 120) (h_2 : 0 ≤ (w32 (60 + x4)) ∧ (w32 (60 + x4)) < 120) (h_3 : ¬ (s 424 x4.toNat) = (s 424 (w32 (60 + x4)).toNat) → Wp X d 270 96 [some (mR 407), some (mI x1), some (mI x2), some (mI x3), some (mI x4)] [] s Q) (h_4 : (s 424 x4.toNat) = (s 424 (w32 (60 + x4)).toNat) → Wp X d 270 90 [some (mR 407), some (mI x1), some (mI x2), some (mI x3), some (mI x4)] [] s Q) : Wp X d 270 70 [some (mR 407), some (mI x1), some (mI x2), some (mI x3), some (mI x4)] [] s Q := Wp_step k270 f270_70 (Wp_step k270 f270_71 ⟨kf_407, 424, rf_407_38, Wp_step k270 f270_74 (Wp_step k270 f270_76 ⟨120, af_424, h_1, Wp_step k270 f270_77 (Wp_step k270 f270_78 ⟨kf_407, 424, rf_407_38, Wp_step k270 f270_81 (Wp_step k270 f270_83 (Wp_step k270 f270_85 (Wp_step k270 f270_86 ⟨120, af_424, h_2, Wp_step k270 f270_87 ⟨h_3, h_4⟩⟩)))⟩)⟩)⟩)
theorem b270_90 {X : (Nat → Int) × Nat} {d : Nat} {s : mSt} {Q : mQ} {x1 : Int} {x2 : Int} {x3 : Int} {x4 : Int} (h_1 : Wp X d 270 48 [some (mR 407), some (mI x1), some (mI x2), some (mI x3), some (mI (w32 (x4 + 1)))] [] s Q) : Wp X d 270 90 [some (mR 407), some (mI x1), some (mI x2), some (mI x3), some (mI x4)] [] s Q := Wp_step k270 f270_90 (Wp_step k270 f270_93 (h_1))
theorem b270_96 {X : (Nat → Int) × Nat} {d : Nat} {s : mSt} {Q : mQ} {x1 : Int} {x2 : Int} {x3 : Int} {x4 : Int} (h_1 : ¬ x3 = 1 → Wp X d 270 104 [some (mR 407), some (mI x1), some (mI x2), some (mI x3), some (mI x4)] [] s Q) (h_2 : x3 = 1 → Wp X d 270 101 [some (mR 407), some (mI x1), some (mI x2), some (mI x3), some (mI x4)] [] s Q) : Wp X d 270 96 [some (mR 407), some (mI x1), some (mI x2), some (mI x3), some (mI x4)] [] s Q := Wp_step k270 f270_96 (Wp_step k270 f270_97 (Wp_step k270 f270_98 ⟨h_1, h_2⟩))
theorem b270_101 {X : (Nat → Int) × Nat} {d : Nat} {s : mSt} {Q : mQ} {x1 : Int} {x2 : Int} {x3 : Int} {x4 : Int} (h_1 : Q (some (mI x4)) s) : Wp X d 270 101 [some (mR 407), some (mI x1), some (mI x2), some (mI x3), some (mI x4)] [] s Q := Wp_step k270 f270_101 (Wp_step k270 f270_103 ⟨⟨rfl, trivial⟩, h_1⟩)
theorem b270_104 {X : (Nat → Int) × Nat} {d : Nat} {s : mSt} {Q : mQ} {x1 : Int} {x2 : Int} {x3 : Int} {x4 : Int} (h_1 : x4 = (s 425 0) → Wp X d 270 126 [some (mR 407), some (mI x1), some (mI x2), some (mI x3), some (mI x4)] [] s Q) (h_2 : ¬ x4 = (s 425 0) → Wp X d 270 115 [some (mR 407), some (mI x1), some (mI x2), some (mI x3), some (mI x4)] [] s Q) : Wp X d 270 104 [some (mR 407), some (mI x1), some (mI x2), some (mI x3), some (mI x4)] [] s Q := Wp_step k270 f270_104 (Wp_step k270 f270_106 (Wp_step k270 f270_107 ⟨kf_407, 425, rf_407_39, Wp_step k270 f270_110 (Wp_step k270 f270_111 ⟨2, af_425, ⟨by decide, by decide⟩, Wp_step k270 f270_112 ⟨h_1, h_2⟩⟩)⟩))
theorem b270_115 {X : (Nat → Int) × Nat} {d : Nat} {s : mSt} {Q : mQ} {x1 : Int} {x2 : Int} {x3 : Int} {x4 : Int} (h_1 : ¬ x4 = (s 425 1) → Wp X d 270 167 [some (mR 407), some (mI x1), some (mI x2), some (mI x3), some (mI x4)] [] s Q) (h_2 : x4 = (s 425 1) → Wp X d 270 126 [some (mR 407), some (mI x1), some (mI x2), some (mI x3), some (mI x4)] [] s Q) : Wp X d 270 115 [some (mR 407), some (mI x1), some (mI x2), some (mI x3), some (mI x4)] [] s Q := Wp_step k270 f270_115 (Wp_step k270 f270_117 (Wp_step k270 f270_118 ⟨kf_407, 425, rf_407_39, Wp_step k270 f270_121 (Wp_step k270 f270_122 ⟨2, af_425, ⟨by decide, by decide⟩, Wp_step k270 f270_123 ⟨h_1, h_2⟩⟩)⟩))
theorem b270_126 {X : (Nat → Int) × Nat} {d : Nat} {s : mSt} {Q : mQ} {x1 : Int} {x2 : Int} {x3 : Int} {x4 : Int} (h_1 : ¬ (s 425 0) = (s 425 1) → Wp X d 270 146 [some (mR 407), some (mI x1), some (mI x2), some (mI x3), some (mI x4)] [] s Q) (h_2 : (s 425 0) = (s 425 1) → Wp X d 270 141 [some (mR 407), some (mI x1), some (mI x2), some (mI x3), some (mI x4)] [] s Q) : Wp X d 270 126 [some (mR 407), some (mI x1), some (mI x2), some (mI x3), some (mI x4)] [] s Q := Wp_step k270 f270_126 (Wp_step k270 f270_127 ⟨kf_407, 425, rf_407_39, Wp_step k270 f270_130 (Wp_step k270 f270_131 ⟨2, af_425, ⟨by decide, by decide⟩, Wp_step k270 f270_132 (Wp_step k270 f270_133 ⟨kf_407, 425, rf_407_39, Wp_step k270 f270_136 (Wp_step k270 f270_137 ⟨2, af_425, ⟨by decide, by decide⟩, Wp_step k270 f270_138 ⟨h_1, h_2⟩⟩)⟩)⟩)⟩)
theorem b270_141 {X : (Nat → Int) × Nat} {d : Nat} {s : mSt} {Q : mQ} {x1 : Int} {x2 : Int} {x3 : Int} {x4 : Int} (h_1 : Wp X d 270 166 [some (mR 407), some (mI x1), some (mI x2), some (mI x3), some (mI x4)] [mI (-2)] s Q) : Wp X d 270 141 [some (mR 407), some (mI x1), some (mI x2), some (mI x3), some (mI x4)] [] s Q := Wp_step k270 f270_141 (Wp_step k270 f270_143 (h_1))
theorem b270_146 {X : (Nat → Int) × Nat} {d : Nat} {s : mSt} {Q : mQ} {x1 : Int} {x2 : Int} {x3 : Int} {x4 : Int} (h_1 : (s 425 1) ≤ (s 425 0) → Wp X d 270 165 [some (mR 407), some (mI x1), some (mI x2), some (mI x3), some (mI x4)] [] s Q) (h_2 : ¬ (s 425 1) ≤ (s 425 0) → Wp X d 270 161 [some (mR 407), some (mI x1), some (mI x2), some (mI x3), some (mI x4)] [] s Q) : Wp X d 270 146 [some (mR 407), some (mI x1), some (mI x2), some (mI x3), some (mI x4)] [] s Q := Wp_step k270 f270_146 (Wp_step k270 f270_147 ⟨kf_407, 425, rf_407_39, Wp_step k270 f270_150 (Wp_step k270 f270_151 ⟨2, af_425, ⟨by decide, by decide⟩, Wp_step k270 f270_152 (Wp_step k270 f270_153 ⟨kf_407, 425, rf_407_39, Wp_step k270 f270_156 (Wp_step k270 f270_157 ⟨2, af_425, ⟨by decide, by decide⟩, Wp_step k270 f270_158 ⟨h_1, h_2⟩⟩)⟩)⟩)⟩)
theorem b270_161 {X : (Nat → Int) × Nat} {d : Nat} {s : mSt} {Q : mQ} {x1 : Int} {x2 : Int} {x3 : Int} {x4 : Int} (h_1 : Wp X d 270 166 [some (mR 407), some (mI x1), some (mI x2), some (mI x3), some (mI x4)] [mI x1] s Q) : Wp X d 270 161 [some (mR 407), some (mI x1), some (mI x2), some (mI x3), some (mI x4)] [] s Q := Wp_step k270 f270_161 (Wp_step k270 f270_162 (h_1))
theorem b270_165 {X : (Nat → Int) × Nat} {d : Nat} {s : mSt} {Q : mQ} {x1 : Int} {x2 : Int} {x3 : Int} {x4 : Int} (h_1 : Wp X d 270 166 [some (mR 407), some (mI x1), some (mI x2), some (mI x3), some (mI x4)] [mI x2] s Q) : Wp X d 270 165 [some (mR 407), some (mI x1), some (mI x2), some (mI x3), some (mI x4)] [] s Q := Wp_step k270 f270_165 (h_1)
theorem b270_166 {X : (Nat → Int) × Nat} {d : Nat} {s : mSt} {Q : mQ} {x1 : Int} {x2 : Int} {x3 : Int} {x4 : Int} {xt0 : Int} (h_1 : Q (some (mI xt0)) s) : Wp X d 270 166 [some (mR 407), some (mI x1), some (mI x2), some (mI x3), some (mI x4)] [mI xt0] s Q := Wp_step k270 f270_166 ⟨⟨rfl, trivial⟩, h_1⟩
theorem b270_167 {X : (Nat → Int) × Nat} {d : Nat} {s : mSt} {Q : mQ} {x1 : Int} {x2 : Int} {x3 : Int} {x4 : Int} (h_1 : 0 ≤ x4 ∧ x4 < 120) (h_2 : 0 ≤ (w32 (60 + x4)) ∧ (w32 (60 + x4)) < 120) (h_3 : (s 424 (w32 (60 + x4)).toNat) ≤ (s 424 x4.toNat) → Wp X d 270 191 [some (mR 407), some (mI x1), some (mI x2), some (mI x3), some (mI x4)] [] s Q) (h_4 : ¬ (s 424 (w32 (60 + x4)).toNat) ≤ (s 424 x4.toNat) → Wp X d 270 187 [some (mR 407), some (mI x1), some (mI x2), some (mI x3), some (mI x4)] [] s Q) : Wp X d 270 167 [some (mR 407), some (mI x1), some (mI x2), some (mI x3), some (mI x4)] [] s Q := Wp_step k270 f270_167 (Wp_step k270 f270_168 ⟨kf_407, 424, rf_407_38, Wp_step k270 f270_171 (Wp_step k270 f270_173 ⟨120, af_424, h_1, Wp_step k270 f270_174 (Wp_step k270 f270_175 ⟨kf_407, 424, rf_407_38, Wp_step k270 f270_178 (Wp_step k270 f270_180 (Wp_step k270 f270_182 (Wp_step k270 f270_183 ⟨120, af_424, h_2, Wp_step k270 f270_184 ⟨h_3, h_4⟩⟩)))⟩)⟩)⟩)
theorem b270_187 {X : (Nat → Int) × Nat} {d : Nat} {s : mSt} {Q : mQ} {x1 : Int} {x2 : Int} {x3 : Int} {x4 : Int} (h_1 : Wp X d 270 192 [some (mR 407), some (mI x1), some (mI x2), some (mI x3), some (mI x4)] [mI x1] s Q) : Wp X d 270 187 [some (mR 407), some (mI x1), some (mI x2), some (mI x3), some (mI x4)] [] s Q := Wp_step k270 f270_187 (Wp_step k270 f270_188 (h_1))
theorem b270_191 {X : (Nat → Int) × Nat} {d : Nat} {s : mSt} {Q : mQ} {x1 : Int} {x2 : Int} {x3 : Int} {x4 : Int} (h_1 : Wp X d 270 192 [some (mR 407), some (mI x1), some (mI x2), some (mI x3), some (mI x4)] [mI x2] s Q) : Wp X d 270 191 [some (mR 407), some (mI x1), some (mI x2), some (mI x3), some (mI x4)] [] s Q := Wp_step k270 f270_191 (h_1)
theorem b270_192 {X : (Nat → Int) × Nat} {d : Nat} {s : mSt} {Q : mQ} {x1 : Int} {x2 : Int} {x3 : Int} {x4 : Int} {xt0 : Int} (h_1 : Q (some (mI xt0)) s) : Wp X d 270 192 [some (mR 407), some (mI x1), some (mI x2), some (mI x3), some (mI x4)] [mI xt0] s Q := Wp_step k270 f270_192 ⟨⟨rfl, trivial⟩, h_1⟩
theorem e270 {X : (Nat → Int) × Nat} {d : Nat} {s : mSt} {Q : mQ} {x1 : Int} {x2 : Int} {x3 : Int} (h : Wp X d 270 0 [some (mR 407), some (mI x1), some (mI x2), some (mI x3), none] [] s Q) : Sp X d 270 [mR 407, mI x1, mI x2, mI x3] s Q := Sp_of (show mCe 270 = 0 by decide +kernel) (by rw [show mML 270 = 5 by decide +kernel]; rfl) (Nat.le_trans (Nat.le_of_ble_eq_true (show Nat.ble (mArgs _).length 5 = true from rfl)) (show 5 ≤ mML 270 by decide +kernel)) h
-- 271 ClashDayModel.keptIn(I)I
theorem k271 : mRk 271 = 1 := by decide +kernel
theorem f271_0 : mFetch 271 0 = some (.iconst 0, 1, 0, 0, 0, 0) := by decide +kernel
theorem f271_1 : mFetch 271 1 = some (.istore_n 2, 1, 0, 0, 0, 0) := by decide +kernel
theorem f271_2 : mFetch 271 2 = some (.iconst 0, 1, 0, 0, 0, 0) := by decide +kernel
theorem f271_3 : mFetch 271 3 = some (.istore_n 3, 1, 0, 0, 0, 0) := by decide +kernel
theorem f271_4 : mFetch 271 4 = some (.iload_n 3, 1, 0, 0, 0, 0) := by decide +kernel
theorem f271_5 : mFetch 271 5 = some (.aload_n 0, 1, 0, 0, 0, 0) := by decide +kernel
theorem f271_6 : mFetch 271 6 = some (.getfield 39, 3, 12, 20, 2, 1) := by decide +kernel
theorem f271_9 : mFetch 271 9 = some (.iconst 4, 1, 0, 0, 0, 0) := by decide +kernel
theorem f271_10 : mFetch 271 10 = some (.iaload, 1, 0, 0, 0, 0) := by decide +kernel
theorem f271_11 : mFetch 271 11 = some (.if_icmp .ge 34, 3, 45, 0, 0, 0) := by decide +kernel
theorem f271_14 : mFetch 271 14 = some (.iload_n 2, 1, 0, 0, 0, 0) := by decide +kernel
theorem f271_15 : mFetch 271 15 = some (.aload_n 0, 1, 0, 0, 0, 0) := by decide +kernel
theorem f271_16 : mFetch 271 16 = some (.iload_n 3, 1, 0, 0, 0, 0) := by decide +kernel
theorem f271_17 : mFetch 271 17 = some (.invokevirtual 334, 3, 216, 0, 2, 12) := by decide +kernel
theorem f271_20 : mFetch 271 20 = some (.ifCond .eq 16, 3, 36, 0, 0, 0) := by decide +kernel
theorem f271_23 : mFetch 271 23 = some (.aload_n 0, 1, 0, 0, 0, 0) := by decide +kernel
theorem f271_24 : mFetch 271 24 = some (.iload_n 3, 1, 0, 0, 0, 0) := by decide +kernel
theorem f271_25 : mFetch 271 25 = some (.iload_n 1, 1, 0, 0, 0, 0) := by decide +kernel
theorem f271_26 : mFetch 271 26 = some (.invokevirtual 340, 3, 224, 0, 3, 12) := by decide +kernel
theorem f271_29 : mFetch 271 29 = some (.ifCond .eq 7, 3, 36, 0, 0, 0) := by decide +kernel
theorem f271_32 : mFetch 271 32 = some (.iconst 1, 1, 0, 0, 0, 0) := by decide +kernel
theorem f271_33 : mFetch 271 33 = some (.goto 4, 3, 37, 0, 0, 0) := by decide +kernel
theorem f271_36 : mFetch 271 36 = some (.iconst 0, 1, 0, 0, 0, 0) := by decide +kernel
theorem f271_37 : mFetch 271 37 = some (.iadd, 1, 0, 0, 0, 0) := by decide +kernel
theorem f271_38 : mFetch 271 38 = some (.istore_n 2, 1, 0, 0, 0, 0) := by decide +kernel
theorem f271_39 : mFetch 271 39 = some (.iinc 3 1, 3, 0, 0, 0, 0) := by decide +kernel
theorem f271_42 : mFetch 271 42 = some (.goto (-38), 3, 4, 0, 0, 0) := by decide +kernel
theorem f271_45 : mFetch 271 45 = some (.iload_n 2, 1, 0, 0, 0, 0) := by decide +kernel
theorem f271_46 : mFetch 271 46 = some (.ireturn, 1, 0, 0, 0, 0) := by decide +kernel
theorem b271_0 {X : (Nat → Int) × Nat} {d : Nat} {s : mSt} {Q : mQ} {x1 : Int} (h_1 : Wp X d 271 4 [some (mR 407), some (mI x1), some (mI 0), some (mI 0)] [] s Q) : Wp X d 271 0 [some (mR 407), some (mI x1), none, none] [] s Q := Wp_step k271 f271_0 (Wp_step k271 f271_1 (Wp_step k271 f271_2 (Wp_step k271 f271_3 (h_1))))
theorem b271_4 {X : (Nat → Int) × Nat} {d : Nat} {s : mSt} {Q : mQ} {x1 : Int} {x2 : Int} {x3 : Int} (h_1 : (s 417 4) ≤ x3 → Wp X d 271 45 [some (mR 407), some (mI x1), some (mI x2), some (mI x3)] [] s Q) (h_2 : ¬ (s 417 4) ≤ x3 → Wp X d 271 14 [some (mR 407), some (mI x1), some (mI x2), some (mI x3)] [] s Q) : Wp X d 271 4 [some (mR 407), some (mI x1), some (mI x2), some (mI x3)] [] s Q := Wp_step k271 f271_4 (Wp_step k271 f271_5 (Wp_step k271 f271_6 ⟨kf_407, 417, rf_407_20, Wp_step k271 f271_9 (Wp_step k271 f271_10 ⟨166, af_417, ⟨by decide, by decide⟩, Wp_step k271 f271_11 ⟨h_1, h_2⟩⟩)⟩))
theorem b271_14 {X : (Nat → Int) × Nat} {d : Nat} {s : mSt} {Q : mQ} {x1 : Int} {x2 : Int} {x3 : Int} (h_1 : Sp X d 216 [mR 407, mI x3] s (fun r s' => ∃ v : Int, r = some (mI v) ∧ Wp X (d + 1) 271 20 [some (mR 407), some (mI x1), some (mI x2), some (mI x3)] [mI v, mI x2] s' Q)) : Wp X (d + 1) 271 14 [some (mR 407), some (mI x1), some (mI x2), some (mI x3)] [] s Q := Wp_step k271 f271_14 (Wp_step k271 f271_15 (Wp_step k271 f271_16 (Wp_step k271 f271_17 ⟨⟨kf_407, Nat.le_of_ble_eq_true rfl⟩, Nat.le_refl _, _, rfl, Sp_E h_1⟩)))
theorem b271_20 {X : (Nat → Int) × Nat} {d : Nat} {s : mSt} {Q : mQ} {x1 : Int} {x2 : Int} {x3 : Int} {xt0 : Int} {xt1 : Int} (h_1 : xt1 = 0 → Wp X d 271 36 [some (mR 407), some (mI x1), some (mI x2), some (mI x3)] [mI xt0] s Q) (h_2 : ¬ xt1 = 0 → Wp X d 271 23 [some (mR 407), some (mI x1), some (mI x2), some (mI x3)] [mI xt0] s Q) : Wp X d 271 20 [some (mR 407), some (mI x1), some (mI x2), some (mI x3)] [mI xt1, mI xt0] s Q := Wp_step k271 f271_20 ⟨h_1, h_2⟩
theorem b271_23 {X : (Nat → Int) × Nat} {d : Nat} {s : mSt} {Q : mQ} {x1 : Int} {x2 : Int} {x3 : Int} {xt0 : Int} (h_1 : Sp X d 224 [mR 407, mI x3, mI x1] s (fun r s' => ∃ v : Int, r = some (mI v) ∧ Wp X (d + 1) 271 29 [some (mR 407), some (mI x1), some (mI x2), some (mI x3)] [mI v, mI xt0] s' Q)) : Wp X (d + 1) 271 23 [some (mR 407), some (mI x1), some (mI x2), some (mI x3)] [mI xt0] s Q := Wp_step k271 f271_23 (Wp_step k271 f271_24 (Wp_step k271 f271_25 (Wp_step k271 f271_26 ⟨⟨kf_407, Nat.le_of_ble_eq_true rfl⟩, Nat.le_refl _, _, rfl, Sp_E h_1⟩)))
theorem b271_29 {X : (Nat → Int) × Nat} {d : Nat} {s : mSt} {Q : mQ} {x1 : Int} {x2 : Int} {x3 : Int} {xt0 : Int} {xt1 : Int} (h_1 : xt1 = 0 → Wp X d 271 36 [some (mR 407), some (mI x1), some (mI x2), some (mI x3)] [mI xt0] s Q) (h_2 : ¬ xt1 = 0 → Wp X d 271 32 [some (mR 407), some (mI x1), some (mI x2), some (mI x3)] [mI xt0] s Q) : Wp X d 271 29 [some (mR 407), some (mI x1), some (mI x2), some (mI x3)] [mI xt1, mI xt0] s Q := Wp_step k271 f271_29 ⟨h_1, h_2⟩
theorem b271_32 {X : (Nat → Int) × Nat} {d : Nat} {s : mSt} {Q : mQ} {x1 : Int} {x2 : Int} {x3 : Int} {xt0 : Int} (h_1 : Wp X d 271 37 [some (mR 407), some (mI x1), some (mI x2), some (mI x3)] [mI 1, mI xt0] s Q) : Wp X d 271 32 [some (mR 407), some (mI x1), some (mI x2), some (mI x3)] [mI xt0] s Q := Wp_step k271 f271_32 (Wp_step k271 f271_33 (h_1))
theorem b271_36 {X : (Nat → Int) × Nat} {d : Nat} {s : mSt} {Q : mQ} {x1 : Int} {x2 : Int} {x3 : Int} {xt0 : Int} (h_1 : Wp X d 271 37 [some (mR 407), some (mI x1), some (mI x2), some (mI x3)] [mI 0, mI xt0] s Q) : Wp X d 271 36 [some (mR 407), some (mI x1), some (mI x2), some (mI x3)] [mI xt0] s Q := Wp_step k271 f271_36 (h_1)
theorem b271_37 {X : (Nat → Int) × Nat} {d : Nat} {s : mSt} {Q : mQ} {x1 : Int} {x2 : Int} {x3 : Int} {xt0 : Int} {xt1 : Int} (h_1 : Wp X d 271 4 [some (mR 407), some (mI x1), some (mI (w32 (xt0 + xt1))), some (mI (w32 (x3 + 1)))] [] s Q) : Wp X d 271 37 [some (mR 407), some (mI x1), some (mI x2), some (mI x3)] [mI xt1, mI xt0] s Q := Wp_step k271 f271_37 (Wp_step k271 f271_38 (Wp_step k271 f271_39 (Wp_step k271 f271_42 (h_1))))
theorem b271_45 {X : (Nat → Int) × Nat} {d : Nat} {s : mSt} {Q : mQ} {x1 : Int} {x2 : Int} {x3 : Int} (h_1 : Q (some (mI x2)) s) : Wp X d 271 45 [some (mR 407), some (mI x1), some (mI x2), some (mI x3)] [] s Q := Wp_step k271 f271_45 (Wp_step k271 f271_46 ⟨⟨rfl, trivial⟩, h_1⟩)
theorem e271 {X : (Nat → Int) × Nat} {d : Nat} {s : mSt} {Q : mQ} {x1 : Int} (h : Wp X d 271 0 [some (mR 407), some (mI x1), none, none] [] s Q) : Sp X d 271 [mR 407, mI x1] s Q := Sp_of (show mCe 271 = 0 by decide +kernel) (by rw [show mML 271 = 4 by decide +kernel]; rfl) (Nat.le_trans (Nat.le_of_ble_eq_true (show Nat.ble (mArgs _).length 4 = true from rfl)) (show 4 ≤ mML 271 by decide +kernel)) h
-- 272 ClashDayModel.watchers(II)I
theorem k272 : mRk 272 = 1 := by decide +kernel
theorem f272_0 : mFetch 272 0 = some (.aload_n 0, 1, 0, 0, 0, 0) := by decide +kernel
theorem f272_1 : mFetch 272 1 = some (.invokevirtual 354, 3, 212, 0, 1, 12) := by decide +kernel
theorem f272_4 : mFetch 272 4 = some (.ifCond .eq 25, 3, 29, 0, 0, 0) := by decide +kernel
theorem f272_7 : mFetch 272 7 = some (.iload_n 1, 1, 0, 0, 0, 0) := by decide +kernel
theorem f272_8 : mFetch 272 8 = some (.i2l, 1, 0, 0, 0, 0) := by decide +kernel
theorem f272_9 : mFetch 272 9 = some (.lconst 1, 1, 0, 0, 0, 0) := by decide +kernel
theorem f272_10 : mFetch 272 10 = some (.ldc2_w 477, 3, 6, 0, 0, 0) := by decide +kernel
theorem f272_13 : mFetch 272 13 = some (.invokestatic 151, 3, 167, 0, 3, 99) := by decide +kernel
theorem f272_16 : mFetch 272 16 = some (.ifCond .eq 13, 3, 29, 0, 0, 0) := by decide +kernel
theorem f272_19 : mFetch 272 19 = some (.iload_n 2, 1, 0, 0, 0, 0) := by decide +kernel
theorem f272_20 : mFetch 272 20 = some (.i2l, 1, 0, 0, 0, 0) := by decide +kernel
theorem f272_21 : mFetch 272 21 = some (.lconst 0, 1, 0, 0, 0, 0) := by decide +kernel
theorem f272_22 : mFetch 272 22 = some (.lconst 1, 1, 0, 0, 0, 0) := by decide +kernel
theorem f272_23 : mFetch 272 23 = some (.invokestatic 151, 3, 167, 0, 3, 99) := by decide +kernel
theorem f272_26 : mFetch 272 26 = some (.ifCond .ne 5, 3, 31, 0, 0, 0) := by decide +kernel
theorem f272_29 : mFetch 272 29 = some (.iconst (-1), 1, 0, 0, 0, 0) := by decide +kernel
theorem f272_30 : mFetch 272 30 = some (.ireturn, 1, 0, 0, 0, 0) := by decide +kernel
theorem f272_31 : mFetch 272 31 = some (.iconst 0, 1, 0, 0, 0, 0) := by decide +kernel
theorem f272_32 : mFetch 272 32 = some (.istore_n 3, 1, 0, 0, 0, 0) := by decide +kernel
theorem f272_33 : mFetch 272 33 = some (.iconst 0, 1, 0, 0, 0, 0) := by decide +kernel
theorem f272_34 : mFetch 272 34 = some (.istore 4, 2, 0, 0, 0, 0) := by decide +kernel
theorem f272_36 : mFetch 272 36 = some (.iconst 0, 1, 0, 0, 0, 0) := by decide +kernel
theorem f272_37 : mFetch 272 37 = some (.istore 5, 2, 0, 0, 0, 0) := by decide +kernel
theorem f272_39 : mFetch 272 39 = some (.iload 5, 2, 0, 0, 0, 0) := by decide +kernel
theorem f272_41 : mFetch 272 41 = some (.bipush 30, 2, 0, 0, 0, 0) := by decide +kernel
theorem f272_43 : mFetch 272 43 = some (.if_icmp .ge 39, 3, 82, 0, 0, 0) := by decide +kernel
theorem f272_46 : mFetch 272 46 = some (.aload_n 0, 1, 0, 0, 0, 0) := by decide +kernel
theorem f272_47 : mFetch 272 47 = some (.iload 5, 2, 0, 0, 0, 0) := by decide +kernel
theorem f272_49 : mFetch 272 49 = some (.invokevirtual 479, 3, 271, 0, 2, 12) := by decide +kernel
theorem f272_52 : mFetch 272 52 = some (.iload_n 1, 1, 0, 0, 0, 0) := by decide +kernel
theorem f272_53 : mFetch 272 53 = some (.iadd, 1, 0, 0, 0, 0) := by decide +kernel
theorem f272_54 : mFetch 272 54 = some (.iconst 1, 1, 0, 0, 0, 0) := by decide +kernel
theorem f272_55 : mFetch 272 55 = some (.isub, 1, 0, 0, 0, 0) := by decide +kernel
theorem f272_56 : mFetch 272 56 = some (.iload_n 1, 1, 0, 0, 0, 0) := by decide +kernel
theorem f272_57 : mFetch 272 57 = some (.idiv, 1, 0, 0, 0, 0) := by decide +kernel
theorem f272_58 : mFetch 272 58 = some (.istore 6, 2, 0, 0, 0, 0) := by decide +kernel
theorem f272_60 : mFetch 272 60 = some (.iload 6, 2, 0, 0, 0, 0) := by decide +kernel
theorem f272_62 : mFetch 272 62 = some (.iload_n 3, 1, 0, 0, 0, 0) := by decide +kernel
theorem f272_63 : mFetch 272 63 = some (.if_icmp .gt 6, 3, 69, 0, 0, 0) := by decide +kernel
theorem f272_66 : mFetch 272 66 = some (.goto 10, 3, 76, 0, 0, 0) := by decide +kernel
theorem f272_69 : mFetch 272 69 = some (.iload 6, 2, 0, 0, 0, 0) := by decide +kernel
theorem f272_71 : mFetch 272 71 = some (.istore_n 3, 1, 0, 0, 0, 0) := by decide +kernel
theorem f272_72 : mFetch 272 72 = some (.iload 5, 2, 0, 0, 0, 0) := by decide +kernel
theorem f272_74 : mFetch 272 74 = some (.istore 4, 2, 0, 0, 0, 0) := by decide +kernel
theorem f272_76 : mFetch 272 76 = some (.iinc 5 1, 3, 0, 0, 0, 0) := by decide +kernel
theorem f272_79 : mFetch 272 79 = some (.goto (-40), 3, 39, 0, 0, 0) := by decide +kernel
theorem f272_82 : mFetch 272 82 = some (.iload_n 2, 1, 0, 0, 0, 0) := by decide +kernel
theorem f272_83 : mFetch 272 83 = some (.ifCond .ne 7, 3, 90, 0, 0, 0) := by decide +kernel
theorem f272_86 : mFetch 272 86 = some (.iload_n 3, 1, 0, 0, 0, 0) := by decide +kernel
theorem f272_87 : mFetch 272 87 = some (.goto 5, 3, 92, 0, 0, 0) := by decide +kernel
theorem f272_90 : mFetch 272 90 = some (.iload 4, 2, 0, 0, 0, 0) := by decide +kernel
theorem f272_92 : mFetch 272 92 = some (.ireturn, 1, 0, 0, 0, 0) := by decide +kernel
theorem b272_0 {X : (Nat → Int) × Nat} {d : Nat} {s : mSt} {Q : mQ} {x1 : Int} {x2 : Int} (h_1 : Sp X d 212 [mR 407] s (fun r s' => ∃ v : Int, r = some (mI v) ∧ Wp X (d + 1) 272 4 [some (mR 407), some (mI x1), some (mI x2), none, none, none, none] [mI v] s' Q)) : Wp X (d + 1) 272 0 [some (mR 407), some (mI x1), some (mI x2), none, none, none, none] [] s Q := Wp_step k272 f272_0 (Wp_step k272 f272_1 ⟨⟨kf_407, Nat.le_of_ble_eq_true rfl⟩, Nat.le_refl _, _, rfl, Sp_E h_1⟩)
theorem b272_4 {X : (Nat → Int) × Nat} {d : Nat} {s : mSt} {Q : mQ} {x1 : Int} {x2 : Int} {xt0 : Int} (h_1 : xt0 = 0 → Wp X d 272 29 [some (mR 407), some (mI x1), some (mI x2), none, none, none, none] [] s Q) (h_2 : ¬ xt0 = 0 → Wp X d 272 7 [some (mR 407), some (mI x1), some (mI x2), none, none, none, none] [] s Q) : Wp X d 272 4 [some (mR 407), some (mI x1), some (mI x2), none, none, none, none] [mI xt0] s Q := Wp_step k272 f272_4 ⟨h_1, h_2⟩
theorem b272_7 {X : (Nat → Int) × Nat} {d : Nat} {s : mSt} {Q : mQ} {x1 : Int} {x2 : Int} (h_1 : Sp X d 167 [mJ x1, mJ 1, mJ 6] s (fun r s' => ∃ v : Int, r = some (mI v) ∧ Wp X (d + 1) 272 16 [some (mR 407), some (mI x1), some (mI x2), none, none, none, none] [mI v] s' Q)) : Wp X (d + 1) 272 7 [some (mR 407), some (mI x1), some (mI x2), none, none, none, none] [] s Q := Wp_step k272 f272_7 (Wp_step k272 f272_8 (Wp_step k272 f272_9 (Wp_step k272 f272_10 (Wp_step k272 f272_13 ⟨⟨Nat.le_of_ble_eq_true rfl, Nat.le_refl _⟩, _, rfl, Sp_E h_1⟩))))
theorem b272_16 {X : (Nat → Int) × Nat} {d : Nat} {s : mSt} {Q : mQ} {x1 : Int} {x2 : Int} {xt0 : Int} (h_1 : xt0 = 0 → Wp X d 272 29 [some (mR 407), some (mI x1), some (mI x2), none, none, none, none] [] s Q) (h_2 : ¬ xt0 = 0 → Wp X d 272 19 [some (mR 407), some (mI x1), some (mI x2), none, none, none, none] [] s Q) : Wp X d 272 16 [some (mR 407), some (mI x1), some (mI x2), none, none, none, none] [mI xt0] s Q := Wp_step k272 f272_16 ⟨h_1, h_2⟩
theorem b272_19 {X : (Nat → Int) × Nat} {d : Nat} {s : mSt} {Q : mQ} {x1 : Int} {x2 : Int} (h_1 : Sp X d 167 [mJ x2, mJ 0, mJ 1] s (fun r s' => ∃ v : Int, r = some (mI v) ∧ Wp X (d + 1) 272 26 [some (mR 407), some (mI x1), some (mI x2), none, none, none, none] [mI v] s' Q)) : Wp X (d + 1) 272 19 [some (mR 407), some (mI x1), some (mI x2), none, none, none, none] [] s Q := Wp_step k272 f272_19 (Wp_step k272 f272_20 (Wp_step k272 f272_21 (Wp_step k272 f272_22 (Wp_step k272 f272_23 ⟨⟨Nat.le_of_ble_eq_true rfl, Nat.le_refl _⟩, _, rfl, Sp_E h_1⟩))))
theorem b272_26 {X : (Nat → Int) × Nat} {d : Nat} {s : mSt} {Q : mQ} {x1 : Int} {x2 : Int} {xt0 : Int} (h_1 : ¬ xt0 = 0 → Wp X d 272 31 [some (mR 407), some (mI x1), some (mI x2), none, none, none, none] [] s Q) (h_2 : xt0 = 0 → Wp X d 272 29 [some (mR 407), some (mI x1), some (mI x2), none, none, none, none] [] s Q) : Wp X d 272 26 [some (mR 407), some (mI x1), some (mI x2), none, none, none, none] [mI xt0] s Q := Wp_step k272 f272_26 ⟨h_1, h_2⟩
theorem b272_29 {X : (Nat → Int) × Nat} {d : Nat} {s : mSt} {Q : mQ} {x1 : Int} {x2 : Int} (h_1 : Q (some (mI (-1))) s) : Wp X d 272 29 [some (mR 407), some (mI x1), some (mI x2), none, none, none, none] [] s Q := Wp_step k272 f272_29 (Wp_step k272 f272_30 ⟨⟨rfl, trivial⟩, h_1⟩)
theorem b272_31 {X : (Nat → Int) × Nat} {d : Nat} {s : mSt} {Q : mQ} {x1 : Int} {x2 : Int} (h_1 : Wp X d 272 39 [some (mR 407), some (mI x1), some (mI x2), some (mI 0), some (mI 0), some (mI 0), none] [] s Q) : Wp X d 272 31 [some (mR 407), some (mI x1), some (mI x2), none, none, none, none] [] s Q := Wp_step k272 f272_31 (Wp_step k272 f272_32 (Wp_step k272 f272_33 (Wp_step k272 f272_34 (Wp_step k272 f272_36 (Wp_step k272 f272_37 (h_1))))))
theorem b272_39 {X : (Nat → Int) × Nat} {d : Nat} {s : mSt} {Q : mQ} {x1 : Int} {x2 : Int} {x3 : Int} {x4 : Int} {x5 : Int} (h_1 : 30 ≤ x5 → Wp X d 272 82 [some (mR 407), some (mI x1), some (mI x2), some (mI x3), some (mI x4), some (mI x5), none] [] s Q) (h_2 : ¬ 30 ≤ x5 → Wp X d 272 46 [some (mR 407), some (mI x1), some (mI x2), some (mI x3), some (mI x4), some (mI x5), none] [] s Q) : Wp X d 272 39 [some (mR 407), some (mI x1), some (mI x2), some (mI x3), some (mI x4), some (mI x5), none] [] s Q := Wp_step k272 f272_39 (Wp_step k272 f272_41 (Wp_step k272 f272_43 ⟨h_1, h_2⟩))
theorem b272_46 {X : (Nat → Int) × Nat} {d : Nat} {s : mSt} {Q : mQ} {x1 : Int} {x2 : Int} {x3 : Int} {x4 : Int} {x5 : Int} (h_1 : Sp X d 271 [mR 407, mI x5] s (fun r s' => ∃ v : Int, r = some (mI v) ∧ Wp X (d + 1) 272 52 [some (mR 407), some (mI x1), some (mI x2), some (mI x3), some (mI x4), some (mI x5), none] [mI v] s' Q)) : Wp X (d + 1) 272 46 [some (mR 407), some (mI x1), some (mI x2), some (mI x3), some (mI x4), some (mI x5), none] [] s Q := Wp_step k272 f272_46 (Wp_step k272 f272_47 (Wp_step k272 f272_49 ⟨⟨kf_407, Nat.le_of_ble_eq_true rfl⟩, Nat.le_refl _, _, rfl, Sp_E h_1⟩))
theorem b272_52 {X : (Nat → Int) × Nat} {d : Nat} {s : mSt} {Q : mQ} {x1 : Int} {x2 : Int} {x3 : Int} {x4 : Int} {x5 : Int} {xt0 : Int} (h_1 : x1 ≠ 0) (h_2 : x3 < (w32 (Int.tdiv (w32 ((w32 (xt0 + x1)) - 1)) x1)) → Wp X d 272 69 [some (mR 407), some (mI x1), some (mI x2), some (mI x3), some (mI x4), some (mI x5), some (mI (w32 (Int.tdiv (w32 ((w32 (xt0 + x1)) - 1)) x1)))] [] s Q) (h_3 : ¬ x3 < (w32 (Int.tdiv (w32 ((w32 (xt0 + x1)) - 1)) x1)) → Wp X d 272 66 [some (mR 407), some (mI x1), some (mI x2), some (mI x3), some (mI x4), some (mI x5), some (mI (w32 (Int.tdiv (w32 ((w32 (xt0 + x1)) - 1)) x1)))] [] s Q) : Wp X d 272 52 [some (mR 407), some (mI x1), some (mI x2), some (mI x3), some (mI x4), some (mI x5), none] [mI xt0] s Q := Wp_step k272 f272_52 (Wp_step k272 f272_53 (Wp_step k272 f272_54 (Wp_step k272 f272_55 (Wp_step k272 f272_56 (Wp_step k272 f272_57 ⟨h_1, Wp_step k272 f272_58 (Wp_step k272 f272_60 (Wp_step k272 f272_62 (Wp_step k272 f272_63 ⟨h_2, h_3⟩)))⟩)))))
theorem b272_66 {X : (Nat → Int) × Nat} {d : Nat} {s : mSt} {Q : mQ} {x1 : Int} {x2 : Int} {x3 : Int} {x4 : Int} {x5 : Int} {x6 : Int} (h_1 : Wp X d 272 76 [some (mR 407), some (mI x1), some (mI x2), some (mI x3), some (mI x4), some (mI x5), some (mI x6)] [] s Q) : Wp X d 272 66 [some (mR 407), some (mI x1), some (mI x2), some (mI x3), some (mI x4), some (mI x5), some (mI x6)] [] s Q := Wp_step k272 f272_66 (h_1)
theorem b272_69 {X : (Nat → Int) × Nat} {d : Nat} {s : mSt} {Q : mQ} {x1 : Int} {x2 : Int} {x3 : Int} {x4 : Int} {x5 : Int} {x6 : Int} (h_1 : Wp X d 272 76 [some (mR 407), some (mI x1), some (mI x2), some (mI x6), some (mI x5), some (mI x5), some (mI x6)] [] s Q) : Wp X d 272 69 [some (mR 407), some (mI x1), some (mI x2), some (mI x3), some (mI x4), some (mI x5), some (mI x6)] [] s Q := Wp_step k272 f272_69 (Wp_step k272 f272_71 (Wp_step k272 f272_72 (Wp_step k272 f272_74 (h_1))))
theorem b272_76 {X : (Nat → Int) × Nat} {d : Nat} {s : mSt} {Q : mQ} {x1 : Int} {x2 : Int} {x3 : Int} {x4 : Int} {x5 : Int} {x6 : Int} (h_1 : Wp X d 272 39 [some (mR 407), some (mI x1), some (mI x2), some (mI x3), some (mI x4), some (mI (w32 (x5 + 1))), some (mI x6)] [] s Q) : Wp X d 272 76 [some (mR 407), some (mI x1), some (mI x2), some (mI x3), some (mI x4), some (mI x5), some (mI x6)] [] s Q := Wp_step k272 f272_76 (Wp_step k272 f272_79 (h_1))
theorem b272_82 {X : (Nat → Int) × Nat} {d : Nat} {s : mSt} {Q : mQ} {x1 : Int} {x2 : Int} {x3 : Int} {x4 : Int} {x5 : Int} (h_1 : ¬ x2 = 0 → Wp X d 272 90 [some (mR 407), some (mI x1), some (mI x2), some (mI x3), some (mI x4), some (mI x5), none] [] s Q) (h_2 : x2 = 0 → Wp X d 272 86 [some (mR 407), some (mI x1), some (mI x2), some (mI x3), some (mI x4), some (mI x5), none] [] s Q) : Wp X d 272 82 [some (mR 407), some (mI x1), some (mI x2), some (mI x3), some (mI x4), some (mI x5), none] [] s Q := Wp_step k272 f272_82 (Wp_step k272 f272_83 ⟨h_1, h_2⟩)
theorem b272_86 {X : (Nat → Int) × Nat} {d : Nat} {s : mSt} {Q : mQ} {x1 : Int} {x2 : Int} {x3 : Int} {x4 : Int} {x5 : Int} (h_1 : Wp X d 272 92 [some (mR 407), some (mI x1), some (mI x2), some (mI x3), some (mI x4), some (mI x5), none] [mI x3] s Q) : Wp X d 272 86 [some (mR 407), some (mI x1), some (mI x2), some (mI x3), some (mI x4), some (mI x5), none] [] s Q := Wp_step k272 f272_86 (Wp_step k272 f272_87 (h_1))
theorem b272_90 {X : (Nat → Int) × Nat} {d : Nat} {s : mSt} {Q : mQ} {x1 : Int} {x2 : Int} {x3 : Int} {x4 : Int} {x5 : Int} (h_1 : Wp X d 272 92 [some (mR 407), some (mI x1), some (mI x2), some (mI x3), some (mI x4), some (mI x5), none] [mI x4] s Q) : Wp X d 272 90 [some (mR 407), some (mI x1), some (mI x2), some (mI x3), some (mI x4), some (mI x5), none] [] s Q := Wp_step k272 f272_90 (h_1)
theorem b272_92 {X : (Nat → Int) × Nat} {d : Nat} {s : mSt} {Q : mQ} {x1 : Int} {x2 : Int} {x3 : Int} {x4 : Int} {x5 : Int} {xt0 : Int} (h_1 : Q (some (mI xt0)) s) : Wp X d 272 92 [some (mR 407), some (mI x1), some (mI x2), some (mI x3), some (mI x4), some (mI x5), none] [mI xt0] s Q := Wp_step k272 f272_92 ⟨⟨rfl, trivial⟩, h_1⟩
theorem e272 {X : (Nat → Int) × Nat} {d : Nat} {s : mSt} {Q : mQ} {x1 : Int} {x2 : Int} (h : Wp X d 272 0 [some (mR 407), some (mI x1), some (mI x2), none, none, none, none] [] s Q) : Sp X d 272 [mR 407, mI x1, mI x2] s Q := Sp_of (show mCe 272 = 0 by decide +kernel) (by rw [show mML 272 = 7 by decide +kernel]; rfl) (Nat.le_trans (Nat.le_of_ble_eq_true (show Nat.ble (mArgs _).length 7 = true from rfl)) (show 7 ≤ mML 272 by decide +kernel)) h
-- 273 ClashDayModel.watches(II)V
theorem k273 : mRk 273 = 0 := by decide +kernel
theorem f273_0 : mFetch 273 0 = some (.iconst 0, 1, 0, 0, 0, 0) := by decide +kernel
theorem f273_1 : mFetch 273 1 = some (.istore_n 3, 1, 0, 0, 0, 0) := by decide +kernel
theorem f273_2 : mFetch 273 2 = some (.iload_n 3, 1, 0, 0, 0, 0) := by decide +kernel
theorem f273_3 : mFetch 273 3 = some (.bipush 6, 2, 0, 0, 0, 0) := by decide +kernel
theorem f273_5 : mFetch 273 5 = some (.if_icmp .ge 35, 3, 40, 0, 0, 0) := by decide +kernel
theorem f273_8 : mFetch 273 8 = some (.aload_n 0, 1, 0, 0, 0, 0) := by decide +kernel
theorem f273_9 : mFetch 273 9 = some (.getfield 73, 3, 12, 41, 2, 1) := by decide +kernel
theorem f273_12 : mFetch 273 12 = some (.iload_n 3, 1, 0, 0, 0, 0) := by decide +kernel
theorem f273_13 : mFetch 273 13 = some (.aload_n 0, 1, 0, 0, 0, 0) := by decide +kernel
theorem f273_14 : mFetch 273 14 = some (.getfield 70, 3, 12, 40, 2, 1) := by decide +kernel
theorem f273_17 : mFetch 273 17 = some (.iload_n 3, 1, 0, 0, 0, 0) := by decide +kernel
theorem f273_18 : mFetch 273 18 = some (.iaload, 1, 0, 0, 0, 0) := by decide +kernel
theorem f273_19 : mFetch 273 19 = some (.iastore, 1, 0, 0, 0, 0) := by decide +kernel
theorem f273_20 : mFetch 273 20 = some (.aload_n 0, 1, 0, 0, 0, 0) := by decide +kernel
theorem f273_21 : mFetch 273 21 = some (.getfield 70, 3, 12, 40, 2, 1) := by decide +kernel
theorem f273_24 : mFetch 273 24 = some (.iload_n 3, 1, 0, 0, 0, 0) := by decide +kernel
theorem f273_25 : mFetch 273 25 = some (.iconst (-1), 1, 0, 0, 0, 0) := by decide +kernel
theorem f273_26 : mFetch 273 26 = some (.iastore, 1, 0, 0, 0, 0) := by decide +kernel
theorem f273_27 : mFetch 273 27 = some (.aload_n 0, 1, 0, 0, 0, 0) := by decide +kernel
theorem f273_28 : mFetch 273 28 = some (.getfield 76, 3, 12, 42, 2, 1) := by decide +kernel
theorem f273_31 : mFetch 273 31 = some (.iload_n 3, 1, 0, 0, 0, 0) := by decide +kernel
theorem f273_32 : mFetch 273 32 = some (.iconst 0, 1, 0, 0, 0, 0) := by decide +kernel
theorem f273_33 : mFetch 273 33 = some (.iastore, 1, 0, 0, 0, 0) := by decide +kernel
theorem f273_34 : mFetch 273 34 = some (.iinc 3 1, 3, 0, 0, 0, 0) := by decide +kernel
theorem f273_37 : mFetch 273 37 = some (.goto (-35), 3, 2, 0, 0, 0) := by decide +kernel
theorem f273_40 : mFetch 273 40 = some (.iconst 0, 1, 0, 0, 0, 0) := by decide +kernel
theorem f273_41 : mFetch 273 41 = some (.istore_n 3, 1, 0, 0, 0, 0) := by decide +kernel
theorem f273_42 : mFetch 273 42 = some (.iload_n 3, 1, 0, 0, 0, 0) := by decide +kernel
theorem f273_43 : mFetch 273 43 = some (.aload_n 0, 1, 0, 0, 0, 0) := by decide +kernel
theorem f273_44 : mFetch 273 44 = some (.getfield 39, 3, 12, 20, 2, 1) := by decide +kernel
theorem f273_47 : mFetch 273 47 = some (.iconst 4, 1, 0, 0, 0, 0) := by decide +kernel
theorem f273_48 : mFetch 273 48 = some (.iaload, 1, 0, 0, 0, 0) := by decide +kernel
theorem f273_49 : mFetch 273 49 = some (.if_icmp .ge 65, 3, 114, 0, 0, 0) := by decide +kernel
theorem f273_52 : mFetch 273 52 = some (.aload_n 0, 1, 0, 0, 0, 0) := by decide +kernel
theorem f273_53 : mFetch 273 53 = some (.iload_n 3, 1, 0, 0, 0, 0) := by decide +kernel
theorem f273_54 : mFetch 273 54 = some (.invokevirtual 334, 3, 216, 0, 2, 12) := by decide +kernel
theorem f273_57 : mFetch 273 57 = some (.ifCond .eq 51, 3, 108, 0, 0, 0) := by decide +kernel
theorem f273_60 : mFetch 273 60 = some (.aload_n 0, 1, 0, 0, 0, 0) := by decide +kernel
theorem f273_61 : mFetch 273 61 = some (.iload_n 3, 1, 0, 0, 0, 0) := by decide +kernel
theorem f273_62 : mFetch 273 62 = some (.iload_n 2, 1, 0, 0, 0, 0) := by decide +kernel
theorem f273_63 : mFetch 273 63 = some (.invokevirtual 340, 3, 224, 0, 3, 12) := by decide +kernel
theorem f273_66 : mFetch 273 66 = some (.ifCond .eq 42, 3, 108, 0, 0, 0) := by decide +kernel
theorem f273_69 : mFetch 273 69 = some (.aload_n 0, 1, 0, 0, 0, 0) := by decide +kernel
theorem f273_70 : mFetch 273 70 = some (.getfield 73, 3, 12, 41, 2, 1) := by decide +kernel
theorem f273_73 : mFetch 273 73 = some (.iload_n 3, 1, 0, 0, 0, 0) := by decide +kernel
theorem f273_74 : mFetch 273 74 = some (.iaload, 1, 0, 0, 0, 0) := by decide +kernel
theorem f273_75 : mFetch 273 75 = some (.ifCond .ge 6, 3, 81, 0, 0, 0) := by decide +kernel
theorem f273_78 : mFetch 273 78 = some (.goto 30, 3, 108, 0, 0, 0) := by decide +kernel
theorem f273_81 : mFetch 273 81 = some (.aload_n 0, 1, 0, 0, 0, 0) := by decide +kernel
theorem f273_82 : mFetch 273 82 = some (.getfield 70, 3, 12, 40, 2, 1) := by decide +kernel
theorem f273_85 : mFetch 273 85 = some (.iload_n 3, 1, 0, 0, 0, 0) := by decide +kernel
theorem f273_86 : mFetch 273 86 = some (.aload_n 0, 1, 0, 0, 0, 0) := by decide +kernel
theorem f273_87 : mFetch 273 87 = some (.getfield 73, 3, 12, 41, 2, 1) := by decide +kernel
theorem f273_90 : mFetch 273 90 = some (.iload_n 3, 1, 0, 0, 0, 0) := by decide +kernel
theorem f273_91 : mFetch 273 91 = some (.iaload, 1, 0, 0, 0, 0) := by decide +kernel
theorem f273_92 : mFetch 273 92 = some (.iastore, 1, 0, 0, 0, 0) := by decide +kernel
theorem f273_93 : mFetch 273 93 = some (.aload_n 0, 1, 0, 0, 0, 0) := by decide +kernel
theorem f273_94 : mFetch 273 94 = some (.getfield 76, 3, 12, 42, 2, 1) := by decide +kernel
theorem f273_97 : mFetch 273 97 = some (.aload_n 0, 1, 0, 0, 0, 0) := by decide +kernel
theorem f273_98 : mFetch 273 98 = some (.getfield 70, 3, 12, 40, 2, 1) := by decide +kernel
theorem f273_101 : mFetch 273 101 = some (.iload_n 3, 1, 0, 0, 0, 0) := by decide +kernel
theorem f273_102 : mFetch 273 102 = some (.iaload, 1, 0, 0, 0, 0) := by decide +kernel
theorem f273_103 : mFetch 273 103 = some (.dup2, 1, 0, 0, 0, 0) := by decide +kernel
theorem f273_104 : mFetch 273 104 = some (.iaload, 1, 0, 0, 0, 0) := by decide +kernel
theorem f273_105 : mFetch 273 105 = some (.iconst 1, 1, 0, 0, 0, 0) := by decide +kernel
theorem f273_106 : mFetch 273 106 = some (.iadd, 1, 0, 0, 0, 0) := by decide +kernel
theorem f273_107 : mFetch 273 107 = some (.iastore, 1, 0, 0, 0, 0) := by decide +kernel
theorem f273_108 : mFetch 273 108 = some (.iinc 3 1, 3, 0, 0, 0, 0) := by decide +kernel
theorem f273_111 : mFetch 273 111 = some (.goto (-69), 3, 42, 0, 0, 0) := by decide +kernel
theorem f273_114 : mFetch 273 114 = some (.iconst 0, 1, 0, 0, 0, 0) := by decide +kernel
theorem f273_115 : mFetch 273 115 = some (.istore_n 3, 1, 0, 0, 0, 0) := by decide +kernel
theorem f273_116 : mFetch 273 116 = some (.iload_n 3, 1, 0, 0, 0, 0) := by decide +kernel
theorem f273_117 : mFetch 273 117 = some (.aload_n 0, 1, 0, 0, 0, 0) := by decide +kernel
theorem f273_118 : mFetch 273 118 = some (.getfield 39, 3, 12, 20, 2, 1) := by decide +kernel
theorem f273_121 : mFetch 273 121 = some (.iconst 4, 1, 0, 0, 0, 0) := by decide +kernel
theorem f273_122 : mFetch 273 122 = some (.iaload, 1, 0, 0, 0, 0) := by decide +kernel
theorem f273_123 : mFetch 273 123 = some (.if_icmp .ge 77, 3, 200, 0, 0, 0) := by decide +kernel
theorem f273_126 : mFetch 273 126 = some (.aload_n 0, 1, 0, 0, 0, 0) := by decide +kernel
theorem f273_127 : mFetch 273 127 = some (.iload_n 3, 1, 0, 0, 0, 0) := by decide +kernel
theorem f273_128 : mFetch 273 128 = some (.invokevirtual 334, 3, 216, 0, 2, 12) := by decide +kernel
theorem f273_131 : mFetch 273 131 = some (.ifCond .eq 63, 3, 194, 0, 0, 0) := by decide +kernel
theorem f273_134 : mFetch 273 134 = some (.aload_n 0, 1, 0, 0, 0, 0) := by decide +kernel
theorem f273_135 : mFetch 273 135 = some (.iload_n 3, 1, 0, 0, 0, 0) := by decide +kernel
theorem f273_136 : mFetch 273 136 = some (.iload_n 2, 1, 0, 0, 0, 0) := by decide +kernel
theorem f273_137 : mFetch 273 137 = some (.invokevirtual 340, 3, 224, 0, 3, 12) := by decide +kernel
theorem f273_140 : mFetch 273 140 = some (.ifCond .eq 54, 3, 194, 0, 0, 0) := by decide +kernel
theorem f273_143 : mFetch 273 143 = some (.aload_n 0, 1, 0, 0, 0, 0) := by decide +kernel
theorem f273_144 : mFetch 273 144 = some (.getfield 70, 3, 12, 40, 2, 1) := by decide +kernel
theorem f273_147 : mFetch 273 147 = some (.iload_n 3, 1, 0, 0, 0, 0) := by decide +kernel
theorem f273_148 : mFetch 273 148 = some (.iaload, 1, 0, 0, 0, 0) := by decide +kernel
theorem f273_149 : mFetch 273 149 = some (.ifCond .lt 6, 3, 155, 0, 0, 0) := by decide +kernel
theorem f273_152 : mFetch 273 152 = some (.goto 42, 3, 194, 0, 0, 0) := by decide +kernel
theorem f273_155 : mFetch 273 155 = some (.iconst 0, 1, 0, 0, 0, 0) := by decide +kernel
theorem f273_156 : mFetch 273 156 = some (.istore 4, 2, 0, 0, 0, 0) := by decide +kernel
theorem f273_158 : mFetch 273 158 = some (.aload_n 0, 1, 0, 0, 0, 0) := by decide +kernel
theorem f273_159 : mFetch 273 159 = some (.getfield 76, 3, 12, 42, 2, 1) := by decide +kernel
theorem f273_162 : mFetch 273 162 = some (.iload 4, 2, 0, 0, 0, 0) := by decide +kernel
theorem f273_164 : mFetch 273 164 = some (.iaload, 1, 0, 0, 0, 0) := by decide +kernel
theorem f273_165 : mFetch 273 165 = some (.iload_n 1, 1, 0, 0, 0, 0) := by decide +kernel
theorem f273_166 : mFetch 273 166 = some (.if_icmp .lt 9, 3, 175, 0, 0, 0) := by decide +kernel
theorem f273_169 : mFetch 273 169 = some (.iinc 4 1, 3, 0, 0, 0, 0) := by decide +kernel
theorem f273_172 : mFetch 273 172 = some (.goto (-14), 3, 158, 0, 0, 0) := by decide +kernel
theorem f273_175 : mFetch 273 175 = some (.aload_n 0, 1, 0, 0, 0, 0) := by decide +kernel
theorem f273_176 : mFetch 273 176 = some (.getfield 70, 3, 12, 40, 2, 1) := by decide +kernel
theorem f273_179 : mFetch 273 179 = some (.iload_n 3, 1, 0, 0, 0, 0) := by decide +kernel
theorem f273_180 : mFetch 273 180 = some (.iload 4, 2, 0, 0, 0, 0) := by decide +kernel
theorem f273_182 : mFetch 273 182 = some (.iastore, 1, 0, 0, 0, 0) := by decide +kernel
theorem f273_183 : mFetch 273 183 = some (.aload_n 0, 1, 0, 0, 0, 0) := by decide +kernel
theorem f273_184 : mFetch 273 184 = some (.getfield 76, 3, 12, 42, 2, 1) := by decide +kernel
theorem f273_187 : mFetch 273 187 = some (.iload 4, 2, 0, 0, 0, 0) := by decide +kernel
theorem f273_189 : mFetch 273 189 = some (.dup2, 1, 0, 0, 0, 0) := by decide +kernel
theorem f273_190 : mFetch 273 190 = some (.iaload, 1, 0, 0, 0, 0) := by decide +kernel
theorem f273_191 : mFetch 273 191 = some (.iconst 1, 1, 0, 0, 0, 0) := by decide +kernel
theorem f273_192 : mFetch 273 192 = some (.iadd, 1, 0, 0, 0, 0) := by decide +kernel
theorem f273_193 : mFetch 273 193 = some (.iastore, 1, 0, 0, 0, 0) := by decide +kernel
theorem f273_194 : mFetch 273 194 = some (.iinc 3 1, 3, 0, 0, 0, 0) := by decide +kernel
theorem f273_197 : mFetch 273 197 = some (.goto (-81), 3, 116, 0, 0, 0) := by decide +kernel
theorem f273_200 : mFetch 273 200 = some (.return_, 1, 0, 0, 0, 0) := by decide +kernel
theorem b273_0 {X : (Nat → Int) × Nat} {d : Nat} {s : mSt} {Q : mQ} {x1 : Int} {x2 : Int} (h_1 : Wp X d 273 2 [some (mR 407), some (mI x1), some (mI x2), some (mI 0), none] [] s Q) : Wp X d 273 0 [some (mR 407), some (mI x1), some (mI x2), none, none] [] s Q := Wp_step k273 f273_0 (Wp_step k273 f273_1 (h_1))
theorem b273_2 {X : (Nat → Int) × Nat} {d : Nat} {s : mSt} {Q : mQ} {x1 : Int} {x2 : Int} {x3 : Int} (h_1 : 6 ≤ x3 → Wp X d 273 40 [some (mR 407), some (mI x1), some (mI x2), some (mI x3), none] [] s Q) (h_2 : ¬ 6 ≤ x3 → Wp X d 273 8 [some (mR 407), some (mI x1), some (mI x2), some (mI x3), none] [] s Q) : Wp X d 273 2 [some (mR 407), some (mI x1), some (mI x2), some (mI x3), none] [] s Q := Wp_step k273 f273_2 (Wp_step k273 f273_3 (Wp_step k273 f273_5 ⟨h_1, h_2⟩))
theorem b273_8 {X : (Nat → Int) × Nat} {d : Nat} {s : mSt} {Q : mQ} {x1 : Int} {x2 : Int} {x3 : Int} (h_1 : 0 ≤ x3 ∧ x3 < 6) (h_2 : 0 ≤ x3 ∧ x3 < 6) (h_3 : 0 ≤ x3 ∧ x3 < 6) (h_4 : 0 ≤ x3 ∧ x3 < 6) (h_5 : Wp X d 273 2 [some (mR 407), some (mI x1), some (mI x2), some (mI (w32 (x3 + 1))), none] [] (uS (uS (uS s 427 x3.toNat (s 426 x3.toNat)) 426 x3.toNat (-1)) 428 x3.toNat 0) Q) : Wp X d 273 8 [some (mR 407), some (mI x1), some (mI x2), some (mI x3), none] [] s Q := Wp_step k273 f273_8 (Wp_step k273 f273_9 ⟨kf_407, 427, rf_407_41, Wp_step k273 f273_12 (Wp_step k273 f273_13 (Wp_step k273 f273_14 ⟨kf_407, 426, rf_407_40, Wp_step k273 f273_17 (Wp_step k273 f273_18 ⟨6, af_426, h_1, Wp_step k273 f273_19 ⟨6, af_427, h_2, Wp_step k273 f273_20 (Wp_step k273 f273_21 ⟨kf_407, 426, rf_407_40, Wp_step k273 f273_24 (Wp_step k273 f273_25 (Wp_step k273 f273_26 ⟨6, af_426, h_3, Wp_step k273 f273_27 (Wp_step k273 f273_28 ⟨kf_407, 428, rf_407_42, Wp_step k273 f273_31 (Wp_step k273 f273_32 (Wp_step k273 f273_33 ⟨6, af_428, h_4, Wp_step k273 f273_34 (Wp_step k273 f273_37 (h_5))⟩))⟩)⟩))⟩)⟩⟩)⟩))⟩)
theorem b273_40 {X : (Nat → Int) × Nat} {d : Nat} {s : mSt} {Q : mQ} {x1 : Int} {x2 : Int} {x3 : Int} (h_1 : Wp X d 273 42 [some (mR 407), some (mI x1), some (mI x2), some (mI 0), none] [] s Q) : Wp X d 273 40 [some (mR 407), some (mI x1), some (mI x2), some (mI x3), none] [] s Q := Wp_step k273 f273_40 (Wp_step k273 f273_41 (h_1))
theorem b273_42 {X : (Nat → Int) × Nat} {d : Nat} {s : mSt} {Q : mQ} {x1 : Int} {x2 : Int} {x3 : Int} (h_1 : (s 417 4) ≤ x3 → Wp X d 273 114 [some (mR 407), some (mI x1), some (mI x2), some (mI x3), none] [] s Q) (h_2 : ¬ (s 417 4) ≤ x3 → Wp X d 273 52 [some (mR 407), some (mI x1), some (mI x2), some (mI x3), none] [] s Q) : Wp X d 273 42 [some (mR 407), some (mI x1), some (mI x2), some (mI x3), none] [] s Q := Wp_step k273 f273_42 (Wp_step k273 f273_43 (Wp_step k273 f273_44 ⟨kf_407, 417, rf_407_20, Wp_step k273 f273_47 (Wp_step k273 f273_48 ⟨166, af_417, ⟨by decide, by decide⟩, Wp_step k273 f273_49 ⟨h_1, h_2⟩⟩)⟩))
theorem b273_52 {X : (Nat → Int) × Nat} {d : Nat} {s : mSt} {Q : mQ} {x1 : Int} {x2 : Int} {x3 : Int} (h_1 : Sp X d 216 [mR 407, mI x3] s (fun r s' => ∃ v : Int, r = some (mI v) ∧ Wp X (d + 1) 273 57 [some (mR 407), some (mI x1), some (mI x2), some (mI x3), none] [mI v] s' Q)) : Wp X (d + 1) 273 52 [some (mR 407), some (mI x1), some (mI x2), some (mI x3), none] [] s Q := Wp_step k273 f273_52 (Wp_step k273 f273_53 (Wp_step k273 f273_54 ⟨⟨kf_407, Nat.le_of_ble_eq_true rfl⟩, Nat.le_refl _, _, rfl, Sp_E h_1⟩))
theorem b273_57 {X : (Nat → Int) × Nat} {d : Nat} {s : mSt} {Q : mQ} {x1 : Int} {x2 : Int} {x3 : Int} {xt0 : Int} (h_1 : xt0 = 0 → Wp X d 273 108 [some (mR 407), some (mI x1), some (mI x2), some (mI x3), none] [] s Q) (h_2 : ¬ xt0 = 0 → Wp X d 273 60 [some (mR 407), some (mI x1), some (mI x2), some (mI x3), none] [] s Q) : Wp X d 273 57 [some (mR 407), some (mI x1), some (mI x2), some (mI x3), none] [mI xt0] s Q := Wp_step k273 f273_57 ⟨h_1, h_2⟩
theorem b273_60 {X : (Nat → Int) × Nat} {d : Nat} {s : mSt} {Q : mQ} {x1 : Int} {x2 : Int} {x3 : Int} (h_1 : Sp X d 224 [mR 407, mI x3, mI x2] s (fun r s' => ∃ v : Int, r = some (mI v) ∧ Wp X (d + 1) 273 66 [some (mR 407), some (mI x1), some (mI x2), some (mI x3), none] [mI v] s' Q)) : Wp X (d + 1) 273 60 [some (mR 407), some (mI x1), some (mI x2), some (mI x3), none] [] s Q := Wp_step k273 f273_60 (Wp_step k273 f273_61 (Wp_step k273 f273_62 (Wp_step k273 f273_63 ⟨⟨kf_407, Nat.le_of_ble_eq_true rfl⟩, Nat.le_refl _, _, rfl, Sp_E h_1⟩)))
theorem b273_66 {X : (Nat → Int) × Nat} {d : Nat} {s : mSt} {Q : mQ} {x1 : Int} {x2 : Int} {x3 : Int} {xt0 : Int} (h_1 : xt0 = 0 → Wp X d 273 108 [some (mR 407), some (mI x1), some (mI x2), some (mI x3), none] [] s Q) (h_2 : ¬ xt0 = 0 → Wp X d 273 69 [some (mR 407), some (mI x1), some (mI x2), some (mI x3), none] [] s Q) : Wp X d 273 66 [some (mR 407), some (mI x1), some (mI x2), some (mI x3), none] [mI xt0] s Q := Wp_step k273 f273_66 ⟨h_1, h_2⟩
theorem b273_69 {X : (Nat → Int) × Nat} {d : Nat} {s : mSt} {Q : mQ} {x1 : Int} {x2 : Int} {x3 : Int} (h_1 : 0 ≤ x3 ∧ x3 < 6) (h_2 : 0 ≤ (s 427 x3.toNat) → Wp X d 273 81 [some (mR 407), some (mI x1), some (mI x2), some (mI x3), none] [] s Q) (h_3 : ¬ 0 ≤ (s 427 x3.toNat) → Wp X d 273 78 [some (mR 407), some (mI x1), some (mI x2), some (mI x3), none] [] s Q) : Wp X d 273 69 [some (mR 407), some (mI x1), some (mI x2), some (mI x3), none] [] s Q := Wp_step k273 f273_69 (Wp_step k273 f273_70 ⟨kf_407, 427, rf_407_41, Wp_step k273 f273_73 (Wp_step k273 f273_74 ⟨6, af_427, h_1, Wp_step k273 f273_75 ⟨h_2, h_3⟩⟩)⟩)
theorem b273_78 {X : (Nat → Int) × Nat} {d : Nat} {s : mSt} {Q : mQ} {x1 : Int} {x2 : Int} {x3 : Int} (h_1 : Wp X d 273 108 [some (mR 407), some (mI x1), some (mI x2), some (mI x3), none] [] s Q) : Wp X d 273 78 [some (mR 407), some (mI x1), some (mI x2), some (mI x3), none] [] s Q := Wp_step k273 f273_78 (h_1)
theorem b273_81 {X : (Nat → Int) × Nat} {d : Nat} {s : mSt} {Q : mQ} {x1 : Int} {x2 : Int} {x3 : Int} (h_1 : 0 ≤ x3 ∧ x3 < 6) (h_2 : 0 ≤ x3 ∧ x3 < 6) (h_3 : 0 ≤ x3 ∧ x3 < 6) (h_4 : 0 ≤ ((uS s 426 x3.toNat (s 427 x3.toNat)) 426 x3.toNat) ∧ ((uS s 426 x3.toNat (s 427 x3.toNat)) 426 x3.toNat) < 6) (h_5 : 0 ≤ ((uS s 426 x3.toNat (s 427 x3.toNat)) 426 x3.toNat) ∧ ((uS s 426 x3.toNat (s 427 x3.toNat)) 426 x3.toNat) < 6) (h_6 : Wp X d 273 108 [some (mR 407), some (mI x1), some (mI x2), some (mI x3), none] [] (uS (uS s 426 x3.toNat (s 427 x3.toNat)) 428 (((uS s 426 x3.toNat (s 427 x3.toNat)) 426 x3.toNat).toNat) (w32 (((uS s 426 x3.toNat (s 427 x3.toNat)) 428 ((uS s 426 x3.toNat (s 427 x3.toNat)) 426 x3.toNat).toNat) + 1))) Q) : Wp X d 273 81 [some (mR 407), some (mI x1), some (mI x2), some (mI x3), none] [] s Q := Wp_step k273 f273_81 (Wp_step k273 f273_82 ⟨kf_407, 426, rf_407_40, Wp_step k273 f273_85 (Wp_step k273 f273_86 (Wp_step k273 f273_87 ⟨kf_407, 427, rf_407_41, Wp_step k273 f273_90 (Wp_step k273 f273_91 ⟨6, af_427, h_1, Wp_step k273 f273_92 ⟨6, af_426, h_2, Wp_step k273 f273_93 (Wp_step k273 f273_94 ⟨kf_407, 428, rf_407_42, Wp_step k273 f273_97 (Wp_step k273 f273_98 ⟨kf_407, 426, rf_407_40, Wp_step k273 f273_101 (Wp_step k273 f273_102 ⟨6, af_426, h_3, Wp_step k273 f273_103 (Wp_step k273 f273_104 ⟨6, af_428, h_4, Wp_step k273 f273_105 (Wp_step k273 f273_106 (Wp_step k273 f273_107 ⟨6, af_428, h_5, h_6⟩))⟩)⟩)⟩)⟩)⟩⟩)⟩))⟩)
theorem b273_108 {X : (Nat → Int) × Nat} {d : Nat} {s : mSt} {Q : mQ} {x1 : Int} {x2 : Int} {x3 : Int} (h_1 : Wp X d 273 42 [some (mR 407), some (mI x1), some (mI x2), some (mI (w32 (x3 + 1))), none] [] s Q) : Wp X d 273 108 [some (mR 407), some (mI x1), some (mI x2), some (mI x3), none] [] s Q := Wp_step k273 f273_108 (Wp_step k273 f273_111 (h_1))
theorem b273_114 {X : (Nat → Int) × Nat} {d : Nat} {s : mSt} {Q : mQ} {x1 : Int} {x2 : Int} {x3 : Int} (h_1 : Wp X d 273 116 [some (mR 407), some (mI x1), some (mI x2), some (mI 0), none] [] s Q) : Wp X d 273 114 [some (mR 407), some (mI x1), some (mI x2), some (mI x3), none] [] s Q := Wp_step k273 f273_114 (Wp_step k273 f273_115 (h_1))
theorem b273_116 {X : (Nat → Int) × Nat} {d : Nat} {s : mSt} {Q : mQ} {x1 : Int} {x2 : Int} {x3 : Int} (h_1 : (s 417 4) ≤ x3 → Wp X d 273 200 [some (mR 407), some (mI x1), some (mI x2), some (mI x3), none] [] s Q) (h_2 : ¬ (s 417 4) ≤ x3 → Wp X d 273 126 [some (mR 407), some (mI x1), some (mI x2), some (mI x3), none] [] s Q) : Wp X d 273 116 [some (mR 407), some (mI x1), some (mI x2), some (mI x3), none] [] s Q := Wp_step k273 f273_116 (Wp_step k273 f273_117 (Wp_step k273 f273_118 ⟨kf_407, 417, rf_407_20, Wp_step k273 f273_121 (Wp_step k273 f273_122 ⟨166, af_417, ⟨by decide, by decide⟩, Wp_step k273 f273_123 ⟨h_1, h_2⟩⟩)⟩))
theorem b273_126 {X : (Nat → Int) × Nat} {d : Nat} {s : mSt} {Q : mQ} {x1 : Int} {x2 : Int} {x3 : Int} (h_1 : Sp X d 216 [mR 407, mI x3] s (fun r s' => ∃ v : Int, r = some (mI v) ∧ Wp X (d + 1) 273 131 [some (mR 407), some (mI x1), some (mI x2), some (mI x3), none] [mI v] s' Q)) : Wp X (d + 1) 273 126 [some (mR 407), some (mI x1), some (mI x2), some (mI x3), none] [] s Q := Wp_step k273 f273_126 (Wp_step k273 f273_127 (Wp_step k273 f273_128 ⟨⟨kf_407, Nat.le_of_ble_eq_true rfl⟩, Nat.le_refl _, _, rfl, Sp_E h_1⟩))
theorem b273_131 {X : (Nat → Int) × Nat} {d : Nat} {s : mSt} {Q : mQ} {x1 : Int} {x2 : Int} {x3 : Int} {xt0 : Int} (h_1 : xt0 = 0 → Wp X d 273 194 [some (mR 407), some (mI x1), some (mI x2), some (mI x3), none] [] s Q) (h_2 : ¬ xt0 = 0 → Wp X d 273 134 [some (mR 407), some (mI x1), some (mI x2), some (mI x3), none] [] s Q) : Wp X d 273 131 [some (mR 407), some (mI x1), some (mI x2), some (mI x3), none] [mI xt0] s Q := Wp_step k273 f273_131 ⟨h_1, h_2⟩
theorem b273_134 {X : (Nat → Int) × Nat} {d : Nat} {s : mSt} {Q : mQ} {x1 : Int} {x2 : Int} {x3 : Int} (h_1 : Sp X d 224 [mR 407, mI x3, mI x2] s (fun r s' => ∃ v : Int, r = some (mI v) ∧ Wp X (d + 1) 273 140 [some (mR 407), some (mI x1), some (mI x2), some (mI x3), none] [mI v] s' Q)) : Wp X (d + 1) 273 134 [some (mR 407), some (mI x1), some (mI x2), some (mI x3), none] [] s Q := Wp_step k273 f273_134 (Wp_step k273 f273_135 (Wp_step k273 f273_136 (Wp_step k273 f273_137 ⟨⟨kf_407, Nat.le_of_ble_eq_true rfl⟩, Nat.le_refl _, _, rfl, Sp_E h_1⟩)))
theorem b273_140 {X : (Nat → Int) × Nat} {d : Nat} {s : mSt} {Q : mQ} {x1 : Int} {x2 : Int} {x3 : Int} {xt0 : Int} (h_1 : xt0 = 0 → Wp X d 273 194 [some (mR 407), some (mI x1), some (mI x2), some (mI x3), none] [] s Q) (h_2 : ¬ xt0 = 0 → Wp X d 273 143 [some (mR 407), some (mI x1), some (mI x2), some (mI x3), none] [] s Q) : Wp X d 273 140 [some (mR 407), some (mI x1), some (mI x2), some (mI x3), none] [mI xt0] s Q := Wp_step k273 f273_140 ⟨h_1, h_2⟩
theorem b273_143 {X : (Nat → Int) × Nat} {d : Nat} {s : mSt} {Q : mQ} {x1 : Int} {x2 : Int} {x3 : Int} (h_1 : 0 ≤ x3 ∧ x3 < 6) (h_2 : (s 426 x3.toNat) < 0 → Wp X d 273 155 [some (mR 407), some (mI x1), some (mI x2), some (mI x3), none] [] s Q) (h_3 : ¬ (s 426 x3.toNat) < 0 → Wp X d 273 152 [some (mR 407), some (mI x1), some (mI x2), some (mI x3), none] [] s Q) : Wp X d 273 143 [some (mR 407), some (mI x1), some (mI x2), some (mI x3), none] [] s Q := Wp_step k273 f273_143 (Wp_step k273 f273_144 ⟨kf_407, 426, rf_407_40, Wp_step k273 f273_147 (Wp_step k273 f273_148 ⟨6, af_426, h_1, Wp_step k273 f273_149 ⟨h_2, h_3⟩⟩)⟩)
theorem b273_152 {X : (Nat → Int) × Nat} {d : Nat} {s : mSt} {Q : mQ} {x1 : Int} {x2 : Int} {x3 : Int} (h_1 : Wp X d 273 194 [some (mR 407), some (mI x1), some (mI x2), some (mI x3), none] [] s Q) : Wp X d 273 152 [some (mR 407), some (mI x1), some (mI x2), some (mI x3), none] [] s Q := Wp_step k273 f273_152 (h_1)
theorem b273_155 {X : (Nat → Int) × Nat} {d : Nat} {s : mSt} {Q : mQ} {x1 : Int} {x2 : Int} {x3 : Int} (h_1 : Wp X d 273 158 [some (mR 407), some (mI x1), some (mI x2), some (mI x3), some (mI 0)] [] s Q) : Wp X d 273 155 [some (mR 407), some (mI x1), some (mI x2), some (mI x3), none] [] s Q := Wp_step k273 f273_155 (Wp_step k273 f273_156 (h_1))
theorem b273_158 {X : (Nat → Int) × Nat} {d : Nat} {s : mSt} {Q : mQ} {x1 : Int} {x2 : Int} {x3 : Int} {x4 : Int} (h_1 : 0 ≤ x4 ∧ x4 < 6) (h_2 : (s 428 x4.toNat) < x1 → Wp X d 273 175 [some (mR 407), some (mI x1), some (mI x2), some (mI x3), some (mI x4)] [] s Q) (h_3 : ¬ (s 428 x4.toNat) < x1 → Wp X d 273 169 [some (mR 407), some (mI x1), some (mI x2), some (mI x3), some (mI x4)] [] s Q) : Wp X d 273 158 [some (mR 407), some (mI x1), some (mI x2), some (mI x3), some (mI x4)] [] s Q := Wp_step k273 f273_158 (Wp_step k273 f273_159 ⟨kf_407, 428, rf_407_42, Wp_step k273 f273_162 (Wp_step k273 f273_164 ⟨6, af_428, h_1, Wp_step k273 f273_165 (Wp_step k273 f273_166 ⟨h_2, h_3⟩)⟩)⟩)
theorem b273_169 {X : (Nat → Int) × Nat} {d : Nat} {s : mSt} {Q : mQ} {x1 : Int} {x2 : Int} {x3 : Int} {x4 : Int} (h_1 : Wp X d 273 158 [some (mR 407), some (mI x1), some (mI x2), some (mI x3), some (mI (w32 (x4 + 1)))] [] s Q) : Wp X d 273 169 [some (mR 407), some (mI x1), some (mI x2), some (mI x3), some (mI x4)] [] s Q := Wp_step k273 f273_169 (Wp_step k273 f273_172 (h_1))
theorem b273_175 {X : (Nat → Int) × Nat} {d : Nat} {s : mSt} {Q : mQ} {x1 : Int} {x2 : Int} {x3 : Int} {x4 : Int} (h_1 : 0 ≤ x3 ∧ x3 < 6) (h_2 : 0 ≤ x4 ∧ x4 < 6) (h_3 : 0 ≤ x4 ∧ x4 < 6) (h_4 : Wp X d 273 194 [some (mR 407), some (mI x1), some (mI x2), some (mI x3), some (mI x4)] [] (uS (uS s 426 x3.toNat x4) 428 x4.toNat (w32 (((uS s 426 x3.toNat x4) 428 x4.toNat) + 1))) Q) : Wp X d 273 175 [some (mR 407), some (mI x1), some (mI x2), some (mI x3), some (mI x4)] [] s Q := Wp_step k273 f273_175 (Wp_step k273 f273_176 ⟨kf_407, 426, rf_407_40, Wp_step k273 f273_179 (Wp_step k273 f273_180 (Wp_step k273 f273_182 ⟨6, af_426, h_1, Wp_step k273 f273_183 (Wp_step k273 f273_184 ⟨kf_407, 428, rf_407_42, Wp_step k273 f273_187 (Wp_step k273 f273_189 (Wp_step k273 f273_190 ⟨6, af_428, h_2, Wp_step k273 f273_191 (Wp_step k273 f273_192 (Wp_step k273 f273_193 ⟨6, af_428, h_3, h_4⟩))⟩))⟩)⟩))⟩)
theorem b273_194 {X : (Nat → Int) × Nat} {d : Nat} {s : mSt} {Q : mQ} {x1 : Int} {x2 : Int} {x3 : Int} (h_1 : Wp X d 273 116 [some (mR 407), some (mI x1), some (mI x2), some (mI (w32 (x3 + 1))), none] [] s Q) : Wp X d 273 194 [some (mR 407), some (mI x1), some (mI x2), some (mI x3), none] [] s Q := Wp_step k273 f273_194 (Wp_step k273 f273_197 (h_1))
theorem b273_200 {X : (Nat → Int) × Nat} {d : Nat} {s : mSt} {Q : mQ} {x1 : Int} {x2 : Int} {x3 : Int} (h_1 : Q none s) : Wp X d 273 200 [some (mR 407), some (mI x1), some (mI x2), some (mI x3), none] [] s Q := Wp_step k273 f273_200 ⟨⟨rfl, Or.inl rfl⟩, h_1⟩
theorem e273 {X : (Nat → Int) × Nat} {d : Nat} {s : mSt} {Q : mQ} {x1 : Int} {x2 : Int} (h : Wp X d 273 0 [some (mR 407), some (mI x1), some (mI x2), none, none] [] s Q) : Sp X d 273 [mR 407, mI x1, mI x2] s Q := Sp_of (show mCe 273 = 0 by decide +kernel) (by rw [show mML 273 = 5 by decide +kernel]; rfl) (Nat.le_trans (Nat.le_of_ble_eq_true (show Nat.ble (mArgs _).length 5 = true from rfl)) (show 5 ≤ mML 273 by decide +kernel)) h
