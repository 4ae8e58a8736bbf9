-- 301 ClashDayModel.extras(II)I
theorem k301 : mRk 301 = 1 := by decide +kernel
theorem f301_0 : mFetch 301 0 = some (.aload_n 0, 1, 0, 0, 0, 0) := by decide +kernel
theorem f301_1 : mFetch 301 1 = some (.iload_n 1, 1, 0, 0, 0, 0) := by decide +kernel
theorem f301_2 : mFetch 301 2 = some (.invokevirtual 315, 3, 214, 0, 2, 12) := by decide +kernel
theorem f301_5 : mFetch 301 5 = some (.ifCond .eq 13, 3, 18, 0, 0, 0) := by decide +kernel
theorem f301_8 : mFetch 301 8 = some (.iload_n 2, 1, 0, 0, 0, 0) := by decide +kernel
theorem f301_9 : mFetch 301 9 = some (.i2l, 1, 0, 0, 0, 0) := by decide +kernel
theorem f301_10 : mFetch 301 10 = some (.lconst 0, 1, 0, 0, 0, 0) := by decide +kernel
theorem f301_11 : mFetch 301 11 = some (.lconst 1, 1, 0, 0, 0, 0) := by decide +kernel
theorem f301_12 : mFetch 301 12 = some (.invokestatic 151, 3, 167, 0, 3, 99) := by decide +kernel
theorem f301_15 : mFetch 301 15 = some (.ifCond .ne 5, 3, 20, 0, 0, 0) := by decide +kernel
theorem f301_18 : mFetch 301 18 = some (.iconst (-1), 1, 0, 0, 0, 0) := by decide +kernel
theorem f301_19 : mFetch 301 19 = some (.ireturn, 1, 0, 0, 0, 0) := by decide +kernel
theorem f301_20 : mFetch 301 20 = some (.aload_n 0, 1, 0, 0, 0, 0) := by decide +kernel
theorem f301_21 : mFetch 301 21 = some (.bipush 123, 2, 0, 0, 0, 0) := by decide +kernel
theorem f301_23 : mFetch 301 23 = some (.iload_n 1, 1, 0, 0, 0, 0) := by decide +kernel
theorem f301_24 : mFetch 301 24 = some (.iadd, 1, 0, 0, 0, 0) := by decide +kernel
theorem f301_25 : mFetch 301 25 = some (.bipush 6, 2, 0, 0, 0, 0) := by decide +kernel
theorem f301_27 : mFetch 301 27 = some (.bipush 20, 2, 0, 0, 0, 0) := by decide +kernel
theorem f301_29 : mFetch 301 29 = some (.invokevirtual 551, 3, 300, 0, 4, 12) := by decide +kernel
theorem f301_32 : mFetch 301 32 = some (.istore_n 3, 1, 0, 0, 0, 0) := by decide +kernel
theorem f301_33 : mFetch 301 33 = some (.iload_n 2, 1, 0, 0, 0, 0) := by decide +kernel
theorem f301_34 : mFetch 301 34 = some (.ifCond .ne 8, 3, 42, 0, 0, 0) := by decide +kernel
theorem f301_37 : mFetch 301 37 = some (.iload_n 3, 1, 0, 0, 0, 0) := by decide +kernel
theorem f301_38 : mFetch 301 38 = some (.invokestatic 427, 3, 169, 0, 1, 99) := by decide +kernel
theorem f301_41 : mFetch 301 41 = some (.ireturn, 1, 0, 0, 0, 0) := by decide +kernel
theorem f301_42 : mFetch 301 42 = some (.iconst 0, 1, 0, 0, 0, 0) := by decide +kernel
theorem f301_43 : mFetch 301 43 = some (.istore 4, 2, 0, 0, 0, 0) := by decide +kernel
theorem f301_45 : mFetch 301 45 = some (.iload 4, 2, 0, 0, 0, 0) := by decide +kernel
theorem f301_47 : mFetch 301 47 = some (.bipush 6, 2, 0, 0, 0, 0) := by decide +kernel
theorem f301_49 : mFetch 301 49 = some (.if_icmp .ge 24, 3, 73, 0, 0, 0) := by decide +kernel
theorem f301_52 : mFetch 301 52 = some (.iload_n 3, 1, 0, 0, 0, 0) := by decide +kernel
theorem f301_53 : mFetch 301 53 = some (.iload 4, 2, 0, 0, 0, 0) := by decide +kernel
theorem f301_55 : mFetch 301 55 = some (.invokestatic 318, 3, 168, 0, 2, 99) := by decide +kernel
theorem f301_58 : mFetch 301 58 = some (.ifCond .eq 9, 3, 67, 0, 0, 0) := by decide +kernel
theorem f301_61 : mFetch 301 61 = some (.bipush 20, 2, 0, 0, 0, 0) := by decide +kernel
theorem f301_63 : mFetch 301 63 = some (.iload 4, 2, 0, 0, 0, 0) := by decide +kernel
theorem f301_65 : mFetch 301 65 = some (.imul, 1, 0, 0, 0, 0) := by decide +kernel
theorem f301_66 : mFetch 301 66 = some (.ireturn, 1, 0, 0, 0, 0) := by decide +kernel
theorem f301_67 : mFetch 301 67 = some (.iinc 4 1, 3, 0, 0, 0, 0) := by decide +kernel
theorem f301_70 : mFetch 301 70 = some (.goto (-25), 3, 45, 0, 0, 0) := by decide +kernel
theorem f301_73 : mFetch 301 73 = some (.bipush (-2), 2, 0, 0, 0, 0) := by decide +kernel
theorem f301_75 : mFetch 301 75 = some (.ireturn, 1, 0, 0, 0, 0) := by decide +kernel
theorem b301_0 {X : (Nat → Int) × Nat} {d : Nat} {s : mSt} {Q : mQ} {x1 : Int} {x2 : Int} {l3 : Option mV} {l4 : Option mV} (h_1 : Sp X d 214 [mR 407, mI x1] s (fun r s' => ∃ v : Int, r = some (mI v) ∧ Wp X (d + 1) 301 5 [some (mR 407), some (mI x1), some (mI x2), l3, l4] [mI v] s' Q)) : Wp X (d + 1) 301 0 [some (mR 407), some (mI x1), some (mI x2), l3, l4] [] s Q := Wp_step k301 f301_0 (Wp_step k301 f301_1 (Wp_step k301 f301_2 ⟨⟨kf_407, Nat.le_of_ble_eq_true rfl⟩, Nat.le_refl _, _, rfl, Sp_E h_1⟩))
theorem b301_5 {X : (Nat → Int) × Nat} {d : Nat} {s : mSt} {Q : mQ} {x1 : Int} {x2 : Int} {l3 : Option mV} {l4 : Option mV} {xt0 : Int} (h_1 : xt0 = 0 → Wp X d 301 18 [some (mR 407), some (mI x1), some (mI x2), l3, l4] [] s Q) (h_2 : ¬ xt0 = 0 → Wp X d 301 8 [some (mR 407), some (mI x1), some (mI x2), l3, l4] [] s Q) : Wp X d 301 5 [some (mR 407), some (mI x1), some (mI x2), l3, l4] [mI xt0] s Q := Wp_step k301 f301_5 ⟨h_1, h_2⟩
theorem b301_8 {X : (Nat → Int) × Nat} {d : Nat} {s : mSt} {Q : mQ} {x1 : Int} {x2 : Int} {l3 : Option mV} {l4 : Option mV} (h_1 : Sp X d 167 [mJ x2, mJ 0, mJ 1] s (fun r s' => ∃ v : Int, r = some (mI v) ∧ Wp X (d + 1) 301 15 [some (mR 407), some (mI x1), some (mI x2), l3, l4] [mI v] s' Q)) : Wp X (d + 1) 301 8 [some (mR 407), some (mI x1), some (mI x2), l3, l4] [] s Q := Wp_step k301 f301_8 (Wp_step k301 f301_9 (Wp_step k301 f301_10 (Wp_step k301 f301_11 (Wp_step k301 f301_12 ⟨⟨Nat.le_of_ble_eq_true rfl, Nat.le_refl _⟩, _, rfl, Sp_E h_1⟩))))
theorem b301_15 {X : (Nat → Int) × Nat} {d : Nat} {s : mSt} {Q : mQ} {x1 : Int} {x2 : Int} {l3 : Option mV} {l4 : Option mV} {xt0 : Int} (h_1 : ¬ xt0 = 0 → Wp X d 301 20 [some (mR 407), some (mI x1), some (mI x2), l3, l4] [] s Q) (h_2 : xt0 = 0 → Wp X d 301 18 [some (mR 407), some (mI x1), some (mI x2), l3, l4] [] s Q) : Wp X d 301 15 [some (mR 407), some (mI x1), some (mI x2), l3, l4] [mI xt0] s Q := Wp_step k301 f301_15 ⟨h_1, h_2⟩
theorem b301_18 {X : (Nat → Int) × Nat} {d : Nat} {s : mSt} {Q : mQ} {x1 : Int} {x2 : Int} {l3 : Option mV} {l4 : Option mV} (h_1 : Q (some (mI (-1))) s) : Wp X d 301 18 [some (mR 407), some (mI x1), some (mI x2), l3, l4] [] s Q := Wp_step k301 f301_18 (Wp_step k301 f301_19 ⟨⟨rfl, trivial⟩, h_1⟩)
theorem b301_20 {X : (Nat → Int) × Nat} {d : Nat} {s : mSt} {Q : mQ} {x1 : Int} {x2 : Int} {l3 : Option mV} {l4 : Option mV} (h_1 : Sp X d 300 [mR 407, mI (w32 (123 + x1)), mI 6, mI 20] s (fun r s' => ∃ v : Int, r = some (mI v) ∧ Wp X (d + 1) 301 32 [some (mR 407), some (mI x1), some (mI x2), l3, l4] [mI v] s' Q)) : Wp X (d + 1) 301 20 [some (mR 407), some (mI x1), some (mI x2), l3, l4] [] s Q := Wp_step k301 f301_20 (Wp_step k301 f301_21 (Wp_step k301 f301_23 (Wp_step k301 f301_24 (Wp_step k301 f301_25 (Wp_step k301 f301_27 (Wp_step k301 f301_29 ⟨⟨kf_407, Nat.le_of_ble_eq_true rfl⟩, Nat.le_refl _, _, rfl, Sp_E h_1⟩))))))
theorem b301_32 {X : (Nat → Int) × Nat} {d : Nat} {s : mSt} {Q : mQ} {x1 : Int} {x2 : Int} {l3 : Option mV} {l4 : Option mV} {xt0 : Int} (h_1 : ¬ x2 = 0 → Wp X d 301 42 [some (mR 407), some (mI x1), some (mI x2), some (mI xt0), l4] [] s Q) (h_2 : x2 = 0 → Wp X d 301 37 [some (mR 407), some (mI x1), some (mI x2), some (mI xt0), l4] [] s Q) : Wp X d 301 32 [some (mR 407), some (mI x1), some (mI x2), l3, l4] [mI xt0] s Q := Wp_step k301 f301_32 (Wp_step k301 f301_33 (Wp_step k301 f301_34 ⟨h_1, h_2⟩))
theorem b301_37 {X : (Nat → Int) × Nat} {d : Nat} {s : mSt} {Q : mQ} {x1 : Int} {x2 : Int} {x3 : Int} {l4 : Option mV} (h_1 : Sp X d 169 [mI x3] s (fun r s' => ∃ v : Int, r = some (mI v) ∧ Wp X (d + 1) 301 41 [some (mR 407), some (mI x1), some (mI x2), some (mI x3), l4] [mI v] s' Q)) : Wp X (d + 1) 301 37 [some (mR 407), some (mI x1), some (mI x2), some (mI x3), l4] [] s Q := Wp_step k301 f301_37 (Wp_step k301 f301_38 ⟨⟨Nat.le_of_ble_eq_true rfl, Nat.le_refl _⟩, _, rfl, Sp_E h_1⟩)
theorem b301_41 {X : (Nat → Int) × Nat} {d : Nat} {s : mSt} {Q : mQ} {x1 : Int} {x2 : Int} {x3 : Int} {l4 : Option mV} {xt0 : Int} (h_1 : Q (some (mI xt0)) s) : Wp X d 301 41 [some (mR 407), some (mI x1), some (mI x2), some (mI x3), l4] [mI xt0] s Q := Wp_step k301 f301_41 ⟨⟨rfl, trivial⟩, h_1⟩
theorem b301_42 {X : (Nat → Int) × Nat} {d : Nat} {s : mSt} {Q : mQ} {x1 : Int} {x2 : Int} {x3 : Int} {l4 : Option mV} (h_1 : Wp X d 301 45 [some (mR 407), some (mI x1), some (mI x2), some (mI x3), some (mI 0)] [] s Q) : Wp X d 301 42 [some (mR 407), some (mI x1), some (mI x2), some (mI x3), l4] [] s Q := Wp_step k301 f301_42 (Wp_step k301 f301_43 (h_1))
theorem b301_45 {X : (Nat → Int) × Nat} {d : Nat} {s : mSt} {Q : mQ} {x1 : Int} {x2 : Int} {x3 : Int} {x4 : Int} (h_1 : 6 ≤ x4 → Wp X d 301 73 [some (mR 407), some (mI x1), some (mI x2), some (mI x3), some (mI x4)] [] s Q) (h_2 : ¬ 6 ≤ x4 → Wp X d 301 52 [some (mR 407), some (mI x1), some (mI x2), some (mI x3), some (mI x4)] [] s Q) : Wp X d 301 45 [some (mR 407), some (mI x1), some (mI x2), some (mI x3), some (mI x4)] [] s Q := Wp_step k301 f301_45 (Wp_step k301 f301_47 (Wp_step k301 f301_49 ⟨h_1, h_2⟩))
theorem b301_52 {X : (Nat → Int) × Nat} {d : Nat} {s : mSt} {Q : mQ} {x1 : Int} {x2 : Int} {x3 : Int} {x4 : Int} (h_1 : Sp X d 168 [mI x3, mI x4] s (fun r s' => ∃ v : Int, r = some (mI v) ∧ Wp X (d + 1) 301 58 [some (mR 407), some (mI x1), some (mI x2), some (mI x3), some (mI x4)] [mI v] s' Q)) : Wp X (d + 1) 301 52 [some (mR 407), some (mI x1), some (mI x2), some (mI x3), some (mI x4)] [] s Q := Wp_step k301 f301_52 (Wp_step k301 f301_53 (Wp_step k301 f301_55 ⟨⟨Nat.le_of_ble_eq_true rfl, Nat.le_refl _⟩, _, rfl, Sp_E h_1⟩))
theorem b301_58 {X : (Nat → Int) × Nat} {d : Nat} {s : mSt} {Q : mQ} {x1 : Int} {x2 : Int} {x3 : Int} {x4 : Int} {xt0 : Int} (h_1 : xt0 = 0 → Wp X d 301 67 [some (mR 407), some (mI x1), some (mI x2), some (mI x3), some (mI x4)] [] s Q) (h_2 : ¬ xt0 = 0 → Wp X d 301 61 [some (mR 407), some (mI x1), some (mI x2), some (mI x3), some (mI x4)] [] s Q) : Wp X d 301 58 [some (mR 407), some (mI x1), some (mI x2), some (mI x3), some (mI x4)] [mI xt0] s Q := Wp_step k301 f301_58 ⟨h_1, h_2⟩
theorem b301_61 {X : (Nat → Int) × Nat} {d : Nat} {s : mSt} {Q : mQ} {x1 : Int} {x2 : Int} {x3 : Int} {x4 : Int} (h_1 : Q (some (mI (w32 (20 * x4)))) s) : Wp X d 301 61 [some (mR 407), some (mI x1), some (mI x2), some (mI x3), some (mI x4)] [] s Q := Wp_step k301 f301_61 (Wp_step k301 f301_63 (Wp_step k301 f301_65 (Wp_step k301 f301_66 ⟨⟨rfl, trivial⟩, h_1⟩)))
theorem b301_67 {X : (Nat → Int) × Nat} {d : Nat} {s : mSt} {Q : mQ} {x1 : Int} {x2 : Int} {x3 : Int} {x4 : Int} (h_1 : Wp X d 301 45 [some (mR 407), some (mI x1), some (mI x2), some (mI x3), some (mI (w32 (x4 + 1)))] [] s Q) : Wp X d 301 67 [some (mR 407), some (mI x1), some (mI x2), some (mI x3), some (mI x4)] [] s Q := Wp_step k301 f301_67 (Wp_step k301 f301_70 (h_1))
theorem b301_73 {X : (Nat → Int) × Nat} {d : Nat} {s : mSt} {Q : mQ} {x1 : Int} {x2 : Int} {x3 : Int} {x4 : Int} (h_1 : Q (some (mI (-2))) s) : Wp X d 301 73 [some (mR 407), some (mI x1), some (mI x2), some (mI x3), some (mI x4)] [] s Q := Wp_step k301 f301_73 (Wp_step k301 f301_75 ⟨⟨rfl, trivial⟩, h_1⟩)
theorem e301 {X : (Nat → Int) × Nat} {d : Nat} {s : mSt} {Q : mQ} {x1 : Int} {x2 : Int} (h : Wp X d 301 0 [some (mR 407), some (mI x1), some (mI x2), none, none] [] s Q) : Sp X d 301 [mR 407, mI x1, mI x2] s Q := Sp_of (show mCe 301 = 0 by decide +kernel) (by rw [show mML 301 = 5 by decide +kernel]; rfl) (Nat.le_trans (Nat.le_of_ble_eq_true (show Nat.ble (mArgs _).length 5 = true from rfl)) (show 5 ≤ mML 301 by decide +kernel)) h
-- 302 ClashDayModel.resting(I)I
theorem k302 : mRk 302 = 1 := by decide +kernel
theorem f302_0 : mFetch 302 0 = some (.aload_n 0, 1, 0, 0, 0, 0) := by decide +kernel
theorem f302_1 : mFetch 302 1 = some (.iload_n 1, 1, 0, 0, 0, 0) := by decide +kernel
theorem f302_2 : mFetch 302 2 = some (.invokevirtual 315, 3, 214, 0, 2, 12) := by decide +kernel
theorem f302_5 : mFetch 302 5 = some (.ifCond .eq 17, 3, 22, 0, 0, 0) := by decide +kernel
theorem f302_8 : mFetch 302 8 = some (.aload_n 0, 1, 0, 0, 0, 0) := by decide +kernel
theorem f302_9 : mFetch 302 9 = some (.sipush 129, 3, 0, 0, 0, 0) := by decide +kernel
theorem f302_12 : mFetch 302 12 = some (.iload_n 1, 1, 0, 0, 0, 0) := by decide +kernel
theorem f302_13 : mFetch 302 13 = some (.iadd, 1, 0, 0, 0, 0) := by decide +kernel
theorem f302_14 : mFetch 302 14 = some (.iconst 4, 1, 0, 0, 0, 0) := by decide +kernel
theorem f302_15 : mFetch 302 15 = some (.iconst 1, 1, 0, 0, 0, 0) := by decide +kernel
theorem f302_16 : mFetch 302 16 = some (.invokevirtual 551, 3, 300, 0, 4, 12) := by decide +kernel
theorem f302_19 : mFetch 302 19 = some (.goto 4, 3, 23, 0, 0, 0) := by decide +kernel
theorem f302_22 : mFetch 302 22 = some (.iconst (-1), 1, 0, 0, 0, 0) := by decide +kernel
theorem f302_23 : mFetch 302 23 = some (.ireturn, 1, 0, 0, 0, 0) := by decide +kernel
theorem b302_0 {X : (Nat → Int) × Nat} {d : Nat} {s : mSt} {Q : mQ} {x1 : Int} (h_1 : Sp X d 214 [mR 407, mI x1] s (fun r s' => ∃ v : Int, r = some (mI v) ∧ Wp X (d + 1) 302 5 [some (mR 407), some (mI x1)] [mI v] s' Q)) : Wp X (d + 1) 302 0 [some (mR 407), some (mI x1)] [] s Q := Wp_step k302 f302_0 (Wp_step k302 f302_1 (Wp_step k302 f302_2 ⟨⟨kf_407, Nat.le_of_ble_eq_true rfl⟩, Nat.le_refl _, _, rfl, Sp_E h_1⟩))
theorem b302_5 {X : (Nat → Int) × Nat} {d : Nat} {s : mSt} {Q : mQ} {x1 : Int} {xt0 : Int} (h_1 : xt0 = 0 → Wp X d 302 22 [some (mR 407), some (mI x1)] [] s Q) (h_2 : ¬ xt0 = 0 → Wp X d 302 8 [some (mR 407), some (mI x1)] [] s Q) : Wp X d 302 5 [some (mR 407), some (mI x1)] [mI xt0] s Q := Wp_step k302 f302_5 ⟨h_1, h_2⟩
theorem b302_8 {X : (Nat → Int) × Nat} {d : Nat} {s : mSt} {Q : mQ} {x1 : Int} (h_1 : Sp X d 300 [mR 407, mI (w32 (129 + x1)), mI 4, mI 1] s (fun r s' => ∃ v : Int, r = some (mI v) ∧ Wp X (d + 1) 302 19 [some (mR 407), some (mI x1)] [mI v] s' Q)) : Wp X (d + 1) 302 8 [some (mR 407), some (mI x1)] [] s Q := Wp_step k302 f302_8 (Wp_step k302 f302_9 (Wp_step k302 f302_12 (Wp_step k302 f302_13 (Wp_step k302 f302_14 (Wp_step k302 f302_15 (Wp_step k302 f302_16 ⟨⟨kf_407, Nat.le_of_ble_eq_true rfl⟩, Nat.le_refl _, _, rfl, Sp_E h_1⟩))))))
theorem b302_19 {X : (Nat → Int) × Nat} {d : Nat} {s : mSt} {Q : mQ} {x1 : Int} {xt0 : Int} (h_1 : Wp X d 302 23 [some (mR 407), some (mI x1)] [mI xt0] s Q) : Wp X d 302 19 [some (mR 407), some (mI x1)] [mI xt0] s Q := Wp_step k302 f302_19 (h_1)
theorem b302_22 {X : (Nat → Int) × Nat} {d : Nat} {s : mSt} {Q : mQ} {x1 : Int} (h_1 : Wp X d 302 23 [some (mR 407), some (mI x1)] [mI (-1)] s Q) : Wp X d 302 22 [some (mR 407), some (mI x1)] [] s Q := Wp_step k302 f302_22 (h_1)
theorem b302_23 {X : (Nat → Int) × Nat} {d : Nat} {s : mSt} {Q : mQ} {x1 : Int} {xt0 : Int} (h_1 : Q (some (mI xt0)) s) : Wp X d 302 23 [some (mR 407), some (mI x1)] [mI xt0] s Q := Wp_step k302 f302_23 ⟨⟨rfl, trivial⟩, h_1⟩
theorem e302 {X : (Nat → Int) × Nat} {d : Nat} {s : mSt} {Q : mQ} {x1 : Int} (h : Wp X d 302 0 [some (mR 407), some (mI x1)] [] s Q) : Sp X d 302 [mR 407, mI x1] s Q := Sp_of (show mCe 302 = 0 by decide +kernel) (by rw [show mML 302 = 2 by decide +kernel]; rfl) (Nat.le_trans (Nat.le_of_ble_eq_true (show Nat.ble (mArgs _).length 2 = true from rfl)) (show 2 ≤ mML 302 by decide +kernel)) h
-- 303 ClashDayModel.seed(I)I
theorem k303 : mRk 303 = 1 := by decide +kernel
theorem f303_0 : mFetch 303 0 = some (.iload_n 1, 1, 0, 0, 0, 0) := by decide +kernel
theorem f303_1 : mFetch 303 1 = some (.ifCond .ge 5, 3, 6, 0, 0, 0) := by decide +kernel
theorem f303_4 : mFetch 303 4 = some (.iconst (-1), 1, 0, 0, 0, 0) := by decide +kernel
theorem f303_5 : mFetch 303 5 = some (.ireturn, 1, 0, 0, 0, 0) := by decide +kernel
theorem f303_6 : mFetch 303 6 = some (.aload_n 0, 1, 0, 0, 0, 0) := by decide +kernel
theorem f303_7 : mFetch 303 7 = some (.getfield 555, 3, 12, 22, 0, 1) := by decide +kernel
theorem f303_10 : mFetch 303 10 = some (.istore_n 2, 1, 0, 0, 0, 0) := by decide +kernel
theorem f303_11 : mFetch 303 11 = some (.aload_n 0, 1, 0, 0, 0, 0) := by decide +kernel
theorem f303_12 : mFetch 303 12 = some (.iload_n 1, 1, 0, 0, 0, 0) := by decide +kernel
theorem f303_13 : mFetch 303 13 = some (.putfield 555, 3, 12, 22, 0, 1) := by decide +kernel
theorem f303_16 : mFetch 303 16 = some (.iload_n 2, 1, 0, 0, 0, 0) := by decide +kernel
theorem f303_17 : mFetch 303 17 = some (.ireturn, 1, 0, 0, 0, 0) := by decide +kernel
theorem b303_0 {X : (Nat → Int) × Nat} {d : Nat} {s : mSt} {Q : mQ} {x1 : Int} {l2 : Option mV} (h_1 : 0 ≤ x1 → Wp X d 303 6 [some (mR 407), some (mI x1), l2] [] s Q) (h_2 : ¬ 0 ≤ x1 → Wp X d 303 4 [some (mR 407), some (mI x1), l2] [] s Q) : Wp X d 303 0 [some (mR 407), some (mI x1), l2] [] s Q := Wp_step k303 f303_0 (Wp_step k303 f303_1 ⟨h_1, h_2⟩)
theorem b303_4 {X : (Nat → Int) × Nat} {d : Nat} {s : mSt} {Q : mQ} {x1 : Int} {l2 : Option mV} (h_1 : Q (some (mI (-1))) s) : Wp X d 303 4 [some (mR 407), some (mI x1), l2] [] s Q := Wp_step k303 f303_4 (Wp_step k303 f303_5 ⟨⟨rfl, trivial⟩, h_1⟩)
theorem b303_6 {X : (Nat → Int) × Nat} {d : Nat} {s : mSt} {Q : mQ} {x1 : Int} {l2 : Option mV} (h_1 : Q (some (mI (s 407 22))) (uS s 407 22 x1)) : Wp X d 303 6 [some (mR 407), some (mI x1), l2] [] s Q := Wp_step k303 f303_6 (Wp_step k303 f303_7 ⟨kf_407, Wp_step k303 f303_10 (Wp_step k303 f303_11 (Wp_step k303 f303_12 (Wp_step k303 f303_13 ⟨kf_407, Wp_step k303 f303_16 (Wp_step k303 f303_17 ⟨⟨rfl, trivial⟩, h_1⟩)⟩)))⟩)
theorem e303 {X : (Nat → Int) × Nat} {d : Nat} {s : mSt} {Q : mQ} {x1 : Int} (h : Wp X d 303 0 [some (mR 407), some (mI x1), none] [] s Q) : Sp X d 303 [mR 407, mI x1] s Q := Sp_of (show mCe 303 = 0 by decide +kernel) (by rw [show mML 303 = 3 by decide +kernel]; rfl) (Nat.le_trans (Nat.le_of_ble_eq_true (show Nat.ble (mArgs _).length 3 = true from rfl)) (show 3 ≤ mML 303 by decide +kernel)) h
-- 304 ClashDayModel.draw(I)I
theorem k304 : mRk 304 = 1 := by decide +kernel
theorem f304_0 : mFetch 304 0 = some (.aload_n 0, 1, 0, 0, 0, 0) := by decide +kernel
theorem f304_1 : mFetch 304 1 = some (.aload_n 0, 1, 0, 0, 0, 0) := by decide +kernel
theorem f304_2 : mFetch 304 2 = some (.getfield 558, 3, 12, 53, 1, 1) := by decide +kernel
theorem f304_5 : mFetch 304 5 = some (.ldc2_w 562, 3, 1103515245, 0, 0, 0) := by decide +kernel
theorem f304_8 : mFetch 304 8 = some (.lmul, 1, 0, 0, 0, 0) := by decide +kernel
theorem f304_9 : mFetch 304 9 = some (.ldc2_w 564, 3, 12345, 0, 0, 0) := by decide +kernel
theorem f304_12 : mFetch 304 12 = some (.ladd, 1, 0, 0, 0, 0) := by decide +kernel
theorem f304_13 : mFetch 304 13 = some (.ldc2_w 566, 3, 2147483648, 0, 0, 0) := by decide +kernel
theorem f304_16 : mFetch 304 16 = some (.lrem, 1, 0, 0, 0, 0) := by decide +kernel
theorem f304_17 : mFetch 304 17 = some (.putfield 558, 3, 12, 53, 1, 1) := by decide +kernel
theorem f304_20 : mFetch 304 20 = some (.aload_n 0, 1, 0, 0, 0, 0) := by decide +kernel
theorem f304_21 : mFetch 304 21 = some (.getfield 558, 3, 12, 53, 1, 1) := by decide +kernel
theorem f304_24 : mFetch 304 24 = some (.ldc2_w 568, 3, 65536, 0, 0, 0) := by decide +kernel
theorem f304_27 : mFetch 304 27 = some (.ldiv, 1, 0, 0, 0, 0) := by decide +kernel
theorem f304_28 : mFetch 304 28 = some (.iload_n 1, 1, 0, 0, 0, 0) := by decide +kernel
theorem f304_29 : mFetch 304 29 = some (.i2l, 1, 0, 0, 0, 0) := by decide +kernel
theorem f304_30 : mFetch 304 30 = some (.lrem, 1, 0, 0, 0, 0) := by decide +kernel
theorem f304_31 : mFetch 304 31 = some (.l2i, 1, 0, 0, 0, 0) := by decide +kernel
theorem f304_32 : mFetch 304 32 = some (.ireturn, 1, 0, 0, 0, 0) := by decide +kernel
theorem b304_0 {X : (Nat → Int) × Nat} {d : Nat} {s : mSt} {Q : mQ} {x1 : Int} (h_1 : x1 ≠ 0) (h_2 : Q (some (mI (w32 (Int.tmod (w64 (Int.tdiv ((uS s 407 53 (Int.tmod (w64 ((w64 ((s 407 53) * 1103515245)) + 12345)) 2147483648)) 407 53) 65536)) x1)))) (uS s 407 53 (Int.tmod (w64 ((w64 ((s 407 53) * 1103515245)) + 12345)) 2147483648))) : Wp X d 304 0 [some (mR 407), some (mI x1)] [] s Q := Wp_step k304 f304_0 (Wp_step k304 f304_1 (Wp_step k304 f304_2 ⟨kf_407, Wp_step k304 f304_5 (Wp_step k304 f304_8 (Wp_step k304 f304_9 (Wp_step k304 f304_12 (Wp_step k304 f304_13 (Wp_step k304 f304_16 ⟨(by decide), Wp_step k304 f304_17 ⟨kf_407, Wp_step k304 f304_20 (Wp_step k304 f304_21 ⟨kf_407, Wp_step k304 f304_24 (Wp_step k304 f304_27 ⟨(by decide), Wp_step k304 f304_28 (Wp_step k304 f304_29 (Wp_step k304 f304_30 ⟨h_1, Wp_step k304 f304_31 (Wp_step k304 f304_32 ⟨⟨rfl, trivial⟩, h_2⟩)⟩))⟩)⟩)⟩⟩)))))⟩))
theorem e304 {X : (Nat → Int) × Nat} {d : Nat} {s : mSt} {Q : mQ} {x1 : Int} (h : Wp X d 304 0 [some (mR 407), some (mI x1)] [] s Q) : Sp X d 304 [mR 407, mI x1] s Q := Sp_of (show mCe 304 = 0 by decide +kernel) (by rw [show mML 304 = 2 by decide +kernel]; rfl) (Nat.le_trans (Nat.le_of_ble_eq_true (show Nat.ble (mArgs _).length 2 = true from rfl)) (show 2 ≤ mML 304 by decide +kernel)) h
-- 305 ClashDayModel.ill(IIII)I
theorem k305 : mRk 305 = 1 := by decide +kernel
theorem f305_0 : mFetch 305 0 = some (.aload_n 0, 1, 0, 0, 0, 0) := by decide +kernel
theorem f305_1 : mFetch 305 1 = some (.invokevirtual 354, 3, 212, 0, 1, 12) := by decide +kernel
theorem f305_4 : mFetch 305 4 = some (.ifCond .eq 50, 3, 54, 0, 0, 0) := by decide +kernel
theorem f305_7 : mFetch 305 7 = some (.iload_n 1, 1, 0, 0, 0, 0) := by decide +kernel
theorem f305_8 : mFetch 305 8 = some (.i2l, 1, 0, 0, 0, 0) := by decide +kernel
theorem f305_9 : mFetch 305 9 = some (.lconst 1, 1, 0, 0, 0, 0) := by decide +kernel
theorem f305_10 : mFetch 305 10 = some (.ldc2_w 500, 3, 5, 0, 0, 0) := by decide +kernel
theorem f305_13 : mFetch 305 13 = some (.invokestatic 151, 3, 167, 0, 3, 99) := by decide +kernel
theorem f305_16 : mFetch 305 16 = some (.ifCond .eq 38, 3, 54, 0, 0, 0) := by decide +kernel
theorem f305_19 : mFetch 305 19 = some (.iload_n 2, 1, 0, 0, 0, 0) := by decide +kernel
theorem f305_20 : mFetch 305 20 = some (.i2l, 1, 0, 0, 0, 0) := by decide +kernel
theorem f305_21 : mFetch 305 21 = some (.lconst 1, 1, 0, 0, 0, 0) := by decide +kernel
theorem f305_22 : mFetch 305 22 = some (.ldc2_w 461, 3, 9, 0, 0, 0) := by decide +kernel
theorem f305_25 : mFetch 305 25 = some (.invokestatic 151, 3, 167, 0, 3, 99) := by decide +kernel
theorem f305_28 : mFetch 305 28 = some (.ifCond .eq 26, 3, 54, 0, 0, 0) := by decide +kernel
theorem f305_31 : mFetch 305 31 = some (.iload_n 3, 1, 0, 0, 0, 0) := by decide +kernel
theorem f305_32 : mFetch 305 32 = some (.i2l, 1, 0, 0, 0, 0) := by decide +kernel
theorem f305_33 : mFetch 305 33 = some (.lconst 0, 1, 0, 0, 0, 0) := by decide +kernel
theorem f305_34 : mFetch 305 34 = some (.ldc2_w 570, 3, 100, 0, 0, 0) := by decide +kernel
theorem f305_37 : mFetch 305 37 = some (.invokestatic 151, 3, 167, 0, 3, 99) := by decide +kernel
theorem f305_40 : mFetch 305 40 = some (.ifCond .eq 14, 3, 54, 0, 0, 0) := by decide +kernel
theorem f305_43 : mFetch 305 43 = some (.iload 4, 2, 0, 0, 0, 0) := by decide +kernel
theorem f305_45 : mFetch 305 45 = some (.i2l, 1, 0, 0, 0, 0) := by decide +kernel
theorem f305_46 : mFetch 305 46 = some (.lconst 0, 1, 0, 0, 0, 0) := by decide +kernel
theorem f305_47 : mFetch 305 47 = some (.lconst 1, 1, 0, 0, 0, 0) := by decide +kernel
theorem f305_48 : mFetch 305 48 = some (.invokestatic 151, 3, 167, 0, 3, 99) := by decide +kernel
theorem f305_51 : mFetch 305 51 = some (.ifCond .ne 5, 3, 56, 0, 0, 0) := by decide +kernel
theorem f305_54 : mFetch 305 54 = some (.iconst (-1), 1, 0, 0, 0, 0) := by decide +kernel
theorem f305_55 : mFetch 305 55 = some (.ireturn, 1, 0, 0, 0, 0) := by decide +kernel
theorem f305_56 : mFetch 305 56 = some (.aload_n 0, 1, 0, 0, 0, 0) := by decide +kernel
theorem f305_57 : mFetch 305 57 = some (.aload_n 0, 1, 0, 0, 0, 0) := by decide +kernel
theorem f305_58 : mFetch 305 58 = some (.getfield 555, 3, 12, 22, 0, 1) := by decide +kernel
theorem f305_61 : mFetch 305 61 = some (.i2l, 1, 0, 0, 0, 0) := by decide +kernel
theorem f305_62 : mFetch 305 62 = some (.putfield 558, 3, 12, 53, 1, 1) := by decide +kernel
theorem f305_65 : mFetch 305 65 = some (.iconst 0, 1, 0, 0, 0, 0) := by decide +kernel
theorem f305_66 : mFetch 305 66 = some (.istore 5, 2, 0, 0, 0, 0) := by decide +kernel
theorem f305_68 : mFetch 305 68 = some (.iconst 0, 1, 0, 0, 0, 0) := by decide +kernel
theorem f305_69 : mFetch 305 69 = some (.istore 6, 2, 0, 0, 0, 0) := by decide +kernel
theorem f305_71 : mFetch 305 71 = some (.aload_n 0, 1, 0, 0, 0, 0) := by decide +kernel
theorem f305_72 : mFetch 305 72 = some (.invokevirtual 502, 3, 277, 0, 1, 12) := by decide +kernel
theorem f305_75 : mFetch 305 75 = some (.iconst 0, 1, 0, 0, 0, 0) := by decide +kernel
theorem f305_76 : mFetch 305 76 = some (.istore 7, 2, 0, 0, 0, 0) := by decide +kernel
theorem f305_78 : mFetch 305 78 = some (.iload 7, 2, 0, 0, 0, 0) := by decide +kernel
theorem f305_80 : mFetch 305 80 = some (.iload_n 1, 1, 0, 0, 0, 0) := by decide +kernel
theorem f305_81 : mFetch 305 81 = some (.if_icmp .ge 84, 3, 165, 0, 0, 0) := by decide +kernel
theorem f305_84 : mFetch 305 84 = some (.iconst 0, 1, 0, 0, 0, 0) := by decide +kernel
theorem f305_85 : mFetch 305 85 = some (.istore 8, 2, 0, 0, 0, 0) := by decide +kernel
theorem f305_87 : mFetch 305 87 = some (.iload 8, 2, 0, 0, 0, 0) := by decide +kernel
theorem f305_89 : mFetch 305 89 = some (.iload_n 2, 1, 0, 0, 0, 0) := by decide +kernel
theorem f305_90 : mFetch 305 90 = some (.if_icmp .ge 47, 3, 137, 0, 0, 0) := by decide +kernel
theorem f305_93 : mFetch 305 93 = some (.aload_n 0, 1, 0, 0, 0, 0) := by decide +kernel
theorem f305_94 : mFetch 305 94 = some (.bipush 100, 2, 0, 0, 0, 0) := by decide +kernel
theorem f305_96 : mFetch 305 96 = some (.invokevirtual 572, 3, 304, 0, 2, 12) := by decide +kernel
theorem f305_99 : mFetch 305 99 = some (.iload_n 3, 1, 0, 0, 0, 0) := by decide +kernel
theorem f305_100 : mFetch 305 100 = some (.if_icmp .ge 26, 3, 126, 0, 0, 0) := by decide +kernel
theorem f305_103 : mFetch 305 103 = some (.aload_n 0, 1, 0, 0, 0, 0) := by decide +kernel
theorem f305_104 : mFetch 305 104 = some (.getfield 39, 3, 12, 20, 2, 1) := by decide +kernel
theorem f305_107 : mFetch 305 107 = some (.iconst 4, 1, 0, 0, 0, 0) := by decide +kernel
theorem f305_108 : mFetch 305 108 = some (.iaload, 1, 0, 0, 0, 0) := by decide +kernel
theorem f305_109 : mFetch 305 109 = some (.ifCond .le 17, 3, 126, 0, 0, 0) := by decide +kernel
theorem f305_112 : mFetch 305 112 = some (.aload_n 0, 1, 0, 0, 0, 0) := by decide +kernel
theorem f305_113 : mFetch 305 113 = some (.aload_n 0, 1, 0, 0, 0, 0) := by decide +kernel
theorem f305_114 : mFetch 305 114 = some (.aload_n 0, 1, 0, 0, 0, 0) := by decide +kernel
theorem f305_115 : mFetch 305 115 = some (.getfield 39, 3, 12, 20, 2, 1) := by decide +kernel
theorem f305_118 : mFetch 305 118 = some (.iconst 4, 1, 0, 0, 0, 0) := by decide +kernel
theorem f305_119 : mFetch 305 119 = some (.iaload, 1, 0, 0, 0, 0) := by decide +kernel
theorem f305_120 : mFetch 305 120 = some (.invokevirtual 572, 3, 304, 0, 2, 12) := by decide +kernel
theorem f305_123 : mFetch 305 123 = some (.invokevirtual 458, 3, 246, 0, 2, 12) := by decide +kernel
theorem f305_126 : mFetch 305 126 = some (.aload_n 0, 1, 0, 0, 0, 0) := by decide +kernel
theorem f305_127 : mFetch 305 127 = some (.invokevirtual 452, 3, 251, 0, 1, 12) := by decide +kernel
theorem f305_130 : mFetch 305 130 = some (.pop, 1, 0, 0, 0, 0) := by decide +kernel
theorem f305_131 : mFetch 305 131 = some (.iinc 8 1, 3, 0, 0, 0, 0) := by decide +kernel
theorem f305_134 : mFetch 305 134 = some (.goto (-47), 3, 87, 0, 0, 0) := by decide +kernel
theorem f305_137 : mFetch 305 137 = some (.iload 5, 2, 0, 0, 0, 0) := by decide +kernel
theorem f305_139 : mFetch 305 139 = some (.aload_n 0, 1, 0, 0, 0, 0) := by decide +kernel
theorem f305_140 : mFetch 305 140 = some (.invokevirtual 519, 3, 285, 0, 1, 12) := by decide +kernel
theorem f305_143 : mFetch 305 143 = some (.iadd, 1, 0, 0, 0, 0) := by decide +kernel
theorem f305_144 : mFetch 305 144 = some (.istore 5, 2, 0, 0, 0, 0) := by decide +kernel
theorem f305_146 : mFetch 305 146 = some (.iload 6, 2, 0, 0, 0, 0) := by decide +kernel
theorem f305_148 : mFetch 305 148 = some (.aload_n 0, 1, 0, 0, 0, 0) := by decide +kernel
theorem f305_149 : mFetch 305 149 = some (.invokevirtual 522, 3, 226, 0, 1, 12) := by decide +kernel
theorem f305_152 : mFetch 305 152 = some (.iadd, 1, 0, 0, 0, 0) := by decide +kernel
theorem f305_153 : mFetch 305 153 = some (.istore 6, 2, 0, 0, 0, 0) := by decide +kernel
theorem f305_155 : mFetch 305 155 = some (.aload_n 0, 1, 0, 0, 0, 0) := by decide +kernel
theorem f305_156 : mFetch 305 156 = some (.invokevirtual 491, 3, 278, 0, 1, 12) := by decide +kernel
theorem f305_159 : mFetch 305 159 = some (.iinc 7 1, 3, 0, 0, 0, 0) := by decide +kernel
theorem f305_162 : mFetch 305 162 = some (.goto (-84), 3, 78, 0, 0, 0) := by decide +kernel
theorem f305_165 : mFetch 305 165 = some (.iload 4, 2, 0, 0, 0, 0) := by decide +kernel
theorem f305_167 : mFetch 305 167 = some (.ifCond .ne 8, 3, 175, 0, 0, 0) := by decide +kernel
theorem f305_170 : mFetch 305 170 = some (.iload 5, 2, 0, 0, 0, 0) := by decide +kernel
theorem f305_172 : mFetch 305 172 = some (.goto 5, 3, 177, 0, 0, 0) := by decide +kernel
theorem f305_175 : mFetch 305 175 = some (.iload 6, 2, 0, 0, 0, 0) := by decide +kernel
theorem f305_177 : mFetch 305 177 = some (.ireturn, 1, 0, 0, 0, 0) := by decide +kernel
theorem b305_0 {X : (Nat → Int) × Nat} {d : Nat} {s : mSt} {Q : mQ} {x1 : Int} {x2 : Int} {x3 : Int} {x4 : Int} {l5 : Option mV} {l6 : Option mV} {l7 : Option mV} {l8 : Option mV} (h_1 : Sp X d 212 [mR 407] s (fun r s' => ∃ v : Int, r = some (mI v) ∧ Wp X (d + 1) 305 4 [some (mR 407), some (mI x1), some (mI x2), some (mI x3), some (mI x4), l5, l6, l7, l8] [mI v] s' Q)) : Wp X (d + 1) 305 0 [some (mR 407), some (mI x1), some (mI x2), some (mI x3), some (mI x4), l5, l6, l7, l8] [] s Q := Wp_step k305 f305_0 (Wp_step k305 f305_1 ⟨⟨kf_407, Nat.le_of_ble_eq_true rfl⟩, Nat.le_refl _, _, rfl, Sp_E h_1⟩)
theorem b305_4 {X : (Nat → Int) × Nat} {d : Nat} {s : mSt} {Q : mQ} {x1 : Int} {x2 : Int} {x3 : Int} {x4 : Int} {l5 : Option mV} {l6 : Option mV} {l7 : Option mV} {l8 : Option mV} {xt0 : Int} (h_1 : xt0 = 0 → Wp X d 305 54 [some (mR 407), some (mI x1), some (mI x2), some (mI x3), some (mI x4), l5, l6, l7, l8] [] s Q) (h_2 : ¬ xt0 = 0 → Wp X d 305 7 [some (mR 407), some (mI x1), some (mI x2), some (mI x3), some (mI x4), l5, l6, l7, l8] [] s Q) : Wp X d 305 4 [some (mR 407), some (mI x1), some (mI x2), some (mI x3), some (mI x4), l5, l6, l7, l8] [mI xt0] s Q := Wp_step k305 f305_4 ⟨h_1, h_2⟩
theorem b305_7 {X : (Nat → Int) × Nat} {d : Nat} {s : mSt} {Q : mQ} {x1 : Int} {x2 : Int} {x3 : Int} {x4 : Int} {l5 : Option mV} {l6 : Option mV} {l7 : Option mV} {l8 : Option mV} (h_1 : Sp X d 167 [mJ x1, mJ 1, mJ 5] s (fun r s' => ∃ v : Int, r = some (mI v) ∧ Wp X (d + 1) 305 16 [some (mR 407), some (mI x1), some (mI x2), some (mI x3), some (mI x4), l5, l6, l7, l8] [mI v] s' Q)) : Wp X (d + 1) 305 7 [some (mR 407), some (mI x1), some (mI x2), some (mI x3), some (mI x4), l5, l6, l7, l8] [] s Q := Wp_step k305 f305_7 (Wp_step k305 f305_8 (Wp_step k305 f305_9 (Wp_step k305 f305_10 (Wp_step k305 f305_13 ⟨⟨Nat.le_of_ble_eq_true rfl, Nat.le_refl _⟩, _, rfl, Sp_E h_1⟩))))
theorem b305_16 {X : (Nat → Int) × Nat} {d : Nat} {s : mSt} {Q : mQ} {x1 : Int} {x2 : Int} {x3 : Int} {x4 : Int} {l5 : Option mV} {l6 : Option mV} {l7 : Option mV} {l8 : Option mV} {xt0 : Int} (h_1 : xt0 = 0 → Wp X d 305 54 [some (mR 407), some (mI x1), some (mI x2), some (mI x3), some (mI x4), l5, l6, l7, l8] [] s Q) (h_2 : ¬ xt0 = 0 → Wp X d 305 19 [some (mR 407), some (mI x1), some (mI x2), some (mI x3), some (mI x4), l5, l6, l7, l8] [] s Q) : Wp X d 305 16 [some (mR 407), some (mI x1), some (mI x2), some (mI x3), some (mI x4), l5, l6, l7, l8] [mI xt0] s Q := Wp_step k305 f305_16 ⟨h_1, h_2⟩
theorem b305_19 {X : (Nat → Int) × Nat} {d : Nat} {s : mSt} {Q : mQ} {x1 : Int} {x2 : Int} {x3 : Int} {x4 : Int} {l5 : Option mV} {l6 : Option mV} {l7 : Option mV} {l8 : Option mV} (h_1 : Sp X d 167 [mJ x2, mJ 1, mJ 9] s (fun r s' => ∃ v : Int, r = some (mI v) ∧ Wp X (d + 1) 305 28 [some (mR 407), some (mI x1), some (mI x2), some (mI x3), some (mI x4), l5, l6, l7, l8] [mI v] s' Q)) : Wp X (d + 1) 305 19 [some (mR 407), some (mI x1), some (mI x2), some (mI x3), some (mI x4), l5, l6, l7, l8] [] s Q := Wp_step k305 f305_19 (Wp_step k305 f305_20 (Wp_step k305 f305_21 (Wp_step k305 f305_22 (Wp_step k305 f305_25 ⟨⟨Nat.le_of_ble_eq_true rfl, Nat.le_refl _⟩, _, rfl, Sp_E h_1⟩))))
theorem b305_28 {X : (Nat → Int) × Nat} {d : Nat} {s : mSt} {Q : mQ} {x1 : Int} {x2 : Int} {x3 : Int} {x4 : Int} {l5 : Option mV} {l6 : Option mV} {l7 : Option mV} {l8 : Option mV} {xt0 : Int} (h_1 : xt0 = 0 → Wp X d 305 54 [some (mR 407), some (mI x1), some (mI x2), some (mI x3), some (mI x4), l5, l6, l7, l8] [] s Q) (h_2 : ¬ xt0 = 0 → Wp X d 305 31 [some (mR 407), some (mI x1), some (mI x2), some (mI x3), some (mI x4), l5, l6, l7, l8] [] s Q) : Wp X d 305 28 [some (mR 407), some (mI x1), some (mI x2), some (mI x3), some (mI x4), l5, l6, l7, l8] [mI xt0] s Q := Wp_step k305 f305_28 ⟨h_1, h_2⟩
theorem b305_31 {X : (Nat → Int) × Nat} {d : Nat} {s : mSt} {Q : mQ} {x1 : Int} {x2 : Int} {x3 : Int} {x4 : Int} {l5 : Option mV} {l6 : Option mV} {l7 : Option mV} {l8 : Option mV} (h_1 : Sp X d 167 [mJ x3, mJ 0, mJ 100] s (fun r s' => ∃ v : Int, r = some (mI v) ∧ Wp X (d + 1) 305 40 [some (mR 407), some (mI x1), some (mI x2), some (mI x3), some (mI x4), l5, l6, l7, l8] [mI v] s' Q)) : Wp X (d + 1) 305 31 [some (mR 407), some (mI x1), some (mI x2), some (mI x3), some (mI x4), l5, l6, l7, l8] [] s Q := Wp_step k305 f305_31 (Wp_step k305 f305_32 (Wp_step k305 f305_33 (Wp_step k305 f305_34 (Wp_step k305 f305_37 ⟨⟨Nat.le_of_ble_eq_true rfl, Nat.le_refl _⟩, _, rfl, Sp_E h_1⟩))))
theorem b305_40 {X : (Nat → Int) × Nat} {d : Nat} {s : mSt} {Q : mQ} {x1 : Int} {x2 : Int} {x3 : Int} {x4 : Int} {l5 : Option mV} {l6 : Option mV} {l7 : Option mV} {l8 : Option mV} {xt0 : Int} (h_1 : xt0 = 0 → Wp X d 305 54 [some (mR 407), some (mI x1), some (mI x2), some (mI x3), some (mI x4), l5, l6, l7, l8] [] s Q) (h_2 : ¬ xt0 = 0 → Wp X d 305 43 [some (mR 407), some (mI x1), some (mI x2), some (mI x3), some (mI x4), l5, l6, l7, l8] [] s Q) : Wp X d 305 40 [some (mR 407), some (mI x1), some (mI x2), some (mI x3), some (mI x4), l5, l6, l7, l8] [mI xt0] s Q := Wp_step k305 f305_40 ⟨h_1, h_2⟩
theorem b305_43 {X : (Nat → Int) × Nat} {d : Nat} {s : mSt} {Q : mQ} {x1 : Int} {x2 : Int} {x3 : Int} {x4 : Int} {l5 : Option mV} {l6 : Option mV} {l7 : Option mV} {l8 : Option mV} (h_1 : Sp X d 167 [mJ x4, mJ 0, mJ 1] s (fun r s' => ∃ v : Int, r = some (mI v) ∧ Wp X (d + 1) 305 51 [some (mR 407), some (mI x1), some (mI x2), some (mI x3), some (mI x4), l5, l6, l7, l8] [mI v] s' Q)) : Wp X (d + 1) 305 43 [some (mR 407), some (mI x1), some (mI x2), some (mI x3), some (mI x4), l5, l6, l7, l8] [] s Q := Wp_step k305 f305_43 (Wp_step k305 f305_45 (Wp_step k305 f305_46 (Wp_step k305 f305_47 (Wp_step k305 f305_48 ⟨⟨Nat.le_of_ble_eq_true rfl, Nat.le_refl _⟩, _, rfl, Sp_E h_1⟩))))
theorem b305_51 {X : (Nat → Int) × Nat} {d : Nat} {s : mSt} {Q : mQ} {x1 : Int} {x2 : Int} {x3 : Int} {x4 : Int} {l5 : Option mV} {l6 : Option mV} {l7 : Option mV} {l8 : Option mV} {xt0 : Int} (h_1 : ¬ xt0 = 0 → Wp X d 305 56 [some (mR 407), some (mI x1), some (mI x2), some (mI x3), some (mI x4), l5, l6, l7, l8] [] s Q) (h_2 : xt0 = 0 → Wp X d 305 54 [some (mR 407), some (mI x1), some (mI x2), some (mI x3), some (mI x4), l5, l6, l7, l8] [] s Q) : Wp X d 305 51 [some (mR 407), some (mI x1), some (mI x2), some (mI x3), some (mI x4), l5, l6, l7, l8] [mI xt0] s Q := Wp_step k305 f305_51 ⟨h_1, h_2⟩
theorem b305_54 {X : (Nat → Int) × Nat} {d : Nat} {s : mSt} {Q : mQ} {x1 : Int} {x2 : Int} {x3 : Int} {x4 : Int} {l5 : Option mV} {l6 : Option mV} {l7 : Option mV} {l8 : Option mV} (h_1 : Q (some (mI (-1))) s) : Wp X d 305 54 [some (mR 407), some (mI x1), some (mI x2), some (mI x3), some (mI x4), l5, l6, l7, l8] [] s Q := Wp_step k305 f305_54 (Wp_step k305 f305_55 ⟨⟨rfl, trivial⟩, h_1⟩)
theorem b305_56 {X : (Nat → Int) × Nat} {d : Nat} {s : mSt} {Q : mQ} {x1 : Int} {x2 : Int} {x3 : Int} {x4 : Int} {l5 : Option mV} {l6 : Option mV} {l7 : Option mV} {l8 : Option mV} (h_1 : Sp X d 277 [mR 407] (uS s 407 53 (s 407 22)) (fun r s' => r = none ∧ Wp X (d + 1) 305 75 [some (mR 407), some (mI x1), some (mI x2), some (mI x3), some (mI x4), some (mI 0), some (mI 0), l7, l8] [] s' Q)) : Wp X (d + 1) 305 56 [some (mR 407), some (mI x1), some (mI x2), some (mI x3), some (mI x4), l5, l6, l7, l8] [] s Q := Wp_step k305 f305_56 (Wp_step k305 f305_57 (Wp_step k305 f305_58 ⟨kf_407, Wp_step k305 f305_61 (Wp_step k305 f305_62 ⟨kf_407, Wp_step k305 f305_65 (Wp_step k305 f305_66 (Wp_step k305 f305_68 (Wp_step k305 f305_69 (Wp_step k305 f305_71 (Wp_step k305 f305_72 ⟨⟨kf_407, Nat.le_of_ble_eq_true rfl⟩, Nat.le_refl _, _, rfl, Sp_V h_1⟩)))))⟩)⟩))
theorem b305_75 {X : (Nat → Int) × Nat} {d : Nat} {s : mSt} {Q : mQ} {x1 : Int} {x2 : Int} {x3 : Int} {x4 : Int} {x5 : Int} {x6 : Int} {l7 : Option mV} {l8 : Option mV} (h_1 : Wp X d 305 78 [some (mR 407), some (mI x1), some (mI x2), some (mI x3), some (mI x4), some (mI x5), some (mI x6), some (mI 0), l8] [] s Q) : Wp X d 305 75 [some (mR 407), some (mI x1), some (mI x2), some (mI x3), some (mI x4), some (mI x5), some (mI x6), l7, l8] [] s Q := Wp_step k305 f305_75 (Wp_step k305 f305_76 (h_1))
theorem b305_78 {X : (Nat → Int) × Nat} {d : Nat} {s : mSt} {Q : mQ} {x1 : Int} {x2 : Int} {x3 : Int} {x4 : Int} {x5 : Int} {x6 : Int} {x7 : Int} {l8 : Option mV} (h_1 : x1 ≤ x7 → Wp X d 305 165 [some (mR 407), some (mI x1), some (mI x2), some (mI x3), some (mI x4), some (mI x5), some (mI x6), some (mI x7), l8] [] s Q) (h_2 : ¬ x1 ≤ x7 → Wp X d 305 84 [some (mR 407), some (mI x1), some (mI x2), some (mI x3), some (mI x4), some (mI x5), some (mI x6), some (mI x7), l8] [] s Q) : Wp X d 305 78 [some (mR 407), some (mI x1), some (mI x2), some (mI x3), some (mI x4), some (mI x5), some (mI x6), some (mI x7), l8] [] s Q := Wp_step k305 f305_78 (Wp_step k305 f305_80 (Wp_step k305 f305_81 ⟨h_1, h_2⟩))
theorem b305_84 {X : (Nat → Int) × Nat} {d : Nat} {s : mSt} {Q : mQ} {x1 : Int} {x2 : Int} {x3 : Int} {x4 : Int} {x5 : Int} {x6 : Int} {x7 : Int} {l8 : Option mV} (h_1 : Wp X d 305 87 [some (mR 407), some (mI x1), some (mI x2), some (mI x3), some (mI x4), some (mI x5), some (mI x6), some (mI x7), some (mI 0)] [] s Q) : Wp X d 305 84 [some (mR 407), some (mI x1), some (mI x2), some (mI x3), some (mI x4), some (mI x5), some (mI x6), some (mI x7), l8] [] s Q := Wp_step k305 f305_84 (Wp_step k305 f305_85 (h_1))
theorem b305_87 {X : (Nat → Int) × Nat} {d : Nat} {s : mSt} {Q : mQ} {x1 : Int} {x2 : Int} {x3 : Int} {x4 : Int} {x5 : Int} {x6 : Int} {x7 : Int} {x8 : Int} (h_1 : x2 ≤ x8 → Wp X d 305 137 [some (mR 407), some (mI x1), some (mI x2), some (mI x3), some (mI x4), some (mI x5), some (mI x6), some (mI x7), some (mI x8)] [] s Q) (h_2 : ¬ x2 ≤ x8 → Wp X d 305 93 [some (mR 407), some (mI x1), some (mI x2), some (mI x3), some (mI x4), some (mI x5), some (mI x6), some (mI x7), some (mI x8)] [] s Q) : Wp X d 305 87 [some (mR 407), some (mI x1), some (mI x2), some (mI x3), some (mI x4), some (mI x5), some (mI x6), some (mI x7), some (mI x8)] [] s Q := Wp_step k305 f305_87 (Wp_step k305 f305_89 (Wp_step k305 f305_90 ⟨h_1, h_2⟩))
theorem b305_93 {X : (Nat → Int) × Nat} {d : Nat} {s : mSt} {Q : mQ} {x1 : Int} {x2 : Int} {x3 : Int} {x4 : Int} {x5 : Int} {x6 : Int} {x7 : Int} {x8 : Int} (h_1 : Sp X d 304 [mR 407, mI 100] s (fun r s' => ∃ v : Int, r = some (mI v) ∧ Wp X (d + 1) 305 99 [some (mR 407), some (mI x1), some (mI x2), some (mI x3), some (mI x4), some (mI x5), some (mI x6), some (mI x7), some (mI x8)] [mI v] s' Q)) : Wp X (d + 1) 305 93 [some (mR 407), some (mI x1), some (mI x2), some (mI x3), some (mI x4), some (mI x5), some (mI x6), some (mI x7), some (mI x8)] [] s Q := Wp_step k305 f305_93 (Wp_step k305 f305_94 (Wp_step k305 f305_96 ⟨⟨kf_407, Nat.le_of_ble_eq_true rfl⟩, Nat.le_refl _, _, rfl, Sp_E h_1⟩))
theorem b305_99 {X : (Nat → Int) × Nat} {d : Nat} {s : mSt} {Q : mQ} {x1 : Int} {x2 : Int} {x3 : Int} {x4 : Int} {x5 : Int} {x6 : Int} {x7 : Int} {x8 : Int} {xt0 : Int} (h_1 : x3 ≤ xt0 → Wp X d 305 126 [some (mR 407), some (mI x1), some (mI x2), some (mI x3), some (mI x4), some (mI x5), some (mI x6), some (mI x7), some (mI x8)] [] s Q) (h_2 : ¬ x3 ≤ xt0 → Wp X d 305 103 [some (mR 407), some (mI x1), some (mI x2), some (mI x3), some (mI x4), some (mI x5), some (mI x6), some (mI x7), some (mI x8)] [] s Q) : Wp X d 305 99 [some (mR 407), some (mI x1), some (mI x2), some (mI x3), some (mI x4), some (mI x5), some (mI x6), some (mI x7), some (mI x8)] [mI xt0] s Q := Wp_step k305 f305_99 (Wp_step k305 f305_100 ⟨h_1, h_2⟩)
theorem b305_103 {X : (Nat → Int) × Nat} {d : Nat} {s : mSt} {Q : mQ} {x1 : Int} {x2 : Int} {x3 : Int} {x4 : Int} {x5 : Int} {x6 : Int} {x7 : Int} {x8 : Int} (h_1 : (s 417 4) ≤ 0 → Wp X d 305 126 [some (mR 407), some (mI x1), some (mI x2), some (mI x3), some (mI x4), some (mI x5), some (mI x6), some (mI x7), some (mI x8)] [] s Q) (h_2 : ¬ (s 417 4) ≤ 0 → Wp X d 305 112 [some (mR 407), some (mI x1), some (mI x2), some (mI x3), some (mI x4), some (mI x5), some (mI x6), some (mI x7), some (mI x8)] [] s Q) : Wp X d 305 103 [some (mR 407), some (mI x1), some (mI x2), some (mI x3), some (mI x4), some (mI x5), some (mI x6), some (mI x7), some (mI x8)] [] s Q := Wp_step k305 f305_103 (Wp_step k305 f305_104 ⟨kf_407, 417, rf_407_20, Wp_step k305 f305_107 (Wp_step k305 f305_108 ⟨166, af_417, ⟨by decide, by decide⟩, Wp_step k305 f305_109 ⟨h_1, h_2⟩⟩)⟩)
theorem b305_112 {X : (Nat → Int) × Nat} {d : Nat} {s : mSt} {Q : mQ} {x1 : Int} {x2 : Int} {x3 : Int} {x4 : Int} {x5 : Int} {x6 : Int} {x7 : Int} {x8 : Int} (h_1 : Sp X d 304 [mR 407, mI (s 417 4)] s (fun r s' => ∃ v : Int, r = some (mI v) ∧ Wp X (d + 1) 305 123 [some (mR 407), some (mI x1), some (mI x2), some (mI x3), some (mI x4), some (mI x5), some (mI x6), some (mI x7), some (mI x8)] [mI v, mR 407] s' Q)) : Wp X (d + 1) 305 112 [some (mR 407), some (mI x1), some (mI x2), some (mI x3), some (mI x4), some (mI x5), some (mI x6), some (mI x7), some (mI x8)] [] s Q := Wp_step k305 f305_112 (Wp_step k305 f305_113 (Wp_step k305 f305_114 (Wp_step k305 f305_115 ⟨kf_407, 417, rf_407_20, Wp_step k305 f305_118 (Wp_step k305 f305_119 ⟨166, af_417, ⟨by decide, by decide⟩, Wp_step k305 f305_120 ⟨⟨kf_407, Nat.le_of_ble_eq_true rfl⟩, Nat.le_refl _, _, rfl, Sp_E h_1⟩⟩)⟩)))
theorem b305_123 {X : (Nat → Int) × Nat} {d : Nat} {s : mSt} {Q : mQ} {x1 : Int} {x2 : Int} {x3 : Int} {x4 : Int} {x5 : Int} {x6 : Int} {x7 : Int} {x8 : Int} {xt1 : Int} (h_1 : Sp X d 246 [mR 407, mI xt1] s (fun r s' => r = none ∧ Wp X (d + 1) 305 126 [some (mR 407), some (mI x1), some (mI x2), some (mI x3), some (mI x4), some (mI x5), some (mI x6), some (mI x7), some (mI x8)] [] s' Q)) : Wp X (d + 1) 305 123 [some (mR 407), some (mI x1), some (mI x2), some (mI x3), some (mI x4), some (mI x5), some (mI x6), some (mI x7), some (mI x8)] [mI xt1, mR 407] s Q := Wp_step k305 f305_123 ⟨⟨kf_407, Nat.le_of_ble_eq_true rfl⟩, Nat.le_refl _, _, rfl, Sp_V h_1⟩
theorem b305_126 {X : (Nat → Int) × Nat} {d : Nat} {s : mSt} {Q : mQ} {x1 : Int} {x2 : Int} {x3 : Int} {x4 : Int} {x5 : Int} {x6 : Int} {x7 : Int} {x8 : Int} (h_1 : Sp X d 251 [mR 407] s (fun r s' => ∃ v : Int, r = some (mI v) ∧ Wp X (d + 1) 305 130 [some (mR 407), some (mI x1), some (mI x2), some (mI x3), some (mI x4), some (mI x5), some (mI x6), some (mI x7), some (mI x8)] [mI v] s' Q)) : Wp X (d + 1) 305 126 [some (mR 407), some (mI x1), some (mI x2), some (mI x3), some (mI x4), some (mI x5), some (mI x6), some (mI x7), some (mI x8)] [] s Q := Wp_step k305 f305_126 (Wp_step k305 f305_127 ⟨⟨kf_407, Nat.le_of_ble_eq_true rfl⟩, Nat.le_refl _, _, rfl, Sp_E h_1⟩)
theorem b305_130 {X : (Nat → Int) × Nat} {d : Nat} {s : mSt} {Q : mQ} {x1 : Int} {x2 : Int} {x3 : Int} {x4 : Int} {x5 : Int} {x6 : Int} {x7 : Int} {x8 : Int} {xt0 : Int} (h_1 : Wp X d 305 87 [some (mR 407), some (mI x1), some (mI x2), some (mI x3), some (mI x4), some (mI x5), some (mI x6), some (mI x7), some (mI (w32 (x8 + 1)))] [] s Q) : Wp X d 305 130 [some (mR 407), some (mI x1), some (mI x2), some (mI x3), some (mI x4), some (mI x5), some (mI x6), some (mI x7), some (mI x8)] [mI xt0] s Q := Wp_step k305 f305_130 (Wp_step k305 f305_131 (Wp_step k305 f305_134 (h_1)))
theorem b305_137 {X : (Nat → Int) × Nat} {d : Nat} {s : mSt} {Q : mQ} {x1 : Int} {x2 : Int} {x3 : Int} {x4 : Int} {x5 : Int} {x6 : Int} {x7 : Int} {x8 : Int} (h_1 : Sp X d 285 [mR 407] s (fun r s' => ∃ v : Int, r = some (mI v) ∧ Wp X (d + 1) 305 143 [some (mR 407), some (mI x1), some (mI x2), some (mI x3), some (mI x4), some (mI x5), some (mI x6), some (mI x7), some (mI x8)] [mI v, mI x5] s' Q)) : Wp X (d + 1) 305 137 [some (mR 407), some (mI x1), some (mI x2), some (mI x3), some (mI x4), some (mI x5), some (mI x6), some (mI x7), some (mI x8)] [] s Q := Wp_step k305 f305_137 (Wp_step k305 f305_139 (Wp_step k305 f305_140 ⟨⟨kf_407, Nat.le_of_ble_eq_true rfl⟩, Nat.le_refl _, _, rfl, Sp_E h_1⟩))
theorem b305_143 {X : (Nat → Int) × Nat} {d : Nat} {s : mSt} {Q : mQ} {x1 : Int} {x2 : Int} {x3 : Int} {x4 : Int} {x5 : Int} {x6 : Int} {x7 : Int} {x8 : Int} {xt0 : Int} {xt1 : Int} (h_1 : Sp X d 226 [mR 407] s (fun r s' => ∃ v : Int, r = some (mI v) ∧ Wp X (d + 1) 305 152 [some (mR 407), some (mI x1), some (mI x2), some (mI x3), some (mI x4), some (mI (w32 (xt0 + xt1))), some (mI x6), some (mI x7), some (mI x8)] [mI v, mI x6] s' Q)) : Wp X (d + 1) 305 143 [some (mR 407), some (mI x1), some (mI x2), some (mI x3), some (mI x4), some (mI x5), some (mI x6), some (mI x7), some (mI x8)] [mI xt1, mI xt0] s Q := Wp_step k305 f305_143 (Wp_step k305 f305_144 (Wp_step k305 f305_146 (Wp_step k305 f305_148 (Wp_step k305 f305_149 ⟨⟨kf_407, Nat.le_of_ble_eq_true rfl⟩, Nat.le_refl _, _, rfl, Sp_E h_1⟩))))
theorem b305_152 {X : (Nat → Int) × Nat} {d : Nat} {s : mSt} {Q : mQ} {x1 : Int} {x2 : Int} {x3 : Int} {x4 : Int} {x5 : Int} {x6 : Int} {x7 : Int} {x8 : Int} {xt0 : Int} {xt1 : Int} (h_1 : Sp X d 278 [mR 407] s (fun r s' => r = none ∧ Wp X (d + 1) 305 159 [some (mR 407), some (mI x1), some (mI x2), some (mI x3), some (mI x4), some (mI x5), some (mI (w32 (xt0 + xt1))), some (mI x7), some (mI x8)] [] s' Q)) : Wp X (d + 1) 305 152 [some (mR 407), some (mI x1), some (mI x2), some (mI x3), some (mI x4), some (mI x5), some (mI x6), some (mI x7), some (mI x8)] [mI xt1, mI xt0] s Q := Wp_step k305 f305_152 (Wp_step k305 f305_153 (Wp_step k305 f305_155 (Wp_step k305 f305_156 ⟨⟨kf_407, Nat.le_of_ble_eq_true rfl⟩, Nat.le_refl _, _, rfl, Sp_V h_1⟩)))
theorem b305_159 {X : (Nat → Int) × Nat} {d : Nat} {s : mSt} {Q : mQ} {x1 : Int} {x2 : Int} {x3 : Int} {x4 : Int} {x5 : Int} {x6 : Int} {x7 : Int} {x8 : Int} (h_1 : Wp X d 305 78 [some (mR 407), some (mI x1), some (mI x2), some (mI x3), some (mI x4), some (mI x5), some (mI x6), some (mI (w32 (x7 + 1))), some (mI x8)] [] s Q) : Wp X d 305 159 [some (mR 407), some (mI x1), some (mI x2), some (mI x3), some (mI x4), some (mI x5), some (mI x6), some (mI x7), some (mI x8)] [] s Q := Wp_step k305 f305_159 (Wp_step k305 f305_162 (h_1))
theorem b305_165 {X : (Nat → Int) × Nat} {d : Nat} {s : mSt} {Q : mQ} {x1 : Int} {x2 : Int} {x3 : Int} {x4 : Int} {x5 : Int} {x6 : Int} {x7 : Int} {l8 : Option mV} (h_1 : ¬ x4 = 0 → Wp X d 305 175 [some (mR 407), some (mI x1), some (mI x2), some (mI x3), some (mI x4), some (mI x5), some (mI x6), some (mI x7), l8] [] s Q) (h_2 : x4 = 0 → Wp X d 305 170 [some (mR 407), some (mI x1), some (mI x2), some (mI x3), some (mI x4), some (mI x5), some (mI x6), some (mI x7), l8] [] s Q) : Wp X d 305 165 [some (mR 407), some (mI x1), some (mI x2), some (mI x3), some (mI x4), some (mI x5), some (mI x6), some (mI x7), l8] [] s Q := Wp_step k305 f305_165 (Wp_step k305 f305_167 ⟨h_1, h_2⟩)
theorem b305_170 {X : (Nat → Int) × Nat} {d : Nat} {s : mSt} {Q : mQ} {x1 : Int} {x2 : Int} {x3 : Int} {x4 : Int} {x5 : Int} {x6 : Int} {x7 : Int} {l8 : Option mV} (h_1 : Wp X d 305 177 [some (mR 407), some (mI x1), some (mI x2), some (mI x3), some (mI x4), some (mI x5), some (mI x6), some (mI x7), l8] [mI x5] s Q) : Wp X d 305 170 [some (mR 407), some (mI x1), some (mI x2), some (mI x3), some (mI x4), some (mI x5), some (mI x6), some (mI x7), l8] [] s Q := Wp_step k305 f305_170 (Wp_step k305 f305_172 (h_1))
theorem b305_175 {X : (Nat → Int) × Nat} {d : Nat} {s : mSt} {Q : mQ} {x1 : Int} {x2 : Int} {x3 : Int} {x4 : Int} {x5 : Int} {x6 : Int} {x7 : Int} {l8 : Option mV} (h_1 : Wp X d 305 177 [some (mR 407), some (mI x1), some (mI x2), some (mI x3), some (mI x4), some (mI x5), some (mI x6), some (mI x7), l8] [mI x6] s Q) : Wp X d 305 175 [some (mR 407), some (mI x1), some (mI x2), some (mI x3), some (mI x4), some (mI x5), some (mI x6), some (mI x7), l8] [] s Q := Wp_step k305 f305_175 (h_1)
theorem b305_177 {X : (Nat → Int) × Nat} {d : Nat} {s : mSt} {Q : mQ} {x1 : Int} {x2 : Int} {x3 : Int} {x4 : Int} {x5 : Int} {x6 : Int} {x7 : Int} {l8 : Option mV} {xt0 : Int} (h_1 : Q (some (mI xt0)) s) : Wp X d 305 177 [some (mR 407), some (mI x1), some (mI x2), some (mI x3), some (mI x4), some (mI x5), some (mI x6), some (mI x7), l8] [mI xt0] s Q := Wp_step k305 f305_177 ⟨⟨rfl, trivial⟩, h_1⟩
theorem e305 {X : (Nat → Int) × Nat} {d : Nat} {s : mSt} {Q : mQ} {x1 : Int} {x2 : Int} {x3 : Int} {x4 : Int} (h : Wp X d 305 0 [some (mR 407), some (mI x1), some (mI x2), some (mI x3), some (mI x4), none, none, none, none] [] s Q) : Sp X d 305 [mR 407, mI x1, mI x2, mI x3, mI x4] s Q := Sp_of (show mCe 305 = 0 by decide +kernel) (by rw [show mML 305 = 9 by decide +kernel]; rfl) (Nat.le_trans (Nat.le_of_ble_eq_true (show Nat.ble (mArgs _).length 9 = true from rfl)) (show 9 ≤ mML 305 by decide +kernel)) h
-- 306 ClashDayModel.count(I)I
theorem k306 : mRk 306 = 1 := by decide +kernel
theorem f306_0 : mFetch 306 0 = some (.iload_n 1, 1, 0, 0, 0, 0) := by decide +kernel
theorem f306_1 : mFetch 306 1 = some (.tableswitch 127 0 12 #[67, 67, 67, 67, 76, 81, 86, 93, 98, 103, 112, 117, 122], 67, 0, 0, 0, 0) := by decide +kernel
theorem f306_68 : mFetch 306 68 = some (.aload_n 0, 1, 0, 0, 0, 0) := by decide +kernel
theorem f306_69 : mFetch 306 69 = some (.getfield 39, 3, 12, 20, 2, 1) := by decide +kernel
theorem f306_72 : mFetch 306 72 = some (.iload_n 1, 1, 0, 0, 0, 0) := by decide +kernel
theorem f306_73 : mFetch 306 73 = some (.iconst 1, 1, 0, 0, 0, 0) := by decide +kernel
theorem f306_74 : mFetch 306 74 = some (.iadd, 1, 0, 0, 0, 0) := by decide +kernel
theorem f306_75 : mFetch 306 75 = some (.iaload, 1, 0, 0, 0, 0) := by decide +kernel
theorem f306_76 : mFetch 306 76 = some (.ireturn, 1, 0, 0, 0, 0) := by decide +kernel
theorem f306_77 : mFetch 306 77 = some (.aload_n 0, 1, 0, 0, 0, 0) := by decide +kernel
theorem f306_78 : mFetch 306 78 = some (.getfield 288, 3, 12, 2, 0, 1) := by decide +kernel
theorem f306_81 : mFetch 306 81 = some (.ireturn, 1, 0, 0, 0, 0) := by decide +kernel
theorem f306_82 : mFetch 306 82 = some (.aload_n 0, 1, 0, 0, 0, 0) := by decide +kernel
theorem f306_83 : mFetch 306 83 = some (.getfield 42, 3, 12, 21, 0, 1) := by decide +kernel
theorem f306_86 : mFetch 306 86 = some (.ireturn, 1, 0, 0, 0, 0) := by decide +kernel
theorem f306_87 : mFetch 306 87 = some (.aload_n 0, 1, 0, 0, 0, 0) := by decide +kernel
theorem f306_88 : mFetch 306 88 = some (.getfield 39, 3, 12, 20, 2, 1) := by decide +kernel
theorem f306_91 : mFetch 306 91 = some (.iconst 5, 1, 0, 0, 0, 0) := by decide +kernel
theorem f306_92 : mFetch 306 92 = some (.iaload, 1, 0, 0, 0, 0) := by decide +kernel
theorem f306_93 : mFetch 306 93 = some (.ireturn, 1, 0, 0, 0, 0) := by decide +kernel
theorem f306_94 : mFetch 306 94 = some (.aload_n 0, 1, 0, 0, 0, 0) := by decide +kernel
theorem f306_95 : mFetch 306 95 = some (.invokevirtual 436, 3, 221, 0, 1, 12) := by decide +kernel
theorem f306_98 : mFetch 306 98 = some (.ireturn, 1, 0, 0, 0, 0) := by decide +kernel
theorem f306_99 : mFetch 306 99 = some (.aload_n 0, 1, 0, 0, 0, 0) := by decide +kernel
theorem f306_100 : mFetch 306 100 = some (.invokevirtual 522, 3, 226, 0, 1, 12) := by decide +kernel
theorem f306_103 : mFetch 306 103 = some (.ireturn, 1, 0, 0, 0, 0) := by decide +kernel
theorem f306_104 : mFetch 306 104 = some (.aload_n 0, 1, 0, 0, 0, 0) := by decide +kernel
theorem f306_105 : mFetch 306 105 = some (.getfield 39, 3, 12, 20, 2, 1) := by decide +kernel
theorem f306_108 : mFetch 306 108 = some (.sipush 165, 3, 0, 0, 0, 0) := by decide +kernel
theorem f306_111 : mFetch 306 111 = some (.iaload, 1, 0, 0, 0, 0) := by decide +kernel
theorem f306_112 : mFetch 306 112 = some (.ireturn, 1, 0, 0, 0, 0) := by decide +kernel
theorem f306_113 : mFetch 306 113 = some (.aload_n 0, 1, 0, 0, 0, 0) := by decide +kernel
theorem f306_114 : mFetch 306 114 = some (.getfield 297, 3, 12, 37, 0, 1) := by decide +kernel
theorem f306_117 : mFetch 306 117 = some (.ireturn, 1, 0, 0, 0, 0) := by decide +kernel
theorem f306_118 : mFetch 306 118 = some (.aload_n 0, 1, 0, 0, 0, 0) := by decide +kernel
theorem f306_119 : mFetch 306 119 = some (.getfield 555, 3, 12, 22, 0, 1) := by decide +kernel
theorem f306_122 : mFetch 306 122 = some (.ireturn, 1, 0, 0, 0, 0) := by decide +kernel
theorem f306_123 : mFetch 306 123 = some (.aload_n 0, 1, 0, 0, 0, 0) := by decide +kernel
theorem f306_124 : mFetch 306 124 = some (.getfield 113, 3, 12, 1, 0, 1) := by decide +kernel
theorem f306_127 : mFetch 306 127 = some (.ireturn, 1, 0, 0, 0, 0) := by decide +kernel
theorem f306_128 : mFetch 306 128 = some (.iconst (-1), 1, 0, 0, 0, 0) := by decide +kernel
theorem f306_129 : mFetch 306 129 = some (.ireturn, 1, 0, 0, 0, 0) := by decide +kernel
theorem b306_0 {X : (Nat → Int) × Nat} {d : Nat} {s : mSt} {Q : mQ} {x1 : Int} (h_1 : x1 = 0 → Wp X d 306 68 [some (mR 407), some (mI x1)] [] s Q) (h_2 : x1 = 1 → Wp X d 306 68 [some (mR 407), some (mI x1)] [] s Q) (h_3 : x1 = 2 → Wp X d 306 68 [some (mR 407), some (mI x1)] [] s Q) (h_4 : x1 = 3 → Wp X d 306 68 [some (mR 407), some (mI x1)] [] s Q) (h_5 : x1 = 4 → Wp X d 306 77 [some (mR 407), some (mI x1)] [] s Q) (h_6 : x1 = 5 → Wp X d 306 82 [some (mR 407), some (mI x1)] [] s Q) (h_7 : x1 = 6 → Wp X d 306 87 [some (mR 407), some (mI x1)] [] s Q) (h_8 : x1 = 7 → Wp X d 306 94 [some (mR 407), some (mI x1)] [] s Q) (h_9 : x1 = 8 → Wp X d 306 99 [some (mR 407), some (mI x1)] [] s Q) (h_10 : x1 = 9 → Wp X d 306 104 [some (mR 407), some (mI x1)] [] s Q) (h_11 : x1 = 10 → Wp X d 306 113 [some (mR 407), some (mI x1)] [] s Q) (h_12 : x1 = 11 → Wp X d 306 118 [some (mR 407), some (mI x1)] [] s Q) (h_13 : x1 = 12 → Wp X d 306 123 [some (mR 407), some (mI x1)] [] s Q) (h_14 : ¬ x1 = 0 → ¬ x1 = 1 → ¬ x1 = 2 → ¬ x1 = 3 → ¬ x1 = 4 → ¬ x1 = 5 → ¬ x1 = 6 → ¬ x1 = 7 → ¬ x1 = 8 → ¬ x1 = 9 → ¬ x1 = 10 → ¬ x1 = 11 → ¬ x1 = 12 → Wp X d 306 128 [some (mR 407), some (mI x1)] [] s Q) : Wp X d 306 0 [some (mR 407), some (mI x1)] [] s Q := Wp_step k306 f306_0 (Wp_step k306 f306_1 (by
    show Wp X d 306 (tT 1 127 0 12 #[67, 67, 67, 67, 76, 81, 86, 93, 98, 103, 112, 117, 122] x1) [some (mR 407), some (mI x1)] [] s Q
    by_cases q0 : x1 = 0
    · have e : tT 1 127 0 12 #[67, 67, 67, 67, 76, 81, 86, 93, 98, 103, 112, 117, 122] x1 = 68 := by rw [q0]; decide +kernel
      rw [e]; exact h_1 q0
    by_cases q1 : x1 = 1
    · have e : tT 1 127 0 12 #[67, 67, 67, 67, 76, 81, 86, 93, 98, 103, 112, 117, 122] x1 = 68 := by rw [q1]; decide +kernel
      rw [e]; exact h_2 q1
    by_cases q2 : x1 = 2
    · have e : tT 1 127 0 12 #[67, 67, 67, 67, 76, 81, 86, 93, 98, 103, 112, 117, 122] x1 = 68 := by rw [q2]; decide +kernel
      rw [e]; exact h_3 q2
    by_cases q3 : x1 = 3
    · have e : tT 1 127 0 12 #[67, 67, 67, 67, 76, 81, 86, 93, 98, 103, 112, 117, 122] x1 = 68 := by rw [q3]; decide +kernel
      rw [e]; exact h_4 q3
    by_cases q4 : x1 = 4
    · have e : tT 1 127 0 12 #[67, 67, 67, 67, 76, 81, 86, 93, 98, 103, 112, 117, 122] x1 = 77 := by rw [q4]; decide +kernel
      rw [e]; exact h_5 q4
    by_cases q5 : x1 = 5
    · have e : tT 1 127 0 12 #[67, 67, 67, 67, 76, 81, 86, 93, 98, 103, 112, 117, 122] x1 = 82 := by rw [q5]; decide +kernel
      rw [e]; exact h_6 q5
    by_cases q6 : x1 = 6
    · have e : tT 1 127 0 12 #[67, 67, 67, 67, 76, 81, 86, 93, 98, 103, 112, 117, 122] x1 = 87 := by rw [q6]; decide +kernel
      rw [e]; exact h_7 q6
    by_cases q7 : x1 = 7
    · have e : tT 1 127 0 12 #[67, 67, 67, 67, 76, 81, 86, 93, 98, 103, 112, 117, 122] x1 = 94 := by rw [q7]; decide +kernel
      rw [e]; exact h_8 q7
    by_cases q8 : x1 = 8
    · have e : tT 1 127 0 12 #[67, 67, 67, 67, 76, 81, 86, 93, 98, 103, 112, 117, 122] x1 = 99 := by rw [q8]; decide +kernel
      rw [e]; exact h_9 q8
    by_cases q9 : x1 = 9
    · have e : tT 1 127 0 12 #[67, 67, 67, 67, 76, 81, 86, 93, 98, 103, 112, 117, 122] x1 = 104 := by rw [q9]; decide +kernel
      rw [e]; exact h_10 q9
    by_cases q10 : x1 = 10
    · have e : tT 1 127 0 12 #[67, 67, 67, 67, 76, 81, 86, 93, 98, 103, 112, 117, 122] x1 = 113 := by rw [q10]; decide +kernel
      rw [e]; exact h_11 q10
    by_cases q11 : x1 = 11
    · have e : tT 1 127 0 12 #[67, 67, 67, 67, 76, 81, 86, 93, 98, 103, 112, 117, 122] x1 = 118 := by rw [q11]; decide +kernel
      rw [e]; exact h_12 q11
    by_cases q12 : x1 = 12
    · have e : tT 1 127 0 12 #[67, 67, 67, 67, 76, 81, 86, 93, 98, 103, 112, 117, 122] x1 = 123 := by rw [q12]; decide +kernel
      rw [e]; exact h_13 q12
    have e : tT 1 127 0 12 #[67, 67, 67, 67, 76, 81, 86, 93, 98, 103, 112, 117, 122] x1 = 128 := by unfold tT; rw [if_pos (by omega)]; decide +kernel
    rw [e]; exact h_14 q0 q1 q2 q3 q4 q5 q6 q7 q8 q9 q10 q11 q12))
theorem b306_68 {X : (Nat → Int) × Nat} {d : Nat} {s : mSt} {Q : mQ} {x1 : Int} (h_1 : 0 ≤ (w32 (x1 + 1)) ∧ (w32 (x1 + 1)) < 166) (h_2 : Q (some (mI (s 417 (w32 (x1 + 1)).toNat))) s) : Wp X d 306 68 [some (mR 407), some (mI x1)] [] s Q := Wp_step k306 f306_68 (Wp_step k306 f306_69 ⟨kf_407, 417, rf_407_20, Wp_step k306 f306_72 (Wp_step k306 f306_73 (Wp_step k306 f306_74 (Wp_step k306 f306_75 ⟨166, af_417, h_1, Wp_step k306 f306_76 ⟨⟨rfl, trivial⟩, h_2⟩⟩)))⟩)
theorem b306_77 {X : (Nat → Int) × Nat} {d : Nat} {s : mSt} {Q : mQ} {x1 : Int} (h_1 : Q (some (mI (s 407 2))) s) : Wp X d 306 77 [some (mR 407), some (mI x1)] [] s Q := Wp_step k306 f306_77 (Wp_step k306 f306_78 ⟨kf_407, Wp_step k306 f306_81 ⟨⟨rfl, trivial⟩, h_1⟩⟩)
theorem b306_82 {X : (Nat → Int) × Nat} {d : Nat} {s : mSt} {Q : mQ} {x1 : Int} (h_1 : Q (some (mI (s 407 21))) s) : Wp X d 306 82 [some (mR 407), some (mI x1)] [] s Q := Wp_step k306 f306_82 (Wp_step k306 f306_83 ⟨kf_407, Wp_step k306 f306_86 ⟨⟨rfl, trivial⟩, h_1⟩⟩)
theorem b306_87 {X : (Nat → Int) × Nat} {d : Nat} {s : mSt} {Q : mQ} {x1 : Int} (h_1 : Q (some (mI (s 417 5))) s) : Wp X d 306 87 [some (mR 407), some (mI x1)] [] s Q := Wp_step k306 f306_87 (Wp_step k306 f306_88 ⟨kf_407, 417, rf_407_20, Wp_step k306 f306_91 (Wp_step k306 f306_92 ⟨166, af_417, ⟨by decide, by decide⟩, Wp_step k306 f306_93 ⟨⟨rfl, trivial⟩, h_1⟩⟩)⟩)
theorem b306_94 {X : (Nat → Int) × Nat} {d : Nat} {s : mSt} {Q : mQ} {x1 : Int} (h_1 : Sp X d 221 [mR 407] s (fun r s' => ∃ v : Int, r = some (mI v) ∧ Wp X (d + 1) 306 98 [some (mR 407), some (mI x1)] [mI v] s' Q)) : Wp X (d + 1) 306 94 [some (mR 407), some (mI x1)] [] s Q := Wp_step k306 f306_94 (Wp_step k306 f306_95 ⟨⟨kf_407, Nat.le_of_ble_eq_true rfl⟩, Nat.le_refl _, _, rfl, Sp_E h_1⟩)
theorem b306_98 {X : (Nat → Int) × Nat} {d : Nat} {s : mSt} {Q : mQ} {x1 : Int} {xt0 : Int} (h_1 : Q (some (mI xt0)) s) : Wp X d 306 98 [some (mR 407), some (mI x1)] [mI xt0] s Q := Wp_step k306 f306_98 ⟨⟨rfl, trivial⟩, h_1⟩
theorem b306_99 {X : (Nat → Int) × Nat} {d : Nat} {s : mSt} {Q : mQ} {x1 : Int} (h_1 : Sp X d 226 [mR 407] s (fun r s' => ∃ v : Int, r = some (mI v) ∧ Wp X (d + 1) 306 103 [some (mR 407), some (mI x1)] [mI v] s' Q)) : Wp X (d + 1) 306 99 [some (mR 407), some (mI x1)] [] s Q := Wp_step k306 f306_99 (Wp_step k306 f306_100 ⟨⟨kf_407, Nat.le_of_ble_eq_true rfl⟩, Nat.le_refl _, _, rfl, Sp_E h_1⟩)
theorem b306_103 {X : (Nat → Int) × Nat} {d : Nat} {s : mSt} {Q : mQ} {x1 : Int} {xt0 : Int} (h_1 : Q (some (mI xt0)) s) : Wp X d 306 103 [some (mR 407), some (mI x1)] [mI xt0] s Q := Wp_step k306 f306_103 ⟨⟨rfl, trivial⟩, h_1⟩
theorem b306_104 {X : (Nat → Int) × Nat} {d : Nat} {s : mSt} {Q : mQ} {x1 : Int} (h_1 : Q (some (mI (s 417 165))) s) : Wp X d 306 104 [some (mR 407), some (mI x1)] [] s Q := Wp_step k306 f306_104 (Wp_step k306 f306_105 ⟨kf_407, 417, rf_407_20, Wp_step k306 f306_108 (Wp_step k306 f306_111 ⟨166, af_417, ⟨by decide, by decide⟩, Wp_step k306 f306_112 ⟨⟨rfl, trivial⟩, h_1⟩⟩)⟩)
theorem b306_113 {X : (Nat → Int) × Nat} {d : Nat} {s : mSt} {Q : mQ} {x1 : Int} (h_1 : Q (some (mI (s 407 37))) s) : Wp X d 306 113 [some (mR 407), some (mI x1)] [] s Q := Wp_step k306 f306_113 (Wp_step k306 f306_114 ⟨kf_407, Wp_step k306 f306_117 ⟨⟨rfl, trivial⟩, h_1⟩⟩)
theorem b306_118 {X : (Nat → Int) × Nat} {d : Nat} {s : mSt} {Q : mQ} {x1 : Int} (h_1 : Q (some (mI (s 407 22))) s) : Wp X d 306 118 [some (mR 407), some (mI x1)] [] s Q := Wp_step k306 f306_118 (Wp_step k306 f306_119 ⟨kf_407, Wp_step k306 f306_122 ⟨⟨rfl, trivial⟩, h_1⟩⟩)
theorem b306_123 {X : (Nat → Int) × Nat} {d : Nat} {s : mSt} {Q : mQ} {x1 : Int} (h_1 : Q (some (mI (s 407 1))) s) : Wp X d 306 123 [some (mR 407), some (mI x1)] [] s Q := Wp_step k306 f306_123 (Wp_step k306 f306_124 ⟨kf_407, Wp_step k306 f306_127 ⟨⟨rfl, trivial⟩, h_1⟩⟩)
theorem b306_128 {X : (Nat → Int) × Nat} {d : Nat} {s : mSt} {Q : mQ} {x1 : Int} (h_1 : Q (some (mI (-1))) s) : Wp X d 306 128 [some (mR 407), some (mI x1)] [] s Q := Wp_step k306 f306_128 (Wp_step k306 f306_129 ⟨⟨rfl, trivial⟩, h_1⟩)
theorem e306 {X : (Nat → Int) × Nat} {d : Nat} {s : mSt} {Q : mQ} {x1 : Int} (h : Wp X d 306 0 [some (mR 407), some (mI x1)] [] s Q) : Sp X d 306 [mR 407, mI x1] s Q := Sp_of (show mCe 306 = 0 by decide +kernel) (by rw [show mML 306 = 2 by decide +kernel]; rfl) (Nat.le_trans (Nat.le_of_ble_eq_true (show Nat.ble (mArgs _).length 2 = true from rfl)) (show 2 ≤ mML 306 by decide +kernel)) h
-- 307 ClashDayModel.image(I)I
theorem k307 : mRk 307 = 1 := by decide +kernel
theorem f307_0 : mFetch 307 0 = some (.iload_n 1, 1, 0, 0, 0, 0) := by decide +kernel
theorem f307_1 : mFetch 307 1 = some (.i2l, 1, 0, 0, 0, 0) := by decide +kernel
theorem f307_2 : mFetch 307 2 = some (.lconst 0, 1, 0, 0, 0, 0) := by decide +kernel
theorem f307_3 : mFetch 307 3 = some (.ldc2_w 575, 3, 3, 0, 0, 0) := by decide +kernel
theorem f307_6 : mFetch 307 6 = some (.invokestatic 151, 3, 167, 0, 3, 99) := by decide +kernel
theorem f307_9 : mFetch 307 9 = some (.ifCond .ne 5, 3, 14, 0, 0, 0) := by decide +kernel
theorem f307_12 : mFetch 307 12 = some (.iconst (-1), 1, 0, 0, 0, 0) := by decide +kernel
theorem f307_13 : mFetch 307 13 = some (.ireturn, 1, 0, 0, 0, 0) := by decide +kernel
theorem f307_14 : mFetch 307 14 = some (.aload_n 0, 1, 0, 0, 0, 0) := by decide +kernel
theorem f307_15 : mFetch 307 15 = some (.getfield 110, 3, 12, 57, 2, 1) := by decide +kernel
theorem f307_18 : mFetch 307 18 = some (.iload_n 1, 1, 0, 0, 0, 0) := by decide +kernel
theorem f307_19 : mFetch 307 19 = some (.iconst 1, 1, 0, 0, 0, 0) := by decide +kernel
theorem f307_20 : mFetch 307 20 = some (.bastore, 1, 0, 0, 0, 0) := by decide +kernel
theorem f307_21 : mFetch 307 21 = some (.aload_n 0, 1, 0, 0, 0, 0) := by decide +kernel
theorem f307_22 : mFetch 307 22 = some (.getfield 104, 3, 12, 55, 2, 1) := by decide +kernel
theorem f307_25 : mFetch 307 25 = some (.iload_n 1, 1, 0, 0, 0, 0) := by decide +kernel
theorem f307_26 : mFetch 307 26 = some (.aload_n 0, 1, 0, 0, 0, 0) := by decide +kernel
theorem f307_27 : mFetch 307 27 = some (.getfield 42, 3, 12, 21, 0, 1) := by decide +kernel
theorem f307_30 : mFetch 307 30 = some (.iastore, 1, 0, 0, 0, 0) := by decide +kernel
theorem f307_31 : mFetch 307 31 = some (.aload_n 0, 1, 0, 0, 0, 0) := by decide +kernel
theorem f307_32 : mFetch 307 32 = some (.getfield 107, 3, 12, 56, 2, 1) := by decide +kernel
theorem f307_35 : mFetch 307 35 = some (.iload_n 1, 1, 0, 0, 0, 0) := by decide +kernel
theorem f307_36 : mFetch 307 36 = some (.aload_n 0, 1, 0, 0, 0, 0) := by decide +kernel
theorem f307_37 : mFetch 307 37 = some (.getfield 555, 3, 12, 22, 0, 1) := by decide +kernel
theorem f307_40 : mFetch 307 40 = some (.iastore, 1, 0, 0, 0, 0) := by decide +kernel
theorem f307_41 : mFetch 307 41 = some (.iconst 0, 1, 0, 0, 0, 0) := by decide +kernel
theorem f307_42 : mFetch 307 42 = some (.istore_n 2, 1, 0, 0, 0, 0) := by decide +kernel
theorem f307_43 : mFetch 307 43 = some (.iload_n 2, 1, 0, 0, 0, 0) := by decide +kernel
theorem f307_44 : mFetch 307 44 = some (.sipush 166, 3, 0, 0, 0, 0) := by decide +kernel
theorem f307_47 : mFetch 307 47 = some (.if_icmp .ge 27, 3, 74, 0, 0, 0) := by decide +kernel
theorem f307_50 : mFetch 307 50 = some (.aload_n 0, 1, 0, 0, 0, 0) := by decide +kernel
theorem f307_51 : mFetch 307 51 = some (.getfield 101, 3, 12, 54, 2, 1) := by decide +kernel
theorem f307_54 : mFetch 307 54 = some (.sipush 166, 3, 0, 0, 0, 0) := by decide +kernel
theorem f307_57 : mFetch 307 57 = some (.iload_n 1, 1, 0, 0, 0, 0) := by decide +kernel
theorem f307_58 : mFetch 307 58 = some (.imul, 1, 0, 0, 0, 0) := by decide +kernel
theorem f307_59 : mFetch 307 59 = some (.iload_n 2, 1, 0, 0, 0, 0) := by decide +kernel
theorem f307_60 : mFetch 307 60 = some (.iadd, 1, 0, 0, 0, 0) := by decide +kernel
theorem f307_61 : mFetch 307 61 = some (.aload_n 0, 1, 0, 0, 0, 0) := by decide +kernel
theorem f307_62 : mFetch 307 62 = some (.getfield 39, 3, 12, 20, 2, 1) := by decide +kernel
theorem f307_65 : mFetch 307 65 = some (.iload_n 2, 1, 0, 0, 0, 0) := by decide +kernel
theorem f307_66 : mFetch 307 66 = some (.iaload, 1, 0, 0, 0, 0) := by decide +kernel
theorem f307_67 : mFetch 307 67 = some (.iastore, 1, 0, 0, 0, 0) := by decide +kernel
theorem f307_68 : mFetch 307 68 = some (.iinc 2 1, 3, 0, 0, 0, 0) := by decide +kernel
theorem f307_71 : mFetch 307 71 = some (.goto (-28), 3, 43, 0, 0, 0) := by decide +kernel
theorem f307_74 : mFetch 307 74 = some (.aload_n 0, 1, 0, 0, 0, 0) := by decide +kernel
theorem f307_75 : mFetch 307 75 = some (.getfield 39, 3, 12, 20, 2, 1) := by decide +kernel
theorem f307_78 : mFetch 307 78 = some (.iconst 5, 1, 0, 0, 0, 0) := by decide +kernel
theorem f307_79 : mFetch 307 79 = some (.iaload, 1, 0, 0, 0, 0) := by decide +kernel
theorem f307_80 : mFetch 307 80 = some (.ireturn, 1, 0, 0, 0, 0) := by decide +kernel
theorem b307_0 {X : (Nat → Int) × Nat} {d : Nat} {s : mSt} {Q : mQ} {x1 : Int} {l2 : Option mV} (h_1 : Sp X d 167 [mJ x1, mJ 0, mJ 3] s (fun r s' => ∃ v : Int, r = some (mI v) ∧ Wp X (d + 1) 307 9 [some (mR 407), some (mI x1), l2] [mI v] s' Q)) : Wp X (d + 1) 307 0 [some (mR 407), some (mI x1), l2] [] s Q := Wp_step k307 f307_0 (Wp_step k307 f307_1 (Wp_step k307 f307_2 (Wp_step k307 f307_3 (Wp_step k307 f307_6 ⟨⟨Nat.le_of_ble_eq_true rfl, Nat.le_refl _⟩, _, rfl, Sp_E h_1⟩))))
theorem b307_9 {X : (Nat → Int) × Nat} {d : Nat} {s : mSt} {Q : mQ} {x1 : Int} {l2 : Option mV} {xt0 : Int} (h_1 : ¬ xt0 = 0 → Wp X d 307 14 [some (mR 407), some (mI x1), l2] [] s Q) (h_2 : xt0 = 0 → Wp X d 307 12 [some (mR 407), some (mI x1), l2] [] s Q) : Wp X d 307 9 [some (mR 407), some (mI x1), l2] [mI xt0] s Q := Wp_step k307 f307_9 ⟨h_1, h_2⟩
theorem b307_12 {X : (Nat → Int) × Nat} {d : Nat} {s : mSt} {Q : mQ} {x1 : Int} {l2 : Option mV} (h_1 : Q (some (mI (-1))) s) : Wp X d 307 12 [some (mR 407), some (mI x1), l2] [] s Q := Wp_step k307 f307_12 (Wp_step k307 f307_13 ⟨⟨rfl, trivial⟩, h_1⟩)
theorem b307_14 {X : (Nat → Int) × Nat} {d : Nat} {s : mSt} {Q : mQ} {x1 : Int} {l2 : Option mV} (h_1 : 0 ≤ x1 ∧ x1 < 4) (h_2 : 0 ≤ x1 ∧ x1 < 4) (h_3 : 0 ≤ x1 ∧ x1 < 4) (h_4 : Wp X d 307 43 [some (mR 407), some (mI x1), some (mI 0)] [] (uS (uS (uS s 439 x1.toNat 1) 437 x1.toNat ((uS s 439 x1.toNat 1) 407 21)) 438 x1.toNat ((uS (uS s 439 x1.toNat 1) 437 x1.toNat ((uS s 439 x1.toNat 1) 407 21)) 407 22)) Q) : Wp X d 307 14 [some (mR 407), some (mI x1), l2] [] s Q := Wp_step k307 f307_14 (Wp_step k307 f307_15 ⟨kf_407, 439, rf_407_57, Wp_step k307 f307_18 (Wp_step k307 f307_19 (Wp_step k307 f307_20 ⟨24, 4, af_439, Or.inr ⟨rfl, Or.inr rfl⟩, h_1, Wp_step k307 f307_21 (Wp_step k307 f307_22 ⟨kf_407, 437, rf_407_55, Wp_step k307 f307_25 (Wp_step k307 f307_26 (Wp_step k307 f307_27 ⟨kf_407, Wp_step k307 f307_30 ⟨4, af_437, h_2, Wp_step k307 f307_31 (Wp_step k307 f307_32 ⟨kf_407, 438, rf_407_56, Wp_step k307 f307_35 (Wp_step k307 f307_36 (Wp_step k307 f307_37 ⟨kf_407, Wp_step k307 f307_40 ⟨4, af_438, h_3, Wp_step k307 f307_41 (Wp_step k307 f307_42 (h_4))⟩⟩))⟩)⟩⟩))⟩)⟩))⟩)
theorem b307_43 {X : (Nat → Int) × Nat} {d : Nat} {s : mSt} {Q : mQ} {x1 : Int} {x2 : Int} (h_1 : 166 ≤ x2 → Wp X d 307 74 [some (mR 407), some (mI x1), some (mI x2)] [] s Q) (h_2 : ¬ 166 ≤ x2 → Wp X d 307 50 [some (mR 407), some (mI x1), some (mI x2)] [] s Q) : Wp X d 307 43 [some (mR 407), some (mI x1), some (mI x2)] [] s Q := Wp_step k307 f307_43 (Wp_step k307 f307_44 (Wp_step k307 f307_47 ⟨h_1, h_2⟩))
theorem b307_50 {X : (Nat → Int) × Nat} {d : Nat} {s : mSt} {Q : mQ} {x1 : Int} {x2 : Int} (h_1 : 0 ≤ x2 ∧ x2 < 166) (h_2 : 0 ≤ (w32 ((w32 (166 * x1)) + x2)) ∧ (w32 ((w32 (166 * x1)) + x2)) < 664) (h_3 : Wp X d 307 43 [some (mR 407), some (mI x1), some (mI (w32 (x2 + 1)))] [] (uS s 436 ((w32 ((w32 (166 * x1)) + x2)).toNat) (s 417 x2.toNat)) Q) : Wp X d 307 50 [some (mR 407), some (mI x1), some (mI x2)] [] s Q := Wp_step k307 f307_50 (Wp_step k307 f307_51 ⟨kf_407, 436, rf_407_54, Wp_step k307 f307_54 (Wp_step k307 f307_57 (Wp_step k307 f307_58 (Wp_step k307 f307_59 (Wp_step k307 f307_60 (Wp_step k307 f307_61 (Wp_step k307 f307_62 ⟨kf_407, 417, rf_407_20, Wp_step k307 f307_65 (Wp_step k307 f307_66 ⟨166, af_417, h_1, Wp_step k307 f307_67 ⟨664, af_436, h_2, Wp_step k307 f307_68 (Wp_step k307 f307_71 (h_3))⟩⟩)⟩))))))⟩)
theorem b307_74 {X : (Nat → Int) × Nat} {d : Nat} {s : mSt} {Q : mQ} {x1 : Int} {x2 : Int} (h_1 : Q (some (mI (s 417 5))) s) : Wp X d 307 74 [some (mR 407), some (mI x1), some (mI x2)] [] s Q := Wp_step k307 f307_74 (Wp_step k307 f307_75 ⟨kf_407, 417, rf_407_20, Wp_step k307 f307_78 (Wp_step k307 f307_79 ⟨166, af_417, ⟨by decide, by decide⟩, Wp_step k307 f307_80 ⟨⟨rfl, trivial⟩, h_1⟩⟩)⟩)
theorem e307 {X : (Nat → Int) × Nat} {d : Nat} {s : mSt} {Q : mQ} {x1 : Int} (h : Wp X d 307 0 [some (mR 407), some (mI x1), none] [] s Q) : Sp X d 307 [mR 407, mI x1] s Q := Sp_of (show mCe 307 = 0 by decide +kernel) (by rw [show mML 307 = 3 by decide +kernel]; rfl) (Nat.le_trans (Nat.le_of_ble_eq_true (show Nat.ble (mArgs _).length 3 = true from rfl)) (show 3 ≤ mML 307 by decide +kernel)) h
-- 308 ClashDayModel.back(I)I
theorem k308 : mRk 308 = 1 := by decide +kernel
theorem f308_0 : mFetch 308 0 = some (.iload_n 1, 1, 0, 0, 0, 0) := by decide +kernel
theorem f308_1 : mFetch 308 1 = some (.i2l, 1, 0, 0, 0, 0) := by decide +kernel
theorem f308_2 : mFetch 308 2 = some (.lconst 0, 1, 0, 0, 0, 0) := by decide +kernel
theorem f308_3 : mFetch 308 3 = some (.ldc2_w 575, 3, 3, 0, 0, 0) := by decide +kernel
theorem f308_6 : mFetch 308 6 = some (.invokestatic 151, 3, 167, 0, 3, 99) := by decide +kernel
theorem f308_9 : mFetch 308 9 = some (.ifCond .eq 12, 3, 21, 0, 0, 0) := by decide +kernel
theorem f308_12 : mFetch 308 12 = some (.aload_n 0, 1, 0, 0, 0, 0) := by decide +kernel
theorem f308_13 : mFetch 308 13 = some (.getfield 110, 3, 12, 57, 2, 1) := by decide +kernel
theorem f308_16 : mFetch 308 16 = some (.iload_n 1, 1, 0, 0, 0, 0) := by decide +kernel
theorem f308_17 : mFetch 308 17 = some (.baload, 1, 0, 0, 0, 0) := by decide +kernel
theorem f308_18 : mFetch 308 18 = some (.ifCond .ne 5, 3, 23, 0, 0, 0) := by decide +kernel
theorem f308_21 : mFetch 308 21 = some (.iconst (-1), 1, 0, 0, 0, 0) := by decide +kernel
theorem f308_22 : mFetch 308 22 = some (.ireturn, 1, 0, 0, 0, 0) := by decide +kernel
theorem f308_23 : mFetch 308 23 = some (.aload_n 0, 1, 0, 0, 0, 0) := by decide +kernel
theorem f308_24 : mFetch 308 24 = some (.aload_n 0, 1, 0, 0, 0, 0) := by decide +kernel
theorem f308_25 : mFetch 308 25 = some (.getfield 104, 3, 12, 55, 2, 1) := by decide +kernel
theorem f308_28 : mFetch 308 28 = some (.iload_n 1, 1, 0, 0, 0, 0) := by decide +kernel
theorem f308_29 : mFetch 308 29 = some (.iaload, 1, 0, 0, 0, 0) := by decide +kernel
theorem f308_30 : mFetch 308 30 = some (.putfield 42, 3, 12, 21, 0, 1) := by decide +kernel
theorem f308_33 : mFetch 308 33 = some (.aload_n 0, 1, 0, 0, 0, 0) := by decide +kernel
theorem f308_34 : mFetch 308 34 = some (.aload_n 0, 1, 0, 0, 0, 0) := by decide +kernel
theorem f308_35 : mFetch 308 35 = some (.getfield 107, 3, 12, 56, 2, 1) := by decide +kernel
theorem f308_38 : mFetch 308 38 = some (.iload_n 1, 1, 0, 0, 0, 0) := by decide +kernel
theorem f308_39 : mFetch 308 39 = some (.iaload, 1, 0, 0, 0, 0) := by decide +kernel
theorem f308_40 : mFetch 308 40 = some (.putfield 555, 3, 12, 22, 0, 1) := by decide +kernel
theorem f308_43 : mFetch 308 43 = some (.aload_n 0, 1, 0, 0, 0, 0) := by decide +kernel
theorem f308_44 : mFetch 308 44 = some (.iconst 0, 1, 0, 0, 0, 0) := by decide +kernel
theorem f308_45 : mFetch 308 45 = some (.putfield 297, 3, 12, 37, 0, 1) := by decide +kernel
theorem f308_48 : mFetch 308 48 = some (.iconst 0, 1, 0, 0, 0, 0) := by decide +kernel
theorem f308_49 : mFetch 308 49 = some (.istore_n 2, 1, 0, 0, 0, 0) := by decide +kernel
theorem f308_50 : mFetch 308 50 = some (.iload_n 2, 1, 0, 0, 0, 0) := by decide +kernel
theorem f308_51 : mFetch 308 51 = some (.sipush 166, 3, 0, 0, 0, 0) := by decide +kernel
theorem f308_54 : mFetch 308 54 = some (.if_icmp .ge 27, 3, 81, 0, 0, 0) := by decide +kernel
theorem f308_57 : mFetch 308 57 = some (.aload_n 0, 1, 0, 0, 0, 0) := by decide +kernel
theorem f308_58 : mFetch 308 58 = some (.getfield 39, 3, 12, 20, 2, 1) := by decide +kernel
theorem f308_61 : mFetch 308 61 = some (.iload_n 2, 1, 0, 0, 0, 0) := by decide +kernel
theorem f308_62 : mFetch 308 62 = some (.aload_n 0, 1, 0, 0, 0, 0) := by decide +kernel
theorem f308_63 : mFetch 308 63 = some (.getfield 101, 3, 12, 54, 2, 1) := by decide +kernel
theorem f308_66 : mFetch 308 66 = some (.sipush 166, 3, 0, 0, 0, 0) := by decide +kernel
theorem f308_69 : mFetch 308 69 = some (.iload_n 1, 1, 0, 0, 0, 0) := by decide +kernel
theorem f308_70 : mFetch 308 70 = some (.imul, 1, 0, 0, 0, 0) := by decide +kernel
theorem f308_71 : mFetch 308 71 = some (.iload_n 2, 1, 0, 0, 0, 0) := by decide +kernel
theorem f308_72 : mFetch 308 72 = some (.iadd, 1, 0, 0, 0, 0) := by decide +kernel
theorem f308_73 : mFetch 308 73 = some (.iaload, 1, 0, 0, 0, 0) := by decide +kernel
theorem f308_74 : mFetch 308 74 = some (.iastore, 1, 0, 0, 0, 0) := by decide +kernel
theorem f308_75 : mFetch 308 75 = some (.iinc 2 1, 3, 0, 0, 0, 0) := by decide +kernel
theorem f308_78 : mFetch 308 78 = some (.goto (-28), 3, 50, 0, 0, 0) := by decide +kernel
theorem f308_81 : mFetch 308 81 = some (.aload_n 0, 1, 0, 0, 0, 0) := by decide +kernel
theorem f308_82 : mFetch 308 82 = some (.getfield 39, 3, 12, 20, 2, 1) := by decide +kernel
theorem f308_85 : mFetch 308 85 = some (.iconst 5, 1, 0, 0, 0, 0) := by decide +kernel
theorem f308_86 : mFetch 308 86 = some (.iaload, 1, 0, 0, 0, 0) := by decide +kernel
theorem f308_87 : mFetch 308 87 = some (.ireturn, 1, 0, 0, 0, 0) := by decide +kernel
theorem b308_0 {X : (Nat → Int) × Nat} {d : Nat} {s : mSt} {Q : mQ} {x1 : Int} {l2 : Option mV} (h_1 : Sp X d 167 [mJ x1, mJ 0, mJ 3] s (fun r s' => ∃ v : Int, r = some (mI v) ∧ Wp X (d + 1) 308 9 [some (mR 407), some (mI x1), l2] [mI v] s' Q)) : Wp X (d + 1) 308 0 [some (mR 407), some (mI x1), l2] [] s Q := Wp_step k308 f308_0 (Wp_step k308 f308_1 (Wp_step k308 f308_2 (Wp_step k308 f308_3 (Wp_step k308 f308_6 ⟨⟨Nat.le_of_ble_eq_true rfl, Nat.le_refl _⟩, _, rfl, Sp_E h_1⟩))))
theorem b308_9 {X : (Nat → Int) × Nat} {d : Nat} {s : mSt} {Q : mQ} {x1 : Int} {l2 : Option mV} {xt0 : Int} (h_1 : xt0 = 0 → Wp X d 308 21 [some (mR 407), some (mI x1), l2] [] s Q) (h_2 : ¬ xt0 = 0 → Wp X d 308 12 [some (mR 407), some (mI x1), l2] [] s Q) : Wp X d 308 9 [some (mR 407), some (mI x1), l2] [mI xt0] s Q := Wp_step k308 f308_9 ⟨h_1, h_2⟩
theorem b308_12 {X : (Nat → Int) × Nat} {d : Nat} {s : mSt} {Q : mQ} {x1 : Int} {l2 : Option mV} (h_1 : 0 ≤ x1 ∧ x1 < 4) (h_2 : ¬ (s 439 x1.toNat) = 0 → Wp X d 308 23 [some (mR 407), some (mI x1), l2] [] s Q) (h_3 : (s 439 x1.toNat) = 0 → Wp X d 308 21 [some (mR 407), some (mI x1), l2] [] s Q) : Wp X d 308 12 [some (mR 407), some (mI x1), l2] [] s Q := Wp_step k308 f308_12 (Wp_step k308 f308_13 ⟨kf_407, 439, rf_407_57, Wp_step k308 f308_16 (Wp_step k308 f308_17 ⟨24, 4, af_439, (Or.inr rfl), h_1, Wp_step k308 f308_18 ⟨h_2, h_3⟩⟩)⟩)
theorem b308_21 {X : (Nat → Int) × Nat} {d : Nat} {s : mSt} {Q : mQ} {x1 : Int} {l2 : Option mV} (h_1 : Q (some (mI (-1))) s) : Wp X d 308 21 [some (mR 407), some (mI x1), l2] [] s Q := Wp_step k308 f308_21 (Wp_step k308 f308_22 ⟨⟨rfl, trivial⟩, h_1⟩)
theorem b308_23 {X : (Nat → Int) × Nat} {d : Nat} {s : mSt} {Q : mQ} {x1 : Int} {l2 : Option mV} (h_1 : 0 ≤ x1 ∧ x1 < 4) (h_2 : 0 ≤ x1 ∧ x1 < 4) (h_3 : Wp X d 308 50 [some (mR 407), some (mI x1), some (mI 0)] [] (uS (uS (uS s 407 21 (s 437 x1.toNat)) 407 22 ((uS s 407 21 (s 437 x1.toNat)) 438 x1.toNat)) 407 37 0) Q) : Wp X d 308 23 [some (mR 407), some (mI x1), l2] [] s Q := Wp_step k308 f308_23 (Wp_step k308 f308_24 (Wp_step k308 f308_25 ⟨kf_407, 437, rf_407_55, Wp_step k308 f308_28 (Wp_step k308 f308_29 ⟨4, af_437, h_1, Wp_step k308 f308_30 ⟨kf_407, Wp_step k308 f308_33 (Wp_step k308 f308_34 (Wp_step k308 f308_35 ⟨kf_407, 438, rf_407_56, Wp_step k308 f308_38 (Wp_step k308 f308_39 ⟨4, af_438, h_2, Wp_step k308 f308_40 ⟨kf_407, Wp_step k308 f308_43 (Wp_step k308 f308_44 (Wp_step k308 f308_45 ⟨kf_407, Wp_step k308 f308_48 (Wp_step k308 f308_49 (h_3))⟩))⟩⟩)⟩))⟩⟩)⟩))
theorem b308_50 {X : (Nat → Int) × Nat} {d : Nat} {s : mSt} {Q : mQ} {x1 : Int} {x2 : Int} (h_1 : 166 ≤ x2 → Wp X d 308 81 [some (mR 407), some (mI x1), some (mI x2)] [] s Q) (h_2 : ¬ 166 ≤ x2 → Wp X d 308 57 [some (mR 407), some (mI x1), some (mI x2)] [] s Q) : Wp X d 308 50 [some (mR 407), some (mI x1), some (mI x2)] [] s Q := Wp_step k308 f308_50 (Wp_step k308 f308_51 (Wp_step k308 f308_54 ⟨h_1, h_2⟩))
theorem b308_57 {X : (Nat → Int) × Nat} {d : Nat} {s : mSt} {Q : mQ} {x1 : Int} {x2 : Int} (h_1 : 0 ≤ (w32 ((w32 (166 * x1)) + x2)) ∧ (w32 ((w32 (166 * x1)) + x2)) < 664) (h_2 : 0 ≤ x2 ∧ x2 < 166) (h_3 : Wp X d 308 50 [some (mR 407), some (mI x1), some (mI (w32 (x2 + 1)))] [] (uS s 417 x2.toNat (s 436 (w32 ((w32 (166 * x1)) + x2)).toNat)) Q) : Wp X d 308 57 [some (mR 407), some (mI x1), some (mI x2)] [] s Q := Wp_step k308 f308_57 (Wp_step k308 f308_58 ⟨kf_407, 417, rf_407_20, Wp_step k308 f308_61 (Wp_step k308 f308_62 (Wp_step k308 f308_63 ⟨kf_407, 436, rf_407_54, Wp_step k308 f308_66 (Wp_step k308 f308_69 (Wp_step k308 f308_70 (Wp_step k308 f308_71 (Wp_step k308 f308_72 (Wp_step k308 f308_73 ⟨664, af_436, h_1, Wp_step k308 f308_74 ⟨166, af_417, h_2, Wp_step k308 f308_75 (Wp_step k308 f308_78 (h_3))⟩⟩)))))⟩))⟩)
theorem b308_81 {X : (Nat → Int) × Nat} {d : Nat} {s : mSt} {Q : mQ} {x1 : Int} {x2 : Int} (h_1 : Q (some (mI (s 417 5))) s) : Wp X d 308 81 [some (mR 407), some (mI x1), some (mI x2)] [] s Q := Wp_step k308 f308_81 (Wp_step k308 f308_82 ⟨kf_407, 417, rf_407_20, Wp_step k308 f308_85 (Wp_step k308 f308_86 ⟨166, af_417, ⟨by decide, by decide⟩, Wp_step k308 f308_87 ⟨⟨rfl, trivial⟩, h_1⟩⟩)⟩)
theorem e308 {X : (Nat → Int) × Nat} {d : Nat} {s : mSt} {Q : mQ} {x1 : Int} (h : Wp X d 308 0 [some (mR 407), some (mI x1), none] [] s Q) : Sp X d 308 [mR 407, mI x1] s Q := Sp_of (show mCe 308 = 0 by decide +kernel) (by rw [show mML 308 = 3 by decide +kernel]; rfl) (Nat.le_trans (Nat.le_of_ble_eq_true (show Nat.ble (mArgs _).length 3 = true from rfl)) (show 3 ≤ mML 308 by decide +kernel)) h
-- 309 java/lang/Integer.bitCount(I)I
theorem k309 : mRk 309 = 1 := by decide +kernel
theorem f309_0 : mFetch 309 0 = some (.iload_n 0, 1, 0, 0, 0, 0) := by decide +kernel
theorem f309_1 : mFetch 309 1 = some (.iload_n 0, 1, 0, 0, 0, 0) := by decide +kernel
theorem f309_2 : mFetch 309 2 = some (.iconst 1, 1, 0, 0, 0, 0) := by decide +kernel
theorem f309_3 : mFetch 309 3 = some (.iushr, 1, 0, 0, 0, 0) := by decide +kernel
theorem f309_4 : mFetch 309 4 = some (.ldc_w 265, 3, 1431655765, 0, 0, 0) := by decide +kernel
theorem f309_7 : mFetch 309 7 = some (.iand, 1, 0, 0, 0, 0) := by decide +kernel
theorem f309_8 : mFetch 309 8 = some (.isub, 1, 0, 0, 0, 0) := by decide +kernel
theorem f309_9 : mFetch 309 9 = some (.istore_n 0, 1, 0, 0, 0, 0) := by decide +kernel
theorem f309_10 : mFetch 309 10 = some (.iload_n 0, 1, 0, 0, 0, 0) := by decide +kernel
theorem f309_11 : mFetch 309 11 = some (.ldc_w 266, 3, 858993459, 0, 0, 0) := by decide +kernel
theorem f309_14 : mFetch 309 14 = some (.iand, 1, 0, 0, 0, 0) := by decide +kernel
theorem f309_15 : mFetch 309 15 = some (.iload_n 0, 1, 0, 0, 0, 0) := by decide +kernel
theorem f309_16 : mFetch 309 16 = some (.iconst 2, 1, 0, 0, 0, 0) := by decide +kernel
theorem f309_17 : mFetch 309 17 = some (.iushr, 1, 0, 0, 0, 0) := by decide +kernel
theorem f309_18 : mFetch 309 18 = some (.ldc_w 266, 3, 858993459, 0, 0, 0) := by decide +kernel
theorem f309_21 : mFetch 309 21 = some (.iand, 1, 0, 0, 0, 0) := by decide +kernel
theorem f309_22 : mFetch 309 22 = some (.iadd, 1, 0, 0, 0, 0) := by decide +kernel
theorem f309_23 : mFetch 309 23 = some (.istore_n 0, 1, 0, 0, 0, 0) := by decide +kernel
theorem f309_24 : mFetch 309 24 = some (.iload_n 0, 1, 0, 0, 0, 0) := by decide +kernel
theorem f309_25 : mFetch 309 25 = some (.iload_n 0, 1, 0, 0, 0, 0) := by decide +kernel
theorem f309_26 : mFetch 309 26 = some (.iconst 4, 1, 0, 0, 0, 0) := by decide +kernel
theorem f309_27 : mFetch 309 27 = some (.iushr, 1, 0, 0, 0, 0) := by decide +kernel
theorem f309_28 : mFetch 309 28 = some (.iadd, 1, 0, 0, 0, 0) := by decide +kernel
theorem f309_29 : mFetch 309 29 = some (.ldc_w 267, 3, 252645135, 0, 0, 0) := by decide +kernel
theorem f309_32 : mFetch 309 32 = some (.iand, 1, 0, 0, 0, 0) := by decide +kernel
theorem f309_33 : mFetch 309 33 = some (.istore_n 0, 1, 0, 0, 0, 0) := by decide +kernel
theorem f309_34 : mFetch 309 34 = some (.iload_n 0, 1, 0, 0, 0, 0) := by decide +kernel
theorem f309_35 : mFetch 309 35 = some (.iload_n 0, 1, 0, 0, 0, 0) := by decide +kernel
theorem f309_36 : mFetch 309 36 = some (.bipush 8, 2, 0, 0, 0, 0) := by decide +kernel
theorem f309_38 : mFetch 309 38 = some (.iushr, 1, 0, 0, 0, 0) := by decide +kernel
theorem f309_39 : mFetch 309 39 = some (.iadd, 1, 0, 0, 0, 0) := by decide +kernel
theorem f309_40 : mFetch 309 40 = some (.istore_n 0, 1, 0, 0, 0, 0) := by decide +kernel
theorem f309_41 : mFetch 309 41 = some (.iload_n 0, 1, 0, 0, 0, 0) := by decide +kernel
theorem f309_42 : mFetch 309 42 = some (.iload_n 0, 1, 0, 0, 0, 0) := by decide +kernel
theorem f309_43 : mFetch 309 43 = some (.bipush 16, 2, 0, 0, 0, 0) := by decide +kernel
theorem f309_45 : mFetch 309 45 = some (.iushr, 1, 0, 0, 0, 0) := by decide +kernel
theorem f309_46 : mFetch 309 46 = some (.iadd, 1, 0, 0, 0, 0) := by decide +kernel
theorem f309_47 : mFetch 309 47 = some (.istore_n 0, 1, 0, 0, 0, 0) := by decide +kernel
theorem f309_48 : mFetch 309 48 = some (.iload_n 0, 1, 0, 0, 0, 0) := by decide +kernel
theorem f309_49 : mFetch 309 49 = some (.bipush 63, 2, 0, 0, 0, 0) := by decide +kernel
theorem f309_51 : mFetch 309 51 = some (.iand, 1, 0, 0, 0, 0) := by decide +kernel
theorem f309_52 : mFetch 309 52 = some (.ireturn, 1, 0, 0, 0, 0) := by decide +kernel
theorem b309_0 {X : (Nat → Int) × Nat} {d : Nat} {s : mSt} {Q : mQ} {x0 : Int} (h_1 : Q (some (mI (iAnd (w32 ((w32 ((iAnd (w32 ((w32 ((iAnd (w32 (x0 - (iAnd (iUsh x0 1) 1431655765))) 858993459) + (iAnd (iUsh (w32 (x0 - (iAnd (iUsh x0 1) 1431655765))) 2) 858993459))) + (iUsh (w32 ((iAnd (w32 (x0 - (iAnd (iUsh x0 1) 1431655765))) 858993459) + (iAnd (iUsh (w32 (x0 - (iAnd (iUsh x0 1) 1431655765))) 2) 858993459))) 4))) 252645135) + (iUsh (iAnd (w32 ((w32 ((iAnd (w32 (x0 - (iAnd (iUsh x0 1) 1431655765))) 858993459) + (iAnd (iUsh (w32 (x0 - (iAnd (iUsh x0 1) 1431655765))) 2) 858993459))) + (iUsh (w32 ((iAnd (w32 (x0 - (iAnd (iUsh x0 1) 1431655765))) 858993459) + (iAnd (iUsh (w32 (x0 - (iAnd (iUsh x0 1) 1431655765))) 2) 858993459))) 4))) 252645135) 8))) + (iUsh (w32 ((iAnd (w32 ((w32 ((iAnd (w32 (x0 - (iAnd (iUsh x0 1) 1431655765))) 858993459) + (iAnd (iUsh (w32 (x0 - (iAnd (iUsh x0 1) 1431655765))) 2) 858993459))) + (iUsh (w32 ((iAnd (w32 (x0 - (iAnd (iUsh x0 1) 1431655765))) 858993459) + (iAnd (iUsh (w32 (x0 - (iAnd (iUsh x0 1) 1431655765))) 2) 858993459))) 4))) 252645135) + (iUsh (iAnd (w32 ((w32 ((iAnd (w32 (x0 - (iAnd (iUsh x0 1) 1431655765))) 858993459) + (iAnd (iUsh (w32 (x0 - (iAnd (iUsh x0 1) 1431655765))) 2) 858993459))) + (iUsh (w32 ((iAnd (w32 (x0 - (iAnd (iUsh x0 1) 1431655765))) 858993459) + (iAnd (iUsh (w32 (x0 - (iAnd (iUsh x0 1) 1431655765))) 2) 858993459))) 4))) 252645135) 8))) 16))) 63))) s) : Wp X d 309 0 [some (mI x0)] [] s Q := Wp_step k309 f309_0 (Wp_step k309 f309_1 (Wp_step k309 f309_2 (Wp_step k309 f309_3 (Wp_step k309 f309_4 (Wp_step k309 f309_7 (Wp_step k309 f309_8 (Wp_step k309 f309_9 (Wp_step k309 f309_10 (Wp_step k309 f309_11 (Wp_step k309 f309_14 (Wp_step k309 f309_15 (Wp_step k309 f309_16 (Wp_step k309 f309_17 (Wp_step k309 f309_18 (Wp_step k309 f309_21 (Wp_step k309 f309_22 (Wp_step k309 f309_23 (Wp_step k309 f309_24 (Wp_step k309 f309_25 (Wp_step k309 f309_26 (Wp_step k309 f309_27 (Wp_step k309 f309_28 (Wp_step k309 f309_29 (Wp_step k309 f309_32 (Wp_step k309 f309_33 (Wp_step k309 f309_34 (Wp_step k309 f309_35 (Wp_step k309 f309_36 (Wp_step k309 f309_38 (Wp_step k309 f309_39 (Wp_step k309 f309_40 (Wp_step k309 f309_41 (Wp_step k309 f309_42 (Wp_step k309 f309_43 (Wp_step k309 f309_45 (Wp_step k309 f309_46 (Wp_step k309 f309_47 (Wp_step k309 f309_48 (Wp_step k309 f309_49 (Wp_step k309 f309_51 (Wp_step k309 f309_52 ⟨⟨rfl, trivial⟩, h_1⟩)))))))))))))))))))))))))))))))))))))))))
theorem e309 {X : (Nat → Int) × Nat} {d : Nat} {s : mSt} {Q : mQ} {x0 : Int} (h : Wp X d 309 0 [some (mI x0)] [] s Q) : Sp X d 309 [mI x0] s Q := Sp_of (show mCe 309 = 0 by decide +kernel) (by rw [show mML 309 = 1 by decide +kernel]; rfl) (Nat.le_trans (Nat.le_of_ble_eq_true (show Nat.ble (mArgs _).length 1 = true from rfl)) (show 1 ≤ mML 309 by decide +kernel)) h
-- 310 java/lang/Integer.numberOfTrailingZeros(I)I
theorem k310 : mRk 310 = 1 := by decide +kernel
theorem f310_0 : mFetch 310 0 = some (.iload_n 0, 1, 0, 0, 0, 0) := by decide +kernel
theorem f310_1 : mFetch 310 1 = some (.iconst (-1), 1, 0, 0, 0, 0) := by decide +kernel
theorem f310_2 : mFetch 310 2 = some (.ixor, 1, 0, 0, 0, 0) := by decide +kernel
theorem f310_3 : mFetch 310 3 = some (.iload_n 0, 1, 0, 0, 0, 0) := by decide +kernel
theorem f310_4 : mFetch 310 4 = some (.iconst 1, 1, 0, 0, 0, 0) := by decide +kernel
theorem f310_5 : mFetch 310 5 = some (.isub, 1, 0, 0, 0, 0) := by decide +kernel
theorem f310_6 : mFetch 310 6 = some (.iand, 1, 0, 0, 0, 0) := by decide +kernel
theorem f310_7 : mFetch 310 7 = some (.istore_n 0, 1, 0, 0, 0, 0) := by decide +kernel
theorem f310_8 : mFetch 310 8 = some (.iload_n 0, 1, 0, 0, 0, 0) := by decide +kernel
theorem f310_9 : mFetch 310 9 = some (.ifCond .gt 8, 3, 17, 0, 0, 0) := by decide +kernel
theorem f310_12 : mFetch 310 12 = some (.iload_n 0, 1, 0, 0, 0, 0) := by decide +kernel
theorem f310_13 : mFetch 310 13 = some (.bipush 32, 2, 0, 0, 0, 0) := by decide +kernel
theorem f310_15 : mFetch 310 15 = some (.iand, 1, 0, 0, 0, 0) := by decide +kernel
theorem f310_16 : mFetch 310 16 = some (.ireturn, 1, 0, 0, 0, 0) := by decide +kernel
theorem f310_17 : mFetch 310 17 = some (.iconst 1, 1, 0, 0, 0, 0) := by decide +kernel
theorem f310_18 : mFetch 310 18 = some (.istore_n 1, 1, 0, 0, 0, 0) := by decide +kernel
theorem f310_19 : mFetch 310 19 = some (.iload_n 0, 1, 0, 0, 0, 0) := by decide +kernel
theorem f310_20 : mFetch 310 20 = some (.ldc_w 264, 3, 65536, 0, 0, 0) := by decide +kernel
theorem f310_23 : mFetch 310 23 = some (.if_icmp .le 11, 3, 34, 0, 0, 0) := by decide +kernel
theorem f310_26 : mFetch 310 26 = some (.iinc 1 16, 3, 0, 0, 0, 0) := by decide +kernel
theorem f310_29 : mFetch 310 29 = some (.iload_n 0, 1, 0, 0, 0, 0) := by decide +kernel
theorem f310_30 : mFetch 310 30 = some (.bipush 16, 2, 0, 0, 0, 0) := by decide +kernel
theorem f310_32 : mFetch 310 32 = some (.iushr, 1, 0, 0, 0, 0) := by decide +kernel
theorem f310_33 : mFetch 310 33 = some (.istore_n 0, 1, 0, 0, 0, 0) := by decide +kernel
theorem f310_34 : mFetch 310 34 = some (.iload_n 0, 1, 0, 0, 0, 0) := by decide +kernel
theorem f310_35 : mFetch 310 35 = some (.sipush 256, 3, 0, 0, 0, 0) := by decide +kernel
theorem f310_38 : mFetch 310 38 = some (.if_icmp .le 11, 3, 49, 0, 0, 0) := by decide +kernel
theorem f310_41 : mFetch 310 41 = some (.iinc 1 8, 3, 0, 0, 0, 0) := by decide +kernel
theorem f310_44 : mFetch 310 44 = some (.iload_n 0, 1, 0, 0, 0, 0) := by decide +kernel
theorem f310_45 : mFetch 310 45 = some (.bipush 8, 2, 0, 0, 0, 0) := by decide +kernel
theorem f310_47 : mFetch 310 47 = some (.iushr, 1, 0, 0, 0, 0) := by decide +kernel
theorem f310_48 : mFetch 310 48 = some (.istore_n 0, 1, 0, 0, 0, 0) := by decide +kernel
theorem f310_49 : mFetch 310 49 = some (.iload_n 0, 1, 0, 0, 0, 0) := by decide +kernel
theorem f310_50 : mFetch 310 50 = some (.bipush 16, 2, 0, 0, 0, 0) := by decide +kernel
theorem f310_52 : mFetch 310 52 = some (.if_icmp .le 10, 3, 62, 0, 0, 0) := by decide +kernel
theorem f310_55 : mFetch 310 55 = some (.iinc 1 4, 3, 0, 0, 0, 0) := by decide +kernel
theorem f310_58 : mFetch 310 58 = some (.iload_n 0, 1, 0, 0, 0, 0) := by decide +kernel
theorem f310_59 : mFetch 310 59 = some (.iconst 4, 1, 0, 0, 0, 0) := by decide +kernel
theorem f310_60 : mFetch 310 60 = some (.iushr, 1, 0, 0, 0, 0) := by decide +kernel
theorem f310_61 : mFetch 310 61 = some (.istore_n 0, 1, 0, 0, 0, 0) := by decide +kernel
theorem f310_62 : mFetch 310 62 = some (.iload_n 0, 1, 0, 0, 0, 0) := by decide +kernel
theorem f310_63 : mFetch 310 63 = some (.iconst 4, 1, 0, 0, 0, 0) := by decide +kernel
theorem f310_64 : mFetch 310 64 = some (.if_icmp .le 10, 3, 74, 0, 0, 0) := by decide +kernel
theorem f310_67 : mFetch 310 67 = some (.iinc 1 2, 3, 0, 0, 0, 0) := by decide +kernel
theorem f310_70 : mFetch 310 70 = some (.iload_n 0, 1, 0, 0, 0, 0) := by decide +kernel
theorem f310_71 : mFetch 310 71 = some (.iconst 2, 1, 0, 0, 0, 0) := by decide +kernel
theorem f310_72 : mFetch 310 72 = some (.iushr, 1, 0, 0, 0, 0) := by decide +kernel
theorem f310_73 : mFetch 310 73 = some (.istore_n 0, 1, 0, 0, 0, 0) := by decide +kernel
theorem f310_74 : mFetch 310 74 = some (.iload_n 1, 1, 0, 0, 0, 0) := by decide +kernel
theorem f310_75 : mFetch 310 75 = some (.iload_n 0, 1, 0, 0, 0, 0) := by decide +kernel
theorem f310_76 : mFetch 310 76 = some (.iconst 1, 1, 0, 0, 0, 0) := by decide +kernel
theorem f310_77 : mFetch 310 77 = some (.iushr, 1, 0, 0, 0, 0) := by decide +kernel
theorem f310_78 : mFetch 310 78 = some (.iadd, 1, 0, 0, 0, 0) := by decide +kernel
theorem f310_79 : mFetch 310 79 = some (.ireturn, 1, 0, 0, 0, 0) := by decide +kernel
theorem b310_0 {X : (Nat → Int) × Nat} {d : Nat} {s : mSt} {Q : mQ} {x0 : Int} {l1 : Option mV} (h_1 : 0 < (iAnd (iXor x0 (-1)) (w32 (x0 - 1))) → Wp X d 310 17 [some (mI (iAnd (iXor x0 (-1)) (w32 (x0 - 1)))), l1] [] s Q) (h_2 : ¬ 0 < (iAnd (iXor x0 (-1)) (w32 (x0 - 1))) → Wp X d 310 12 [some (mI (iAnd (iXor x0 (-1)) (w32 (x0 - 1)))), l1] [] s Q) : Wp X d 310 0 [some (mI x0), l1] [] s Q := Wp_step k310 f310_0 (Wp_step k310 f310_1 (Wp_step k310 f310_2 (Wp_step k310 f310_3 (Wp_step k310 f310_4 (Wp_step k310 f310_5 (Wp_step k310 f310_6 (Wp_step k310 f310_7 (Wp_step k310 f310_8 (Wp_step k310 f310_9 ⟨h_1, h_2⟩)))))))))
theorem b310_12 {X : (Nat → Int) × Nat} {d : Nat} {s : mSt} {Q : mQ} {x0 : Int} {l1 : Option mV} (h_1 : Q (some (mI (iAnd x0 32))) s) : Wp X d 310 12 [some (mI x0), l1] [] s Q := Wp_step k310 f310_12 (Wp_step k310 f310_13 (Wp_step k310 f310_15 (Wp_step k310 f310_16 ⟨⟨rfl, trivial⟩, h_1⟩)))
theorem b310_17 {X : (Nat → Int) × Nat} {d : Nat} {s : mSt} {Q : mQ} {x0 : Int} {l1 : Option mV} (h_1 : x0 ≤ 65536 → Wp X d 310 34 [some (mI x0), some (mI 1)] [] s Q) (h_2 : ¬ x0 ≤ 65536 → Wp X d 310 26 [some (mI x0), some (mI 1)] [] s Q) : Wp X d 310 17 [some (mI x0), l1] [] s Q := Wp_step k310 f310_17 (Wp_step k310 f310_18 (Wp_step k310 f310_19 (Wp_step k310 f310_20 (Wp_step k310 f310_23 ⟨h_1, h_2⟩))))
theorem b310_26 {X : (Nat → Int) × Nat} {d : Nat} {s : mSt} {Q : mQ} {x0 : Int} {x1 : Int} (h_1 : Wp X d 310 34 [some (mI (iUsh x0 16)), some (mI (w32 (x1 + 16)))] [] s Q) : Wp X d 310 26 [some (mI x0), some (mI x1)] [] s Q := Wp_step k310 f310_26 (Wp_step k310 f310_29 (Wp_step k310 f310_30 (Wp_step k310 f310_32 (Wp_step k310 f310_33 (h_1)))))
theorem b310_34 {X : (Nat → Int) × Nat} {d : Nat} {s : mSt} {Q : mQ} {x0 : Int} {x1 : Int} (h_1 : x0 ≤ 256 → Wp X d 310 49 [some (mI x0), some (mI x1)] [] s Q) (h_2 : ¬ x0 ≤ 256 → Wp X d 310 41 [some (mI x0), some (mI x1)] [] s Q) : Wp X d 310 34 [some (mI x0), some (mI x1)] [] s Q := Wp_step k310 f310_34 (Wp_step k310 f310_35 (Wp_step k310 f310_38 ⟨h_1, h_2⟩))
theorem b310_41 {X : (Nat → Int) × Nat} {d : Nat} {s : mSt} {Q : mQ} {x0 : Int} {x1 : Int} (h_1 : Wp X d 310 49 [some (mI (iUsh x0 8)), some (mI (w32 (x1 + 8)))] [] s Q) : Wp X d 310 41 [some (mI x0), some (mI x1)] [] s Q := Wp_step k310 f310_41 (Wp_step k310 f310_44 (Wp_step k310 f310_45 (Wp_step k310 f310_47 (Wp_step k310 f310_48 (h_1)))))
theorem b310_49 {X : (Nat → Int) × Nat} {d : Nat} {s : mSt} {Q : mQ} {x0 : Int} {x1 : Int} (h_1 : x0 ≤ 16 → Wp X d 310 62 [some (mI x0), some (mI x1)] [] s Q) (h_2 : ¬ x0 ≤ 16 → Wp X d 310 55 [some (mI x0), some (mI x1)] [] s Q) : Wp X d 310 49 [some (mI x0), some (mI x1)] [] s Q := Wp_step k310 f310_49 (Wp_step k310 f310_50 (Wp_step k310 f310_52 ⟨h_1, h_2⟩))
theorem b310_55 {X : (Nat → Int) × Nat} {d : Nat} {s : mSt} {Q : mQ} {x0 : Int} {x1 : Int} (h_1 : Wp X d 310 62 [some (mI (iUsh x0 4)), some (mI (w32 (x1 + 4)))] [] s Q) : Wp X d 310 55 [some (mI x0), some (mI x1)] [] s Q := Wp_step k310 f310_55 (Wp_step k310 f310_58 (Wp_step k310 f310_59 (Wp_step k310 f310_60 (Wp_step k310 f310_61 (h_1)))))
theorem b310_62 {X : (Nat → Int) × Nat} {d : Nat} {s : mSt} {Q : mQ} {x0 : Int} {x1 : Int} (h_1 : x0 ≤ 4 → Wp X d 310 74 [some (mI x0), some (mI x1)] [] s Q) (h_2 : ¬ x0 ≤ 4 → Wp X d 310 67 [some (mI x0), some (mI x1)] [] s Q) : Wp X d 310 62 [some (mI x0), some (mI x1)] [] s Q := Wp_step k310 f310_62 (Wp_step k310 f310_63 (Wp_step k310 f310_64 ⟨h_1, h_2⟩))
theorem b310_67 {X : (Nat → Int) × Nat} {d : Nat} {s : mSt} {Q : mQ} {x0 : Int} {x1 : Int} (h_1 : Wp X d 310 74 [some (mI (iUsh x0 2)), some (mI (w32 (x1 + 2)))] [] s Q) : Wp X d 310 67 [some (mI x0), some (mI x1)] [] s Q := Wp_step k310 f310_67 (Wp_step k310 f310_70 (Wp_step k310 f310_71 (Wp_step k310 f310_72 (Wp_step k310 f310_73 (h_1)))))
theorem b310_74 {X : (Nat → Int) × Nat} {d : Nat} {s : mSt} {Q : mQ} {x0 : Int} {x1 : Int} (h_1 : Q (some (mI (w32 (x1 + (iUsh x0 1))))) s) : Wp X d 310 74 [some (mI x0), some (mI x1)] [] s Q := Wp_step k310 f310_74 (Wp_step k310 f310_75 (Wp_step k310 f310_76 (Wp_step k310 f310_77 (Wp_step k310 f310_78 (Wp_step k310 f310_79 ⟨⟨rfl, trivial⟩, h_1⟩)))))
theorem e310 {X : (Nat → Int) × Nat} {d : Nat} {s : mSt} {Q : mQ} {x0 : Int} (h : Wp X d 310 0 [some (mI x0), none] [] s Q) : Sp X d 310 [mI x0] s Q := Sp_of (show mCe 310 = 0 by decide +kernel) (by rw [show mML 310 = 2 by decide +kernel]; rfl) (Nat.le_trans (Nat.le_of_ble_eq_true (show Nat.ble (mArgs _).length 2 = true from rfl)) (show 2 ≤ mML 310 by decide +kernel)) h
