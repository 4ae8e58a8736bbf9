-- 187 ClashDayModel.value()Z
theorem k187 : mRk 187 = 2 := by decide +kernel
theorem f187_0 : mFetch 187 0 = some (.aload_n 0, 1, 0, 0, 0, 0) := by decide +kernel
theorem f187_1 : mFetch 187 1 = some (.invokevirtual 126, 3, 174, 0, 1, 12) := by decide +kernel
theorem f187_4 : mFetch 187 4 = some (.pop, 1, 0, 0, 0, 0) := by decide +kernel
theorem f187_5 : mFetch 187 5 = some (.aload_n 0, 1, 0, 0, 0, 0) := by decide +kernel
theorem f187_6 : mFetch 187 6 = some (.getfield 123, 3, 12, 8, 0, 1) := by decide +kernel
theorem f187_9 : mFetch 187 9 = some (.istore_n 1, 1, 0, 0, 0, 0) := by decide +kernel
theorem f187_10 : mFetch 187 10 = some (.aload_n 0, 1, 0, 0, 0, 0) := by decide +kernel
theorem f187_11 : mFetch 187 11 = some (.aload_n 0, 1, 0, 0, 0, 0) := by decide +kernel
theorem f187_12 : mFetch 187 12 = some (.getfield 123, 3, 12, 8, 0, 1) := by decide +kernel
theorem f187_15 : mFetch 187 15 = some (.invokevirtual 141, 3, 175, 0, 2, 12) := by decide +kernel
theorem f187_18 : mFetch 187 18 = some (.ifCond .eq 34, 3, 52, 0, 0, 0) := by decide +kernel
theorem f187_21 : mFetch 187 21 = some (.aload_n 0, 1, 0, 0, 0, 0) := by decide +kernel
theorem f187_22 : mFetch 187 22 = some (.iconst 0, 1, 0, 0, 0, 0) := by decide +kernel
theorem f187_23 : mFetch 187 23 = some (.ldc 197, 2, 99999, 0, 0, 0) := by decide +kernel
theorem f187_25 : mFetch 187 25 = some (.invokevirtual 198, 3, 180, 0, 3, 12) := by decide +kernel
theorem f187_28 : mFetch 187 28 = some (.ifCond .eq 11, 3, 39, 0, 0, 0) := by decide +kernel
theorem f187_31 : mFetch 187 31 = some (.aload_n 0, 1, 0, 0, 0, 0) := by decide +kernel
theorem f187_32 : mFetch 187 32 = some (.iload_n 1, 1, 0, 0, 0, 0) := by decide +kernel
theorem f187_33 : mFetch 187 33 = some (.invokevirtual 201, 3, 183, 0, 2, 12) := by decide +kernel
theorem f187_36 : mFetch 187 36 = some (.ifCond .ne 5, 3, 41, 0, 0, 0) := by decide +kernel
theorem f187_39 : mFetch 187 39 = some (.iconst 0, 1, 0, 0, 0, 0) := by decide +kernel
theorem f187_40 : mFetch 187 40 = some (.ireturn, 1, 0, 0, 0, 0) := by decide +kernel
theorem f187_41 : mFetch 187 41 = some (.aload_n 0, 1, 0, 0, 0, 0) := by decide +kernel
theorem f187_42 : mFetch 187 42 = some (.iconst 0, 1, 0, 0, 0, 0) := by decide +kernel
theorem f187_43 : mFetch 187 43 = some (.aload_n 0, 1, 0, 0, 0, 0) := by decide +kernel
theorem f187_44 : mFetch 187 44 = some (.getfield 148, 3, 12, 10, 0, 1) := by decide +kernel
theorem f187_47 : mFetch 187 47 = some (.invokevirtual 193, 3, 182, 0, 3, 12) := by decide +kernel
theorem f187_50 : mFetch 187 50 = some (.iconst 1, 1, 0, 0, 0, 0) := by decide +kernel
theorem f187_51 : mFetch 187 51 = some (.ireturn, 1, 0, 0, 0, 0) := by decide +kernel
theorem f187_52 : mFetch 187 52 = some (.aload_n 0, 1, 0, 0, 0, 0) := by decide +kernel
theorem f187_53 : mFetch 187 53 = some (.invokevirtual 204, 3, 181, 0, 1, 12) := by decide +kernel
theorem f187_56 : mFetch 187 56 = some (.istore_n 2, 1, 0, 0, 0, 0) := by decide +kernel
theorem f187_57 : mFetch 187 57 = some (.iload_n 2, 1, 0, 0, 0, 0) := by decide +kernel
theorem f187_58 : mFetch 187 58 = some (.ifCond .ge 10, 3, 68, 0, 0, 0) := by decide +kernel
theorem f187_61 : mFetch 187 61 = some (.aload_n 0, 1, 0, 0, 0, 0) := by decide +kernel
theorem f187_62 : mFetch 187 62 = some (.iconst 0, 1, 0, 0, 0, 0) := by decide +kernel
theorem f187_63 : mFetch 187 63 = some (.iload_n 1, 1, 0, 0, 0, 0) := by decide +kernel
theorem f187_64 : mFetch 187 64 = some (.invokevirtual 144, 3, 173, 0, 3, 12) := by decide +kernel
theorem f187_67 : mFetch 187 67 = some (.ireturn, 1, 0, 0, 0, 0) := by decide +kernel
theorem f187_68 : mFetch 187 68 = some (.aload_n 0, 1, 0, 0, 0, 0) := by decide +kernel
theorem f187_69 : mFetch 187 69 = some (.iload_n 1, 1, 0, 0, 0, 0) := by decide +kernel
theorem f187_70 : mFetch 187 70 = some (.invokevirtual 201, 3, 183, 0, 2, 12) := by decide +kernel
theorem f187_73 : mFetch 187 73 = some (.ifCond .ne 5, 3, 78, 0, 0, 0) := by decide +kernel
theorem f187_76 : mFetch 187 76 = some (.iconst 0, 1, 0, 0, 0, 0) := by decide +kernel
theorem f187_77 : mFetch 187 77 = some (.ireturn, 1, 0, 0, 0, 0) := by decide +kernel
theorem f187_78 : mFetch 187 78 = some (.aload_n 0, 1, 0, 0, 0, 0) := by decide +kernel
theorem f187_79 : mFetch 187 79 = some (.invokevirtual 138, 3, 178, 0, 1, 12) := by decide +kernel
theorem f187_82 : mFetch 187 82 = some (.aload_n 0, 1, 0, 0, 0, 0) := by decide +kernel
theorem f187_83 : mFetch 187 83 = some (.iconst 1, 1, 0, 0, 0, 0) := by decide +kernel
theorem f187_84 : mFetch 187 84 = some (.iload_n 2, 1, 0, 0, 0, 0) := by decide +kernel
theorem f187_85 : mFetch 187 85 = some (.invokevirtual 193, 3, 182, 0, 3, 12) := by decide +kernel
theorem f187_88 : mFetch 187 88 = some (.iconst 1, 1, 0, 0, 0, 0) := by decide +kernel
theorem f187_89 : mFetch 187 89 = some (.ireturn, 1, 0, 0, 0, 0) := by decide +kernel
theorem b187_0 {X : (Nat → Int) × Nat} {d : Nat} {s : mSt} {Q : mQ} {l1 : Option mV} {l2 : Option mV} (h_1 : Sp X d 174 [mR 407] s (fun r s' => ∃ v : Int, r = some (mI v) ∧ Wp X (d + 1) 187 4 [some (mR 407), l1, l2] [mI v] s' Q)) : Wp X (d + 1) 187 0 [some (mR 407), l1, l2] [] s Q := Wp_step k187 f187_0 (Wp_step k187 f187_1 ⟨⟨kf_407, Nat.le_of_ble_eq_true rfl⟩, Nat.le_refl _, _, rfl, Sp_E h_1⟩)
theorem b187_4 {X : (Nat → Int) × Nat} {d : Nat} {s : mSt} {Q : mQ} {l1 : Option mV} {l2 : Option mV} {xt0 : Int} (h_1 : Sp X d 175 [mR 407, mI (s 407 8)] s (fun r s' => ∃ v : Int, r = some (mI v) ∧ Wp X (d + 1) 187 18 [some (mR 407), some (mI (s 407 8)), l2] [mI v] s' Q)) : Wp X (d + 1) 187 4 [some (mR 407), l1, l2] [mI xt0] s Q := Wp_step k187 f187_4 (Wp_step k187 f187_5 (Wp_step k187 f187_6 ⟨kf_407, Wp_step k187 f187_9 (Wp_step k187 f187_10 (Wp_step k187 f187_11 (Wp_step k187 f187_12 ⟨kf_407, Wp_step k187 f187_15 ⟨⟨kf_407, Nat.le_of_ble_eq_true rfl⟩, Nat.le_refl _, _, rfl, Sp_E h_1⟩⟩)))⟩))
theorem b187_18 {X : (Nat → Int) × Nat} {d : Nat} {s : mSt} {Q : mQ} {x1 : Int} {l2 : Option mV} {xt0 : Int} (h_1 : xt0 = 0 → Wp X d 187 52 [some (mR 407), some (mI x1), l2] [] s Q) (h_2 : ¬ xt0 = 0 → Wp X d 187 21 [some (mR 407), some (mI x1), l2] [] s Q) : Wp X d 187 18 [some (mR 407), some (mI x1), l2] [mI xt0] s Q := Wp_step k187 f187_18 ⟨h_1, h_2⟩
theorem b187_21 {X : (Nat → Int) × Nat} {d : Nat} {s : mSt} {Q : mQ} {x1 : Int} {l2 : Option mV} (h_1 : Sp X d 180 [mR 407, mI 0, mI 99999] s (fun r s' => ∃ v : Int, r = some (mI v) ∧ Wp X (d + 1) 187 28 [some (mR 407), some (mI x1), l2] [mI v] s' Q)) : Wp X (d + 1) 187 21 [some (mR 407), some (mI x1), l2] [] s Q := Wp_step k187 f187_21 (Wp_step k187 f187_22 (Wp_step k187 f187_23 (Wp_step k187 f187_25 ⟨⟨kf_407, Nat.le_of_ble_eq_true rfl⟩, Nat.le_refl _, _, rfl, Sp_E h_1⟩)))
theorem b187_28 {X : (Nat → Int) × Nat} {d : Nat} {s : mSt} {Q : mQ} {x1 : Int} {l2 : Option mV} {xt0 : Int} (h_1 : xt0 = 0 → Wp X d 187 39 [some (mR 407), some (mI x1), l2] [] s Q) (h_2 : ¬ xt0 = 0 → Wp X d 187 31 [some (mR 407), some (mI x1), l2] [] s Q) : Wp X d 187 28 [some (mR 407), some (mI x1), l2] [mI xt0] s Q := Wp_step k187 f187_28 ⟨h_1, h_2⟩
theorem b187_31 {X : (Nat → Int) × Nat} {d : Nat} {s : mSt} {Q : mQ} {x1 : Int} {l2 : Option mV} (h_1 : Sp X d 183 [mR 407, mI x1] s (fun r s' => ∃ v : Int, r = some (mI v) ∧ Wp X (d + 1) 187 36 [some (mR 407), some (mI x1), l2] [mI v] s' Q)) : Wp X (d + 1) 187 31 [some (mR 407), some (mI x1), l2] [] s Q := Wp_step k187 f187_31 (Wp_step k187 f187_32 (Wp_step k187 f187_33 ⟨⟨kf_407, Nat.le_of_ble_eq_true rfl⟩, Nat.le_refl _, _, rfl, Sp_E h_1⟩))
theorem b187_36 {X : (Nat → Int) × Nat} {d : Nat} {s : mSt} {Q : mQ} {x1 : Int} {l2 : Option mV} {xt0 : Int} (h_1 : ¬ xt0 = 0 → Wp X d 187 41 [some (mR 407), some (mI x1), l2] [] s Q) (h_2 : xt0 = 0 → Wp X d 187 39 [some (mR 407), some (mI x1), l2] [] s Q) : Wp X d 187 36 [some (mR 407), some (mI x1), l2] [mI xt0] s Q := Wp_step k187 f187_36 ⟨h_1, h_2⟩
theorem b187_39 {X : (Nat → Int) × Nat} {d : Nat} {s : mSt} {Q : mQ} {x1 : Int} {l2 : Option mV} (h_1 : Q (some (mI 0)) s) : Wp X d 187 39 [some (mR 407), some (mI x1), l2] [] s Q := Wp_step k187 f187_39 (Wp_step k187 f187_40 ⟨⟨rfl, (Or.inl rfl)⟩, h_1⟩)
theorem b187_41 {X : (Nat → Int) × Nat} {d : Nat} {s : mSt} {Q : mQ} {x1 : Int} {l2 : Option mV} (h_1 : Sp X d 182 [mR 407, mI 0, mI (s 407 10)] s (fun r s' => r = none ∧ Wp X (d + 1) 187 50 [some (mR 407), some (mI x1), l2] [] s' Q)) : Wp X (d + 1) 187 41 [some (mR 407), some (mI x1), l2] [] s Q := Wp_step k187 f187_41 (Wp_step k187 f187_42 (Wp_step k187 f187_43 (Wp_step k187 f187_44 ⟨kf_407, Wp_step k187 f187_47 ⟨⟨kf_407, Nat.le_of_ble_eq_true rfl⟩, Nat.le_refl _, _, rfl, Sp_V h_1⟩⟩)))
theorem b187_50 {X : (Nat → Int) × Nat} {d : Nat} {s : mSt} {Q : mQ} {x1 : Int} {l2 : Option mV} (h_1 : Q (some (mI 1)) s) : Wp X d 187 50 [some (mR 407), some (mI x1), l2] [] s Q := Wp_step k187 f187_50 (Wp_step k187 f187_51 ⟨⟨rfl, (Or.inr rfl)⟩, h_1⟩)
theorem b187_52 {X : (Nat → Int) × Nat} {d : Nat} {s : mSt} {Q : mQ} {x1 : Int} {l2 : Option mV} (h_1 : Sp X d 181 [mR 407] s (fun r s' => ∃ v : Int, r = some (mI v) ∧ Wp X (d + 1) 187 56 [some (mR 407), some (mI x1), l2] [mI v] s' Q)) : Wp X (d + 1) 187 52 [some (mR 407), some (mI x1), l2] [] s Q := Wp_step k187 f187_52 (Wp_step k187 f187_53 ⟨⟨kf_407, Nat.le_of_ble_eq_true rfl⟩, Nat.le_refl _, _, rfl, Sp_E h_1⟩)
theorem b187_56 {X : (Nat → Int) × Nat} {d : Nat} {s : mSt} {Q : mQ} {x1 : Int} {l2 : Option mV} {xt0 : Int} (h_1 : 0 ≤ xt0 → Wp X d 187 68 [some (mR 407), some (mI x1), some (mI xt0)] [] s Q) (h_2 : ¬ 0 ≤ xt0 → Wp X d 187 61 [some (mR 407), some (mI x1), some (mI xt0)] [] s Q) : Wp X d 187 56 [some (mR 407), some (mI x1), l2] [mI xt0] s Q := Wp_step k187 f187_56 (Wp_step k187 f187_57 (Wp_step k187 f187_58 ⟨h_1, h_2⟩))
theorem b187_61 {X : (Nat → Int) × Nat} {d : Nat} {s : mSt} {Q : mQ} {x1 : Int} {x2 : Int} (h_1 : Sp X d 173 [mR 407, mI 0, mI x1] s (fun r s' => ∃ v : Int, r = some (mI v) ∧ Wp X (d + 1) 187 67 [some (mR 407), some (mI x1), some (mI x2)] [mI v] s' Q)) : Wp X (d + 1) 187 61 [some (mR 407), some (mI x1), some (mI x2)] [] s Q := Wp_step k187 f187_61 (Wp_step k187 f187_62 (Wp_step k187 f187_63 (Wp_step k187 f187_64 ⟨⟨kf_407, Nat.le_of_ble_eq_true rfl⟩, Nat.le_refl _, _, rfl, Sp_E h_1⟩)))
theorem b187_67 {X : (Nat → Int) × Nat} {d : Nat} {s : mSt} {Q : mQ} {x1 : Int} {x2 : Int} {xt0 : Int} (h_1 : Q (some (mI xt0)) s) (h_2 : xt0 = 0 ∨ xt0 = 1) : Wp X d 187 67 [some (mR 407), some (mI x1), some (mI x2)] [mI xt0] s Q := Wp_step k187 f187_67 ⟨⟨rfl, h_2⟩, h_1⟩
theorem b187_68 {X : (Nat → Int) × Nat} {d : Nat} {s : mSt} {Q : mQ} {x1 : Int} {x2 : Int} (h_1 : Sp X d 183 [mR 407, mI x1] s (fun r s' => ∃ v : Int, r = some (mI v) ∧ Wp X (d + 1) 187 73 [some (mR 407), some (mI x1), some (mI x2)] [mI v] s' Q)) : Wp X (d + 1) 187 68 [some (mR 407), some (mI x1), some (mI x2)] [] s Q := Wp_step k187 f187_68 (Wp_step k187 f187_69 (Wp_step k187 f187_70 ⟨⟨kf_407, Nat.le_of_ble_eq_true rfl⟩, Nat.le_refl _, _, rfl, Sp_E h_1⟩))
theorem b187_73 {X : (Nat → Int) × Nat} {d : Nat} {s : mSt} {Q : mQ} {x1 : Int} {x2 : Int} {xt0 : Int} (h_1 : ¬ xt0 = 0 → Wp X d 187 78 [some (mR 407), some (mI x1), some (mI x2)] [] s Q) (h_2 : xt0 = 0 → Wp X d 187 76 [some (mR 407), some (mI x1), some (mI x2)] [] s Q) : Wp X d 187 73 [some (mR 407), some (mI x1), some (mI x2)] [mI xt0] s Q := Wp_step k187 f187_73 ⟨h_1, h_2⟩
theorem b187_76 {X : (Nat → Int) × Nat} {d : Nat} {s : mSt} {Q : mQ} {x1 : Int} {x2 : Int} (h_1 : Q (some (mI 0)) s) : Wp X d 187 76 [some (mR 407), some (mI x1), some (mI x2)] [] s Q := Wp_step k187 f187_76 (Wp_step k187 f187_77 ⟨⟨rfl, (Or.inl rfl)⟩, h_1⟩)
theorem b187_78 {X : (Nat → Int) × Nat} {d : Nat} {s : mSt} {Q : mQ} {x1 : Int} {x2 : Int} (h_1 : Sp X d 178 [mR 407] s (fun r s' => r = none ∧ Wp X (d + 1) 187 82 [some (mR 407), some (mI x1), some (mI x2)] [] s' Q)) : Wp X (d + 1) 187 78 [some (mR 407), some (mI x1), some (mI x2)] [] s Q := Wp_step k187 f187_78 (Wp_step k187 f187_79 ⟨⟨kf_407, Nat.le_of_ble_eq_true rfl⟩, Nat.le_refl _, _, rfl, Sp_V h_1⟩)
theorem b187_82 {X : (Nat → Int) × Nat} {d : Nat} {s : mSt} {Q : mQ} {x1 : Int} {x2 : Int} (h_1 : Sp X d 182 [mR 407, mI 1, mI x2] s (fun r s' => r = none ∧ Wp X (d + 1) 187 88 [some (mR 407), some (mI x1), some (mI x2)] [] s' Q)) : Wp X (d + 1) 187 82 [some (mR 407), some (mI x1), some (mI x2)] [] s Q := Wp_step k187 f187_82 (Wp_step k187 f187_83 (Wp_step k187 f187_84 (Wp_step k187 f187_85 ⟨⟨kf_407, Nat.le_of_ble_eq_true rfl⟩, Nat.le_refl _, _, rfl, Sp_V h_1⟩)))
theorem b187_88 {X : (Nat → Int) × Nat} {d : Nat} {s : mSt} {Q : mQ} {x1 : Int} {x2 : Int} (h_1 : Q (some (mI 1)) s) : Wp X d 187 88 [some (mR 407), some (mI x1), some (mI x2)] [] s Q := Wp_step k187 f187_88 (Wp_step k187 f187_89 ⟨⟨rfl, (Or.inr rfl)⟩, h_1⟩)
theorem e187 {X : (Nat → Int) × Nat} {d : Nat} {s : mSt} {Q : mQ} (h : Wp X d 187 0 [some (mR 407), none, none] [] s Q) : Sp X d 187 [mR 407] s Q := Sp_of (show mCe 187 = 0 by decide +kernel) (by rw [show mML 187 = 3 by decide +kernel]; rfl) (Nat.le_trans (Nat.le_of_ble_eq_true (show Nat.ble (mArgs _).length 3 = true from rfl)) (show 3 ≤ mML 187 by decide +kernel)) h
-- 188 ClashDayModel.term()Z
theorem k188 : mRk 188 = 2 := by decide +kernel
theorem f188_0 : mFetch 188 0 = some (.aload_n 0, 1, 0, 0, 0, 0) := by decide +kernel
theorem f188_1 : mFetch 188 1 = some (.invokevirtual 207, 3, 187, 0, 1, 12) := by decide +kernel
theorem f188_4 : mFetch 188 4 = some (.ifCond .ne 5, 3, 9, 0, 0, 0) := by decide +kernel
theorem f188_7 : mFetch 188 7 = some (.iconst 0, 1, 0, 0, 0, 0) := by decide +kernel
theorem f188_8 : mFetch 188 8 = some (.ireturn, 1, 0, 0, 0, 0) := by decide +kernel
theorem f188_9 : mFetch 188 9 = some (.aload_n 0, 1, 0, 0, 0, 0) := by decide +kernel
theorem f188_10 : mFetch 188 10 = some (.invokevirtual 126, 3, 174, 0, 1, 12) := by decide +kernel
theorem f188_13 : mFetch 188 13 = some (.bipush 42, 2, 0, 0, 0, 0) := by decide +kernel
theorem f188_15 : mFetch 188 15 = some (.if_icmp .eq 21, 3, 36, 0, 0, 0) := by decide +kernel
theorem f188_18 : mFetch 188 18 = some (.aload_n 0, 1, 0, 0, 0, 0) := by decide +kernel
theorem f188_19 : mFetch 188 19 = some (.invokevirtual 126, 3, 174, 0, 1, 12) := by decide +kernel
theorem f188_22 : mFetch 188 22 = some (.bipush 47, 2, 0, 0, 0, 0) := by decide +kernel
theorem f188_24 : mFetch 188 24 = some (.if_icmp .eq 12, 3, 36, 0, 0, 0) := by decide +kernel
theorem f188_27 : mFetch 188 27 = some (.aload_n 0, 1, 0, 0, 0, 0) := by decide +kernel
theorem f188_28 : mFetch 188 28 = some (.invokevirtual 126, 3, 174, 0, 1, 12) := by decide +kernel
theorem f188_31 : mFetch 188 31 = some (.bipush 37, 2, 0, 0, 0, 0) := by decide +kernel
theorem f188_33 : mFetch 188 33 = some (.if_icmp .ne 70, 3, 103, 0, 0, 0) := by decide +kernel
theorem f188_36 : mFetch 188 36 = some (.aload_n 0, 1, 0, 0, 0, 0) := by decide +kernel
theorem f188_37 : mFetch 188 37 = some (.getfield 7, 3, 12, 0, 2, 1) := by decide +kernel
theorem f188_40 : mFetch 188 40 = some (.aload_n 0, 1, 0, 0, 0, 0) := by decide +kernel
theorem f188_41 : mFetch 188 41 = some (.getfield 123, 3, 12, 8, 0, 1) := by decide +kernel
theorem f188_44 : mFetch 188 44 = some (.baload, 1, 0, 0, 0, 0) := by decide +kernel
theorem f188_45 : mFetch 188 45 = some (.bipush 42, 2, 0, 0, 0, 0) := by decide +kernel
theorem f188_47 : mFetch 188 47 = some (.if_icmp .ne 7, 3, 54, 0, 0, 0) := by decide +kernel
theorem f188_50 : mFetch 188 50 = some (.iconst 4, 1, 0, 0, 0, 0) := by decide +kernel
theorem f188_51 : mFetch 188 51 = some (.goto 23, 3, 74, 0, 0, 0) := by decide +kernel
theorem f188_54 : mFetch 188 54 = some (.aload_n 0, 1, 0, 0, 0, 0) := by decide +kernel
theorem f188_55 : mFetch 188 55 = some (.getfield 7, 3, 12, 0, 2, 1) := by decide +kernel
theorem f188_58 : mFetch 188 58 = some (.aload_n 0, 1, 0, 0, 0, 0) := by decide +kernel
theorem f188_59 : mFetch 188 59 = some (.getfield 123, 3, 12, 8, 0, 1) := by decide +kernel
theorem f188_62 : mFetch 188 62 = some (.baload, 1, 0, 0, 0, 0) := by decide +kernel
theorem f188_63 : mFetch 188 63 = some (.bipush 47, 2, 0, 0, 0, 0) := by decide +kernel
theorem f188_65 : mFetch 188 65 = some (.if_icmp .ne 7, 3, 72, 0, 0, 0) := by decide +kernel
theorem f188_68 : mFetch 188 68 = some (.iconst 5, 1, 0, 0, 0, 0) := by decide +kernel
theorem f188_69 : mFetch 188 69 = some (.goto 5, 3, 74, 0, 0, 0) := by decide +kernel
theorem f188_72 : mFetch 188 72 = some (.bipush 14, 2, 0, 0, 0, 0) := by decide +kernel
theorem f188_74 : mFetch 188 74 = some (.istore_n 1, 1, 0, 0, 0, 0) := by decide +kernel
theorem f188_75 : mFetch 188 75 = some (.aload_n 0, 1, 0, 0, 0, 0) := by decide +kernel
theorem f188_76 : mFetch 188 76 = some (.dup, 1, 0, 0, 0, 0) := by decide +kernel
theorem f188_77 : mFetch 188 77 = some (.getfield 123, 3, 12, 8, 0, 1) := by decide +kernel
theorem f188_80 : mFetch 188 80 = some (.iconst 1, 1, 0, 0, 0, 0) := by decide +kernel
theorem f188_81 : mFetch 188 81 = some (.iadd, 1, 0, 0, 0, 0) := by decide +kernel
theorem f188_82 : mFetch 188 82 = some (.putfield 123, 3, 12, 8, 0, 1) := by decide +kernel
theorem f188_85 : mFetch 188 85 = some (.aload_n 0, 1, 0, 0, 0, 0) := by decide +kernel
theorem f188_86 : mFetch 188 86 = some (.invokevirtual 207, 3, 187, 0, 1, 12) := by decide +kernel
theorem f188_89 : mFetch 188 89 = some (.ifCond .ne 5, 3, 94, 0, 0, 0) := by decide +kernel
theorem f188_92 : mFetch 188 92 = some (.iconst 0, 1, 0, 0, 0, 0) := by decide +kernel
theorem f188_93 : mFetch 188 93 = some (.ireturn, 1, 0, 0, 0, 0) := by decide +kernel
theorem f188_94 : mFetch 188 94 = some (.aload_n 0, 1, 0, 0, 0, 0) := by decide +kernel
theorem f188_95 : mFetch 188 95 = some (.iload_n 1, 1, 0, 0, 0, 0) := by decide +kernel
theorem f188_96 : mFetch 188 96 = some (.iconst 0, 1, 0, 0, 0, 0) := by decide +kernel
theorem f188_97 : mFetch 188 97 = some (.invokevirtual 193, 3, 182, 0, 3, 12) := by decide +kernel
theorem f188_100 : mFetch 188 100 = some (.goto (-91), 3, 9, 0, 0, 0) := by decide +kernel
theorem f188_103 : mFetch 188 103 = some (.iconst 1, 1, 0, 0, 0, 0) := by decide +kernel
theorem f188_104 : mFetch 188 104 = some (.ireturn, 1, 0, 0, 0, 0) := by decide +kernel
theorem b188_0 {X : (Nat → Int) × Nat} {d : Nat} {s : mSt} {Q : mQ} {l1 : Option mV} (h_1 : Sp X d 187 [mR 407] s (fun r s' => ∃ v : Int, r = some (mI v) ∧ Wp X (d + 1) 188 4 [some (mR 407), l1] [mI v] s' Q)) : Wp X (d + 1) 188 0 [some (mR 407), l1] [] s Q := Wp_step k188 f188_0 (Wp_step k188 f188_1 ⟨⟨kf_407, Nat.le_of_ble_eq_true rfl⟩, Nat.le_refl _, _, rfl, Sp_E h_1⟩)
theorem b188_4 {X : (Nat → Int) × Nat} {d : Nat} {s : mSt} {Q : mQ} {l1 : Option mV} {xt0 : Int} (h_1 : ¬ xt0 = 0 → Wp X d 188 9 [some (mR 407), l1] [] s Q) (h_2 : xt0 = 0 → Wp X d 188 7 [some (mR 407), l1] [] s Q) : Wp X d 188 4 [some (mR 407), l1] [mI xt0] s Q := Wp_step k188 f188_4 ⟨h_1, h_2⟩
theorem b188_7 {X : (Nat → Int) × Nat} {d : Nat} {s : mSt} {Q : mQ} {l1 : Option mV} (h_1 : Q (some (mI 0)) s) : Wp X d 188 7 [some (mR 407), l1] [] s Q := Wp_step k188 f188_7 (Wp_step k188 f188_8 ⟨⟨rfl, (Or.inl rfl)⟩, h_1⟩)
theorem b188_9 {X : (Nat → Int) × Nat} {d : Nat} {s : mSt} {Q : mQ} {l1 : Option mV} (h_1 : Sp X d 174 [mR 407] s (fun r s' => ∃ v : Int, r = some (mI v) ∧ Wp X (d + 1) 188 13 [some (mR 407), l1] [mI v] s' Q)) : Wp X (d + 1) 188 9 [some (mR 407), l1] [] s Q := Wp_step k188 f188_9 (Wp_step k188 f188_10 ⟨⟨kf_407, Nat.le_of_ble_eq_true rfl⟩, Nat.le_refl _, _, rfl, Sp_E h_1⟩)
theorem b188_13 {X : (Nat → Int) × Nat} {d : Nat} {s : mSt} {Q : mQ} {l1 : Option mV} {xt0 : Int} (h_1 : xt0 = 42 → Wp X d 188 36 [some (mR 407), l1] [] s Q) (h_2 : ¬ xt0 = 42 → Wp X d 188 18 [some (mR 407), l1] [] s Q) : Wp X d 188 13 [some (mR 407), l1] [mI xt0] s Q := Wp_step k188 f188_13 (Wp_step k188 f188_15 ⟨h_1, h_2⟩)
theorem b188_18 {X : (Nat → Int) × Nat} {d : Nat} {s : mSt} {Q : mQ} {l1 : Option mV} (h_1 : Sp X d 174 [mR 407] s (fun r s' => ∃ v : Int, r = some (mI v) ∧ Wp X (d + 1) 188 22 [some (mR 407), l1] [mI v] s' Q)) : Wp X (d + 1) 188 18 [some (mR 407), l1] [] s Q := Wp_step k188 f188_18 (Wp_step k188 f188_19 ⟨⟨kf_407, Nat.le_of_ble_eq_true rfl⟩, Nat.le_refl _, _, rfl, Sp_E h_1⟩)
theorem b188_22 {X : (Nat → Int) × Nat} {d : Nat} {s : mSt} {Q : mQ} {l1 : Option mV} {xt0 : Int} (h_1 : xt0 = 47 → Wp X d 188 36 [some (mR 407), l1] [] s Q) (h_2 : ¬ xt0 = 47 → Wp X d 188 27 [some (mR 407), l1] [] s Q) : Wp X d 188 22 [some (mR 407), l1] [mI xt0] s Q := Wp_step k188 f188_22 (Wp_step k188 f188_24 ⟨h_1, h_2⟩)
theorem b188_27 {X : (Nat → Int) × Nat} {d : Nat} {s : mSt} {Q : mQ} {l1 : Option mV} (h_1 : Sp X d 174 [mR 407] s (fun r s' => ∃ v : Int, r = some (mI v) ∧ Wp X (d + 1) 188 31 [some (mR 407), l1] [mI v] s' Q)) : Wp X (d + 1) 188 27 [some (mR 407), l1] [] s Q := Wp_step k188 f188_27 (Wp_step k188 f188_28 ⟨⟨kf_407, Nat.le_of_ble_eq_true rfl⟩, Nat.le_refl _, _, rfl, Sp_E h_1⟩)
theorem b188_31 {X : (Nat → Int) × Nat} {d : Nat} {s : mSt} {Q : mQ} {l1 : Option mV} {xt0 : Int} (h_1 : ¬ xt0 = 37 → Wp X d 188 103 [some (mR 407), l1] [] s Q) (h_2 : xt0 = 37 → Wp X d 188 36 [some (mR 407), l1] [] s Q) : Wp X d 188 31 [some (mR 407), l1] [mI xt0] s Q := Wp_step k188 f188_31 (Wp_step k188 f188_33 ⟨h_1, h_2⟩)
theorem b188_36 {X : (Nat → Int) × Nat} {d : Nat} {s : mSt} {Q : mQ} {l1 : Option mV} (h_1 : 0 ≤ (s 407 8) ∧ (s 407 8) < 400) (h_2 : ¬ (s 408 (s 407 8).toNat) = 42 → Wp X d 188 54 [some (mR 407), l1] [] s Q) (h_3 : (s 408 (s 407 8).toNat) = 42 → Wp X d 188 50 [some (mR 407), l1] [] s Q) : Wp X d 188 36 [some (mR 407), l1] [] s Q := Wp_step k188 f188_36 (Wp_step k188 f188_37 ⟨kf_407, 408, rf_407_0, Wp_step k188 f188_40 (Wp_step k188 f188_41 ⟨kf_407, Wp_step k188 f188_44 ⟨20, 400, af_408, (Or.inl rfl), h_1, Wp_step k188 f188_45 (Wp_step k188 f188_47 ⟨h_2, h_3⟩)⟩⟩)⟩)
theorem b188_50 {X : (Nat → Int) × Nat} {d : Nat} {s : mSt} {Q : mQ} {l1 : Option mV} (h_1 : Wp X d 188 74 [some (mR 407), l1] [mI 4] s Q) : Wp X d 188 50 [some (mR 407), l1] [] s Q := Wp_step k188 f188_50 (Wp_step k188 f188_51 (h_1))
theorem b188_54 {X : (Nat → Int) × Nat} {d : Nat} {s : mSt} {Q : mQ} {l1 : Option mV} (h_1 : 0 ≤ (s 407 8) ∧ (s 407 8) < 400) (h_2 : ¬ (s 408 (s 407 8).toNat) = 47 → Wp X d 188 72 [some (mR 407), l1] [] s Q) (h_3 : (s 408 (s 407 8).toNat) = 47 → Wp X d 188 68 [some (mR 407), l1] [] s Q) : Wp X d 188 54 [some (mR 407), l1] [] s Q := Wp_step k188 f188_54 (Wp_step k188 f188_55 ⟨kf_407, 408, rf_407_0, Wp_step k188 f188_58 (Wp_step k188 f188_59 ⟨kf_407, Wp_step k188 f188_62 ⟨20, 400, af_408, (Or.inl rfl), h_1, Wp_step k188 f188_63 (Wp_step k188 f188_65 ⟨h_2, h_3⟩)⟩⟩)⟩)
theorem b188_68 {X : (Nat → Int) × Nat} {d : Nat} {s : mSt} {Q : mQ} {l1 : Option mV} (h_1 : Wp X d 188 74 [some (mR 407), l1] [mI 5] s Q) : Wp X d 188 68 [some (mR 407), l1] [] s Q := Wp_step k188 f188_68 (Wp_step k188 f188_69 (h_1))
theorem b188_72 {X : (Nat → Int) × Nat} {d : Nat} {s : mSt} {Q : mQ} {l1 : Option mV} (h_1 : Wp X d 188 74 [some (mR 407), l1] [mI 14] s Q) : Wp X d 188 72 [some (mR 407), l1] [] s Q := Wp_step k188 f188_72 (h_1)
theorem b188_74 {X : (Nat → Int) × Nat} {d : Nat} {s : mSt} {Q : mQ} {l1 : Option mV} {xt0 : Int} (h_1 : Sp X d 187 [mR 407] (uS s 407 8 (w32 ((s 407 8) + 1))) (fun r s' => ∃ v : Int, r = some (mI v) ∧ Wp X (d + 1) 188 89 [some (mR 407), some (mI xt0)] [mI v] s' Q)) : Wp X (d + 1) 188 74 [some (mR 407), l1] [mI xt0] s Q := Wp_step k188 f188_74 (Wp_step k188 f188_75 (Wp_step k188 f188_76 (Wp_step k188 f188_77 ⟨kf_407, Wp_step k188 f188_80 (Wp_step k188 f188_81 (Wp_step k188 f188_82 ⟨kf_407, Wp_step k188 f188_85 (Wp_step k188 f188_86 ⟨⟨kf_407, Nat.le_of_ble_eq_true rfl⟩, Nat.le_refl _, _, rfl, Sp_E h_1⟩)⟩))⟩)))
theorem b188_89 {X : (Nat → Int) × Nat} {d : Nat} {s : mSt} {Q : mQ} {x1 : Int} {xt0 : Int} (h_1 : ¬ xt0 = 0 → Wp X d 188 94 [some (mR 407), some (mI x1)] [] s Q) (h_2 : xt0 = 0 → Wp X d 188 92 [some (mR 407), some (mI x1)] [] s Q) : Wp X d 188 89 [some (mR 407), some (mI x1)] [mI xt0] s Q := Wp_step k188 f188_89 ⟨h_1, h_2⟩
theorem b188_92 {X : (Nat → Int) × Nat} {d : Nat} {s : mSt} {Q : mQ} {x1 : Int} (h_1 : Q (some (mI 0)) s) : Wp X d 188 92 [some (mR 407), some (mI x1)] [] s Q := Wp_step k188 f188_92 (Wp_step k188 f188_93 ⟨⟨rfl, (Or.inl rfl)⟩, h_1⟩)
theorem b188_94 {X : (Nat → Int) × Nat} {d : Nat} {s : mSt} {Q : mQ} {x1 : Int} (h_1 : Sp X d 182 [mR 407, mI x1, mI 0] s (fun r s' => r = none ∧ Wp X (d + 1) 188 100 [some (mR 407), some (mI x1)] [] s' Q)) : Wp X (d + 1) 188 94 [some (mR 407), some (mI x1)] [] s Q := Wp_step k188 f188_94 (Wp_step k188 f188_95 (Wp_step k188 f188_96 (Wp_step k188 f188_97 ⟨⟨kf_407, Nat.le_of_ble_eq_true rfl⟩, Nat.le_refl _, _, rfl, Sp_V h_1⟩)))
theorem b188_100 {X : (Nat → Int) × Nat} {d : Nat} {s : mSt} {Q : mQ} {x1 : Int} (h_1 : Wp X d 188 9 [some (mR 407), some (mI x1)] [] s Q) : Wp X d 188 100 [some (mR 407), some (mI x1)] [] s Q := Wp_step k188 f188_100 (h_1)
theorem b188_103 {X : (Nat → Int) × Nat} {d : Nat} {s : mSt} {Q : mQ} {l1 : Option mV} (h_1 : Q (some (mI 1)) s) : Wp X d 188 103 [some (mR 407), l1] [] s Q := Wp_step k188 f188_103 (Wp_step k188 f188_104 ⟨⟨rfl, (Or.inr rfl)⟩, h_1⟩)
theorem e188 {X : (Nat → Int) × Nat} {d : Nat} {s : mSt} {Q : mQ} (h : Wp X d 188 0 [some (mR 407), none] [] s Q) : Sp X d 188 [mR 407] s Q := Sp_of (show mCe 188 = 0 by decide +kernel) (by rw [show mML 188 = 2 by decide +kernel]; rfl) (Nat.le_trans (Nat.le_of_ble_eq_true (show Nat.ble (mArgs _).length 2 = true from rfl)) (show 2 ≤ mML 188 by decide +kernel)) h
-- 189 ClashDayModel.sum()Z
theorem k189 : mRk 189 = 2 := by decide +kernel
theorem f189_0 : mFetch 189 0 = some (.aload_n 0, 1, 0, 0, 0, 0) := by decide +kernel
theorem f189_1 : mFetch 189 1 = some (.invokevirtual 211, 3, 188, 0, 1, 12) := by decide +kernel
theorem f189_4 : mFetch 189 4 = some (.ifCond .ne 5, 3, 9, 0, 0, 0) := by decide +kernel
theorem f189_7 : mFetch 189 7 = some (.iconst 0, 1, 0, 0, 0, 0) := by decide +kernel
theorem f189_8 : mFetch 189 8 = some (.ireturn, 1, 0, 0, 0, 0) := by decide +kernel
theorem f189_9 : mFetch 189 9 = some (.aload_n 0, 1, 0, 0, 0, 0) := by decide +kernel
theorem f189_10 : mFetch 189 10 = some (.invokevirtual 126, 3, 174, 0, 1, 12) := by decide +kernel
theorem f189_13 : mFetch 189 13 = some (.bipush 43, 2, 0, 0, 0, 0) := by decide +kernel
theorem f189_15 : mFetch 189 15 = some (.if_icmp .eq 12, 3, 27, 0, 0, 0) := by decide +kernel
theorem f189_18 : mFetch 189 18 = some (.aload_n 0, 1, 0, 0, 0, 0) := by decide +kernel
theorem f189_19 : mFetch 189 19 = some (.invokevirtual 126, 3, 174, 0, 1, 12) := by decide +kernel
theorem f189_22 : mFetch 189 22 = some (.bipush 45, 2, 0, 0, 0, 0) := by decide +kernel
theorem f189_24 : mFetch 189 24 = some (.if_icmp .ne 51, 3, 75, 0, 0, 0) := by decide +kernel
theorem f189_27 : mFetch 189 27 = some (.aload_n 0, 1, 0, 0, 0, 0) := by decide +kernel
theorem f189_28 : mFetch 189 28 = some (.getfield 7, 3, 12, 0, 2, 1) := by decide +kernel
theorem f189_31 : mFetch 189 31 = some (.aload_n 0, 1, 0, 0, 0, 0) := by decide +kernel
theorem f189_32 : mFetch 189 32 = some (.getfield 123, 3, 12, 8, 0, 1) := by decide +kernel
theorem f189_35 : mFetch 189 35 = some (.baload, 1, 0, 0, 0, 0) := by decide +kernel
theorem f189_36 : mFetch 189 36 = some (.bipush 43, 2, 0, 0, 0, 0) := by decide +kernel
theorem f189_38 : mFetch 189 38 = some (.if_icmp .ne 7, 3, 45, 0, 0, 0) := by decide +kernel
theorem f189_41 : mFetch 189 41 = some (.iconst 2, 1, 0, 0, 0, 0) := by decide +kernel
theorem f189_42 : mFetch 189 42 = some (.goto 4, 3, 46, 0, 0, 0) := by decide +kernel
theorem f189_45 : mFetch 189 45 = some (.iconst 3, 1, 0, 0, 0, 0) := by decide +kernel
theorem f189_46 : mFetch 189 46 = some (.istore_n 1, 1, 0, 0, 0, 0) := by decide +kernel
theorem f189_47 : mFetch 189 47 = some (.aload_n 0, 1, 0, 0, 0, 0) := by decide +kernel
theorem f189_48 : mFetch 189 48 = some (.dup, 1, 0, 0, 0, 0) := by decide +kernel
theorem f189_49 : mFetch 189 49 = some (.getfield 123, 3, 12, 8, 0, 1) := by decide +kernel
theorem f189_52 : mFetch 189 52 = some (.iconst 1, 1, 0, 0, 0, 0) := by decide +kernel
theorem f189_53 : mFetch 189 53 = some (.iadd, 1, 0, 0, 0, 0) := by decide +kernel
theorem f189_54 : mFetch 189 54 = some (.putfield 123, 3, 12, 8, 0, 1) := by decide +kernel
theorem f189_57 : mFetch 189 57 = some (.aload_n 0, 1, 0, 0, 0, 0) := by decide +kernel
theorem f189_58 : mFetch 189 58 = some (.invokevirtual 211, 3, 188, 0, 1, 12) := by decide +kernel
theorem f189_61 : mFetch 189 61 = some (.ifCond .ne 5, 3, 66, 0, 0, 0) := by decide +kernel
theorem f189_64 : mFetch 189 64 = some (.iconst 0, 1, 0, 0, 0, 0) := by decide +kernel
theorem f189_65 : mFetch 189 65 = some (.ireturn, 1, 0, 0, 0, 0) := by decide +kernel
theorem f189_66 : mFetch 189 66 = some (.aload_n 0, 1, 0, 0, 0, 0) := by decide +kernel
theorem f189_67 : mFetch 189 67 = some (.iload_n 1, 1, 0, 0, 0, 0) := by decide +kernel
theorem f189_68 : mFetch 189 68 = some (.iconst 0, 1, 0, 0, 0, 0) := by decide +kernel
theorem f189_69 : mFetch 189 69 = some (.invokevirtual 193, 3, 182, 0, 3, 12) := by decide +kernel
theorem f189_72 : mFetch 189 72 = some (.goto (-63), 3, 9, 0, 0, 0) := by decide +kernel
theorem f189_75 : mFetch 189 75 = some (.iconst 1, 1, 0, 0, 0, 0) := by decide +kernel
theorem f189_76 : mFetch 189 76 = some (.ireturn, 1, 0, 0, 0, 0) := by decide +kernel
theorem b189_0 {X : (Nat → Int) × Nat} {d : Nat} {s : mSt} {Q : mQ} {l1 : Option mV} (h_1 : Sp X d 188 [mR 407] s (fun r s' => ∃ v : Int, r = some (mI v) ∧ Wp X (d + 1) 189 4 [some (mR 407), l1] [mI v] s' Q)) : Wp X (d + 1) 189 0 [some (mR 407), l1] [] s Q := Wp_step k189 f189_0 (Wp_step k189 f189_1 ⟨⟨kf_407, Nat.le_of_ble_eq_true rfl⟩, Nat.le_refl _, _, rfl, Sp_E h_1⟩)
theorem b189_4 {X : (Nat → Int) × Nat} {d : Nat} {s : mSt} {Q : mQ} {l1 : Option mV} {xt0 : Int} (h_1 : ¬ xt0 = 0 → Wp X d 189 9 [some (mR 407), l1] [] s Q) (h_2 : xt0 = 0 → Wp X d 189 7 [some (mR 407), l1] [] s Q) : Wp X d 189 4 [some (mR 407), l1] [mI xt0] s Q := Wp_step k189 f189_4 ⟨h_1, h_2⟩
theorem b189_7 {X : (Nat → Int) × Nat} {d : Nat} {s : mSt} {Q : mQ} {l1 : Option mV} (h_1 : Q (some (mI 0)) s) : Wp X d 189 7 [some (mR 407), l1] [] s Q := Wp_step k189 f189_7 (Wp_step k189 f189_8 ⟨⟨rfl, (Or.inl rfl)⟩, h_1⟩)
theorem b189_9 {X : (Nat → Int) × Nat} {d : Nat} {s : mSt} {Q : mQ} {l1 : Option mV} (h_1 : Sp X d 174 [mR 407] s (fun r s' => ∃ v : Int, r = some (mI v) ∧ Wp X (d + 1) 189 13 [some (mR 407), l1] [mI v] s' Q)) : Wp X (d + 1) 189 9 [some (mR 407), l1] [] s Q := Wp_step k189 f189_9 (Wp_step k189 f189_10 ⟨⟨kf_407, Nat.le_of_ble_eq_true rfl⟩, Nat.le_refl _, _, rfl, Sp_E h_1⟩)
theorem b189_13 {X : (Nat → Int) × Nat} {d : Nat} {s : mSt} {Q : mQ} {l1 : Option mV} {xt0 : Int} (h_1 : xt0 = 43 → Wp X d 189 27 [some (mR 407), l1] [] s Q) (h_2 : ¬ xt0 = 43 → Wp X d 189 18 [some (mR 407), l1] [] s Q) : Wp X d 189 13 [some (mR 407), l1] [mI xt0] s Q := Wp_step k189 f189_13 (Wp_step k189 f189_15 ⟨h_1, h_2⟩)
theorem b189_18 {X : (Nat → Int) × Nat} {d : Nat} {s : mSt} {Q : mQ} {l1 : Option mV} (h_1 : Sp X d 174 [mR 407] s (fun r s' => ∃ v : Int, r = some (mI v) ∧ Wp X (d + 1) 189 22 [some (mR 407), l1] [mI v] s' Q)) : Wp X (d + 1) 189 18 [some (mR 407), l1] [] s Q := Wp_step k189 f189_18 (Wp_step k189 f189_19 ⟨⟨kf_407, Nat.le_of_ble_eq_true rfl⟩, Nat.le_refl _, _, rfl, Sp_E h_1⟩)
theorem b189_22 {X : (Nat → Int) × Nat} {d : Nat} {s : mSt} {Q : mQ} {l1 : Option mV} {xt0 : Int} (h_1 : ¬ xt0 = 45 → Wp X d 189 75 [some (mR 407), l1] [] s Q) (h_2 : xt0 = 45 → Wp X d 189 27 [some (mR 407), l1] [] s Q) : Wp X d 189 22 [some (mR 407), l1] [mI xt0] s Q := Wp_step k189 f189_22 (Wp_step k189 f189_24 ⟨h_1, h_2⟩)
theorem b189_27 {X : (Nat → Int) × Nat} {d : Nat} {s : mSt} {Q : mQ} {l1 : Option mV} (h_1 : 0 ≤ (s 407 8) ∧ (s 407 8) < 400) (h_2 : ¬ (s 408 (s 407 8).toNat) = 43 → Wp X d 189 45 [some (mR 407), l1] [] s Q) (h_3 : (s 408 (s 407 8).toNat) = 43 → Wp X d 189 41 [some (mR 407), l1] [] s Q) : Wp X d 189 27 [some (mR 407), l1] [] s Q := Wp_step k189 f189_27 (Wp_step k189 f189_28 ⟨kf_407, 408, rf_407_0, Wp_step k189 f189_31 (Wp_step k189 f189_32 ⟨kf_407, Wp_step k189 f189_35 ⟨20, 400, af_408, (Or.inl rfl), h_1, Wp_step k189 f189_36 (Wp_step k189 f189_38 ⟨h_2, h_3⟩)⟩⟩)⟩)
theorem b189_41 {X : (Nat → Int) × Nat} {d : Nat} {s : mSt} {Q : mQ} {l1 : Option mV} (h_1 : Wp X d 189 46 [some (mR 407), l1] [mI 2] s Q) : Wp X d 189 41 [some (mR 407), l1] [] s Q := Wp_step k189 f189_41 (Wp_step k189 f189_42 (h_1))
theorem b189_45 {X : (Nat → Int) × Nat} {d : Nat} {s : mSt} {Q : mQ} {l1 : Option mV} (h_1 : Wp X d 189 46 [some (mR 407), l1] [mI 3] s Q) : Wp X d 189 45 [some (mR 407), l1] [] s Q := Wp_step k189 f189_45 (h_1)
theorem b189_46 {X : (Nat → Int) × Nat} {d : Nat} {s : mSt} {Q : mQ} {l1 : Option mV} {xt0 : Int} (h_1 : Sp X d 188 [mR 407] (uS s 407 8 (w32 ((s 407 8) + 1))) (fun r s' => ∃ v : Int, r = some (mI v) ∧ Wp X (d + 1) 189 61 [some (mR 407), some (mI xt0)] [mI v] s' Q)) : Wp X (d + 1) 189 46 [some (mR 407), l1] [mI xt0] s Q := Wp_step k189 f189_46 (Wp_step k189 f189_47 (Wp_step k189 f189_48 (Wp_step k189 f189_49 ⟨kf_407, Wp_step k189 f189_52 (Wp_step k189 f189_53 (Wp_step k189 f189_54 ⟨kf_407, Wp_step k189 f189_57 (Wp_step k189 f189_58 ⟨⟨kf_407, Nat.le_of_ble_eq_true rfl⟩, Nat.le_refl _, _, rfl, Sp_E h_1⟩)⟩))⟩)))
theorem b189_61 {X : (Nat → Int) × Nat} {d : Nat} {s : mSt} {Q : mQ} {x1 : Int} {xt0 : Int} (h_1 : ¬ xt0 = 0 → Wp X d 189 66 [some (mR 407), some (mI x1)] [] s Q) (h_2 : xt0 = 0 → Wp X d 189 64 [some (mR 407), some (mI x1)] [] s Q) : Wp X d 189 61 [some (mR 407), some (mI x1)] [mI xt0] s Q := Wp_step k189 f189_61 ⟨h_1, h_2⟩
theorem b189_64 {X : (Nat → Int) × Nat} {d : Nat} {s : mSt} {Q : mQ} {x1 : Int} (h_1 : Q (some (mI 0)) s) : Wp X d 189 64 [some (mR 407), some (mI x1)] [] s Q := Wp_step k189 f189_64 (Wp_step k189 f189_65 ⟨⟨rfl, (Or.inl rfl)⟩, h_1⟩)
theorem b189_66 {X : (Nat → Int) × Nat} {d : Nat} {s : mSt} {Q : mQ} {x1 : Int} (h_1 : Sp X d 182 [mR 407, mI x1, mI 0] s (fun r s' => r = none ∧ Wp X (d + 1) 189 72 [some (mR 407), some (mI x1)] [] s' Q)) : Wp X (d + 1) 189 66 [some (mR 407), some (mI x1)] [] s Q := Wp_step k189 f189_66 (Wp_step k189 f189_67 (Wp_step k189 f189_68 (Wp_step k189 f189_69 ⟨⟨kf_407, Nat.le_of_ble_eq_true rfl⟩, Nat.le_refl _, _, rfl, Sp_V h_1⟩)))
theorem b189_72 {X : (Nat → Int) × Nat} {d : Nat} {s : mSt} {Q : mQ} {x1 : Int} (h_1 : Wp X d 189 9 [some (mR 407), some (mI x1)] [] s Q) : Wp X d 189 72 [some (mR 407), some (mI x1)] [] s Q := Wp_step k189 f189_72 (h_1)
theorem b189_75 {X : (Nat → Int) × Nat} {d : Nat} {s : mSt} {Q : mQ} {l1 : Option mV} (h_1 : Q (some (mI 1)) s) : Wp X d 189 75 [some (mR 407), l1] [] s Q := Wp_step k189 f189_75 (Wp_step k189 f189_76 ⟨⟨rfl, (Or.inr rfl)⟩, h_1⟩)
theorem e189 {X : (Nat → Int) × Nat} {d : Nat} {s : mSt} {Q : mQ} (h : Wp X d 189 0 [some (mR 407), none] [] s Q) : Sp X d 189 [mR 407] s Q := Sp_of (show mCe 189 = 0 by decide +kernel) (by rw [show mML 189 = 2 by decide +kernel]; rfl) (Nat.le_trans (Nat.le_of_ble_eq_true (show Nat.ble (mArgs _).length 2 = true from rfl)) (show 2 ≤ mML 189 by decide +kernel)) h
-- 190 ClashDayModel.compare()Z
theorem k190 : mRk 190 = 2 := by decide +kernel
theorem f190_0 : mFetch 190 0 = some (.aload_n 0, 1, 0, 0, 0, 0) := by decide +kernel
theorem f190_1 : mFetch 190 1 = some (.invokevirtual 214, 3, 189, 0, 1, 12) := by decide +kernel
theorem f190_4 : mFetch 190 4 = some (.ifCond .ne 5, 3, 9, 0, 0, 0) := by decide +kernel
theorem f190_7 : mFetch 190 7 = some (.iconst 0, 1, 0, 0, 0, 0) := by decide +kernel
theorem f190_8 : mFetch 190 8 = some (.ireturn, 1, 0, 0, 0, 0) := by decide +kernel
theorem f190_9 : mFetch 190 9 = some (.aload_n 0, 1, 0, 0, 0, 0) := by decide +kernel
theorem f190_10 : mFetch 190 10 = some (.invokevirtual 126, 3, 174, 0, 1, 12) := by decide +kernel
theorem f190_13 : mFetch 190 13 = some (.istore_n 1, 1, 0, 0, 0, 0) := by decide +kernel
theorem f190_14 : mFetch 190 14 = some (.aload_n 0, 1, 0, 0, 0, 0) := by decide +kernel
theorem f190_15 : mFetch 190 15 = some (.getfield 123, 3, 12, 8, 0, 1) := by decide +kernel
theorem f190_18 : mFetch 190 18 = some (.istore_n 2, 1, 0, 0, 0, 0) := by decide +kernel
theorem f190_19 : mFetch 190 19 = some (.iload_n 1, 1, 0, 0, 0, 0) := by decide +kernel
theorem f190_20 : mFetch 190 20 = some (.bipush 60, 2, 0, 0, 0, 0) := by decide +kernel
theorem f190_22 : mFetch 190 22 = some (.if_icmp .eq 22, 3, 44, 0, 0, 0) := by decide +kernel
theorem f190_25 : mFetch 190 25 = some (.iload_n 1, 1, 0, 0, 0, 0) := by decide +kernel
theorem f190_26 : mFetch 190 26 = some (.bipush 61, 2, 0, 0, 0, 0) := by decide +kernel
theorem f190_28 : mFetch 190 28 = some (.if_icmp .eq 16, 3, 44, 0, 0, 0) := by decide +kernel
theorem f190_31 : mFetch 190 31 = some (.iload_n 1, 1, 0, 0, 0, 0) := by decide +kernel
theorem f190_32 : mFetch 190 32 = some (.bipush 62, 2, 0, 0, 0, 0) := by decide +kernel
theorem f190_34 : mFetch 190 34 = some (.if_icmp .eq 10, 3, 44, 0, 0, 0) := by decide +kernel
theorem f190_37 : mFetch 190 37 = some (.aload_n 0, 1, 0, 0, 0, 0) := by decide +kernel
theorem f190_38 : mFetch 190 38 = some (.iconst 0, 1, 0, 0, 0, 0) := by decide +kernel
theorem f190_39 : mFetch 190 39 = some (.iload_n 2, 1, 0, 0, 0, 0) := by decide +kernel
theorem f190_40 : mFetch 190 40 = some (.invokevirtual 144, 3, 173, 0, 3, 12) := by decide +kernel
theorem f190_43 : mFetch 190 43 = some (.ireturn, 1, 0, 0, 0, 0) := by decide +kernel
theorem f190_44 : mFetch 190 44 = some (.aload_n 0, 1, 0, 0, 0, 0) := by decide +kernel
theorem f190_45 : mFetch 190 45 = some (.dup, 1, 0, 0, 0, 0) := by decide +kernel
theorem f190_46 : mFetch 190 46 = some (.getfield 123, 3, 12, 8, 0, 1) := by decide +kernel
theorem f190_49 : mFetch 190 49 = some (.iconst 1, 1, 0, 0, 0, 0) := by decide +kernel
theorem f190_50 : mFetch 190 50 = some (.iadd, 1, 0, 0, 0, 0) := by decide +kernel
theorem f190_51 : mFetch 190 51 = some (.putfield 123, 3, 12, 8, 0, 1) := by decide +kernel
theorem f190_54 : mFetch 190 54 = some (.iload_n 1, 1, 0, 0, 0, 0) := by decide +kernel
theorem f190_55 : mFetch 190 55 = some (.bipush 61, 2, 0, 0, 0, 0) := by decide +kernel
theorem f190_57 : mFetch 190 57 = some (.if_icmp .eq 32, 3, 89, 0, 0, 0) := by decide +kernel
theorem f190_60 : mFetch 190 60 = some (.aload_n 0, 1, 0, 0, 0, 0) := by decide +kernel
theorem f190_61 : mFetch 190 61 = some (.getfield 123, 3, 12, 8, 0, 1) := by decide +kernel
theorem f190_64 : mFetch 190 64 = some (.aload_n 0, 1, 0, 0, 0, 0) := by decide +kernel
theorem f190_65 : mFetch 190 65 = some (.getfield 113, 3, 12, 1, 0, 1) := by decide +kernel
theorem f190_68 : mFetch 190 68 = some (.if_icmp .ge 21, 3, 89, 0, 0, 0) := by decide +kernel
theorem f190_71 : mFetch 190 71 = some (.aload_n 0, 1, 0, 0, 0, 0) := by decide +kernel
theorem f190_72 : mFetch 190 72 = some (.getfield 7, 3, 12, 0, 2, 1) := by decide +kernel
theorem f190_75 : mFetch 190 75 = some (.aload_n 0, 1, 0, 0, 0, 0) := by decide +kernel
theorem f190_76 : mFetch 190 76 = some (.getfield 123, 3, 12, 8, 0, 1) := by decide +kernel
theorem f190_79 : mFetch 190 79 = some (.baload, 1, 0, 0, 0, 0) := by decide +kernel
theorem f190_80 : mFetch 190 80 = some (.bipush 61, 2, 0, 0, 0, 0) := by decide +kernel
theorem f190_82 : mFetch 190 82 = some (.if_icmp .ne 7, 3, 89, 0, 0, 0) := by decide +kernel
theorem f190_85 : mFetch 190 85 = some (.iconst 1, 1, 0, 0, 0, 0) := by decide +kernel
theorem f190_86 : mFetch 190 86 = some (.goto 4, 3, 90, 0, 0, 0) := by decide +kernel
theorem f190_89 : mFetch 190 89 = some (.iconst 0, 1, 0, 0, 0, 0) := by decide +kernel
theorem f190_90 : mFetch 190 90 = some (.istore_n 3, 1, 0, 0, 0, 0) := by decide +kernel
theorem f190_91 : mFetch 190 91 = some (.iload_n 3, 1, 0, 0, 0, 0) := by decide +kernel
theorem f190_92 : mFetch 190 92 = some (.ifCond .eq 13, 3, 105, 0, 0, 0) := by decide +kernel
theorem f190_95 : mFetch 190 95 = some (.aload_n 0, 1, 0, 0, 0, 0) := by decide +kernel
theorem f190_96 : mFetch 190 96 = some (.dup, 1, 0, 0, 0, 0) := by decide +kernel
theorem f190_97 : mFetch 190 97 = some (.getfield 123, 3, 12, 8, 0, 1) := by decide +kernel
theorem f190_100 : mFetch 190 100 = some (.iconst 1, 1, 0, 0, 0, 0) := by decide +kernel
theorem f190_101 : mFetch 190 101 = some (.iadd, 1, 0, 0, 0, 0) := by decide +kernel
theorem f190_102 : mFetch 190 102 = some (.putfield 123, 3, 12, 8, 0, 1) := by decide +kernel
theorem f190_105 : mFetch 190 105 = some (.aload_n 0, 1, 0, 0, 0, 0) := by decide +kernel
theorem f190_106 : mFetch 190 106 = some (.iload_n 2, 1, 0, 0, 0, 0) := by decide +kernel
theorem f190_107 : mFetch 190 107 = some (.invokevirtual 201, 3, 183, 0, 2, 12) := by decide +kernel
theorem f190_110 : mFetch 190 110 = some (.ifCond .ne 5, 3, 115, 0, 0, 0) := by decide +kernel
theorem f190_113 : mFetch 190 113 = some (.iconst 0, 1, 0, 0, 0, 0) := by decide +kernel
theorem f190_114 : mFetch 190 114 = some (.ireturn, 1, 0, 0, 0, 0) := by decide +kernel
theorem f190_115 : mFetch 190 115 = some (.iload_n 1, 1, 0, 0, 0, 0) := by decide +kernel
theorem f190_116 : mFetch 190 116 = some (.bipush 60, 2, 0, 0, 0, 0) := by decide +kernel
theorem f190_118 : mFetch 190 118 = some (.if_icmp .ne 15, 3, 133, 0, 0, 0) := by decide +kernel
theorem f190_121 : mFetch 190 121 = some (.iload_n 3, 1, 0, 0, 0, 0) := by decide +kernel
theorem f190_122 : mFetch 190 122 = some (.ifCond .eq 7, 3, 129, 0, 0, 0) := by decide +kernel
theorem f190_125 : mFetch 190 125 = some (.iconst 1, 1, 0, 0, 0, 0) := by decide +kernel
theorem f190_126 : mFetch 190 126 = some (.goto 26, 3, 152, 0, 0, 0) := by decide +kernel
theorem f190_129 : mFetch 190 129 = some (.iconst 0, 1, 0, 0, 0, 0) := by decide +kernel
theorem f190_130 : mFetch 190 130 = some (.goto 22, 3, 152, 0, 0, 0) := by decide +kernel
theorem f190_133 : mFetch 190 133 = some (.iload_n 1, 1, 0, 0, 0, 0) := by decide +kernel
theorem f190_134 : mFetch 190 134 = some (.bipush 61, 2, 0, 0, 0, 0) := by decide +kernel
theorem f190_136 : mFetch 190 136 = some (.if_icmp .ne 7, 3, 143, 0, 0, 0) := by decide +kernel
theorem f190_139 : mFetch 190 139 = some (.iconst 2, 1, 0, 0, 0, 0) := by decide +kernel
theorem f190_140 : mFetch 190 140 = some (.goto 12, 3, 152, 0, 0, 0) := by decide +kernel
theorem f190_143 : mFetch 190 143 = some (.iload_n 3, 1, 0, 0, 0, 0) := by decide +kernel
theorem f190_144 : mFetch 190 144 = some (.ifCond .eq 7, 3, 151, 0, 0, 0) := by decide +kernel
theorem f190_147 : mFetch 190 147 = some (.iconst 3, 1, 0, 0, 0, 0) := by decide +kernel
theorem f190_148 : mFetch 190 148 = some (.goto 4, 3, 152, 0, 0, 0) := by decide +kernel
theorem f190_151 : mFetch 190 151 = some (.iconst 4, 1, 0, 0, 0, 0) := by decide +kernel
theorem f190_152 : mFetch 190 152 = some (.istore 4, 2, 0, 0, 0, 0) := by decide +kernel
theorem f190_154 : mFetch 190 154 = some (.aload_n 0, 1, 0, 0, 0, 0) := by decide +kernel
theorem f190_155 : mFetch 190 155 = some (.invokevirtual 214, 3, 189, 0, 1, 12) := by decide +kernel
theorem f190_158 : mFetch 190 158 = some (.ifCond .ne 5, 3, 163, 0, 0, 0) := by decide +kernel
theorem f190_161 : mFetch 190 161 = some (.iconst 0, 1, 0, 0, 0, 0) := by decide +kernel
theorem f190_162 : mFetch 190 162 = some (.ireturn, 1, 0, 0, 0, 0) := by decide +kernel
theorem f190_163 : mFetch 190 163 = some (.aload_n 0, 1, 0, 0, 0, 0) := by decide +kernel
theorem f190_164 : mFetch 190 164 = some (.bipush 6, 2, 0, 0, 0, 0) := by decide +kernel
theorem f190_166 : mFetch 190 166 = some (.iload 4, 2, 0, 0, 0, 0) := by decide +kernel
theorem f190_168 : mFetch 190 168 = some (.iadd, 1, 0, 0, 0, 0) := by decide +kernel
theorem f190_169 : mFetch 190 169 = some (.iconst 0, 1, 0, 0, 0, 0) := by decide +kernel
theorem f190_170 : mFetch 190 170 = some (.invokevirtual 193, 3, 182, 0, 3, 12) := by decide +kernel
theorem f190_173 : mFetch 190 173 = some (.iconst 1, 1, 0, 0, 0, 0) := by decide +kernel
theorem f190_174 : mFetch 190 174 = some (.ireturn, 1, 0, 0, 0, 0) := by decide +kernel
theorem b190_0 {X : (Nat → Int) × Nat} {d : Nat} {s : mSt} {Q : mQ} {l1 : Option mV} {l2 : Option mV} {l3 : Option mV} {l4 : Option mV} (h_1 : Sp X d 189 [mR 407] s (fun r s' => ∃ v : Int, r = some (mI v) ∧ Wp X (d + 1) 190 4 [some (mR 407), l1, l2, l3, l4] [mI v] s' Q)) : Wp X (d + 1) 190 0 [some (mR 407), l1, l2, l3, l4] [] s Q := Wp_step k190 f190_0 (Wp_step k190 f190_1 ⟨⟨kf_407, Nat.le_of_ble_eq_true rfl⟩, Nat.le_refl _, _, rfl, Sp_E h_1⟩)
theorem b190_4 {X : (Nat → Int) × Nat} {d : Nat} {s : mSt} {Q : mQ} {l1 : Option mV} {l2 : Option mV} {l3 : Option mV} {l4 : Option mV} {xt0 : Int} (h_1 : ¬ xt0 = 0 → Wp X d 190 9 [some (mR 407), l1, l2, l3, l4] [] s Q) (h_2 : xt0 = 0 → Wp X d 190 7 [some (mR 407), l1, l2, l3, l4] [] s Q) : Wp X d 190 4 [some (mR 407), l1, l2, l3, l4] [mI xt0] s Q := Wp_step k190 f190_4 ⟨h_1, h_2⟩
theorem b190_7 {X : (Nat → Int) × Nat} {d : Nat} {s : mSt} {Q : mQ} {l1 : Option mV} {l2 : Option mV} {l3 : Option mV} {l4 : Option mV} (h_1 : Q (some (mI 0)) s) : Wp X d 190 7 [some (mR 407), l1, l2, l3, l4] [] s Q := Wp_step k190 f190_7 (Wp_step k190 f190_8 ⟨⟨rfl, (Or.inl rfl)⟩, h_1⟩)
theorem b190_9 {X : (Nat → Int) × Nat} {d : Nat} {s : mSt} {Q : mQ} {l1 : Option mV} {l2 : Option mV} {l3 : Option mV} {l4 : Option mV} (h_1 : Sp X d 174 [mR 407] s (fun r s' => ∃ v : Int, r = some (mI v) ∧ Wp X (d + 1) 190 13 [some (mR 407), l1, l2, l3, l4] [mI v] s' Q)) : Wp X (d + 1) 190 9 [some (mR 407), l1, l2, l3, l4] [] s Q := Wp_step k190 f190_9 (Wp_step k190 f190_10 ⟨⟨kf_407, Nat.le_of_ble_eq_true rfl⟩, Nat.le_refl _, _, rfl, Sp_E h_1⟩)
theorem b190_13 {X : (Nat → Int) × Nat} {d : Nat} {s : mSt} {Q : mQ} {l1 : Option mV} {l2 : Option mV} {l3 : Option mV} {l4 : Option mV} {xt0 : Int} (h_1 : xt0 = 60 → Wp X d 190 44 [some (mR 407), some (mI xt0), some (mI (s 407 8)), l3, l4] [] s Q) (h_2 : ¬ xt0 = 60 → Wp X d 190 25 [some (mR 407), some (mI xt0), some (mI (s 407 8)), l3, l4] [] s Q) : Wp X d 190 13 [some (mR 407), l1, l2, l3, l4] [mI xt0] s Q := Wp_step k190 f190_13 (Wp_step k190 f190_14 (Wp_step k190 f190_15 ⟨kf_407, Wp_step k190 f190_18 (Wp_step k190 f190_19 (Wp_step k190 f190_20 (Wp_step k190 f190_22 ⟨h_1, h_2⟩)))⟩))
theorem b190_25 {X : (Nat → Int) × Nat} {d : Nat} {s : mSt} {Q : mQ} {x1 : Int} {x2 : Int} {l3 : Option mV} {l4 : Option mV} (h_1 : x1 = 61 → Wp X d 190 44 [some (mR 407), some (mI x1), some (mI x2), l3, l4] [] s Q) (h_2 : ¬ x1 = 61 → Wp X d 190 31 [some (mR 407), some (mI x1), some (mI x2), l3, l4] [] s Q) : Wp X d 190 25 [some (mR 407), some (mI x1), some (mI x2), l3, l4] [] s Q := Wp_step k190 f190_25 (Wp_step k190 f190_26 (Wp_step k190 f190_28 ⟨h_1, h_2⟩))
theorem b190_31 {X : (Nat → Int) × Nat} {d : Nat} {s : mSt} {Q : mQ} {x1 : Int} {x2 : Int} {l3 : Option mV} {l4 : Option mV} (h_1 : x1 = 62 → Wp X d 190 44 [some (mR 407), some (mI x1), some (mI x2), l3, l4] [] s Q) (h_2 : ¬ x1 = 62 → Wp X d 190 37 [some (mR 407), some (mI x1), some (mI x2), l3, l4] [] s Q) : Wp X d 190 31 [some (mR 407), some (mI x1), some (mI x2), l3, l4] [] s Q := Wp_step k190 f190_31 (Wp_step k190 f190_32 (Wp_step k190 f190_34 ⟨h_1, h_2⟩))
theorem b190_37 {X : (Nat → Int) × Nat} {d : Nat} {s : mSt} {Q : mQ} {x1 : Int} {x2 : Int} {l3 : Option mV} {l4 : Option mV} (h_1 : Sp X d 173 [mR 407, mI 0, mI x2] s (fun r s' => ∃ v : Int, r = some (mI v) ∧ Wp X (d + 1) 190 43 [some (mR 407), some (mI x1), some (mI x2), l3, l4] [mI v] s' Q)) : Wp X (d + 1) 190 37 [some (mR 407), some (mI x1), some (mI x2), l3, l4] [] s Q := Wp_step k190 f190_37 (Wp_step k190 f190_38 (Wp_step k190 f190_39 (Wp_step k190 f190_40 ⟨⟨kf_407, Nat.le_of_ble_eq_true rfl⟩, Nat.le_refl _, _, rfl, Sp_E h_1⟩)))
theorem b190_43 {X : (Nat → Int) × Nat} {d : Nat} {s : mSt} {Q : mQ} {x1 : Int} {x2 : Int} {l3 : Option mV} {l4 : Option mV} {xt0 : Int} (h_1 : Q (some (mI xt0)) s) (h_2 : xt0 = 0 ∨ xt0 = 1) : Wp X d 190 43 [some (mR 407), some (mI x1), some (mI x2), l3, l4] [mI xt0] s Q := Wp_step k190 f190_43 ⟨⟨rfl, h_2⟩, h_1⟩
theorem b190_44 {X : (Nat → Int) × Nat} {d : Nat} {s : mSt} {Q : mQ} {x1 : Int} {x2 : Int} {l3 : Option mV} {l4 : Option mV} (h_1 : x1 = 61 → Wp X d 190 89 [some (mR 407), some (mI x1), some (mI x2), l3, l4] [] (uS s 407 8 (w32 ((s 407 8) + 1))) Q) (h_2 : ¬ x1 = 61 → Wp X d 190 60 [some (mR 407), some (mI x1), some (mI x2), l3, l4] [] (uS s 407 8 (w32 ((s 407 8) + 1))) Q) : Wp X d 190 44 [some (mR 407), some (mI x1), some (mI x2), l3, l4] [] s Q := Wp_step k190 f190_44 (Wp_step k190 f190_45 (Wp_step k190 f190_46 ⟨kf_407, Wp_step k190 f190_49 (Wp_step k190 f190_50 (Wp_step k190 f190_51 ⟨kf_407, Wp_step k190 f190_54 (Wp_step k190 f190_55 (Wp_step k190 f190_57 ⟨h_1, h_2⟩))⟩))⟩))
theorem b190_60 {X : (Nat → Int) × Nat} {d : Nat} {s : mSt} {Q : mQ} {x1 : Int} {x2 : Int} {l3 : Option mV} {l4 : Option mV} (h_1 : (s 407 1) ≤ (s 407 8) → Wp X d 190 89 [some (mR 407), some (mI x1), some (mI x2), l3, l4] [] s Q) (h_2 : ¬ (s 407 1) ≤ (s 407 8) → Wp X d 190 71 [some (mR 407), some (mI x1), some (mI x2), l3, l4] [] s Q) : Wp X d 190 60 [some (mR 407), some (mI x1), some (mI x2), l3, l4] [] s Q := Wp_step k190 f190_60 (Wp_step k190 f190_61 ⟨kf_407, Wp_step k190 f190_64 (Wp_step k190 f190_65 ⟨kf_407, Wp_step k190 f190_68 ⟨h_1, h_2⟩⟩)⟩)
theorem b190_71 {X : (Nat → Int) × Nat} {d : Nat} {s : mSt} {Q : mQ} {x1 : Int} {x2 : Int} {l3 : Option mV} {l4 : Option mV} (h_1 : 0 ≤ (s 407 8) ∧ (s 407 8) < 400) (h_2 : ¬ (s 408 (s 407 8).toNat) = 61 → Wp X d 190 89 [some (mR 407), some (mI x1), some (mI x2), l3, l4] [] s Q) (h_3 : (s 408 (s 407 8).toNat) = 61 → Wp X d 190 85 [some (mR 407), some (mI x1), some (mI x2), l3, l4] [] s Q) : Wp X d 190 71 [some (mR 407), some (mI x1), some (mI x2), l3, l4] [] s Q := Wp_step k190 f190_71 (Wp_step k190 f190_72 ⟨kf_407, 408, rf_407_0, Wp_step k190 f190_75 (Wp_step k190 f190_76 ⟨kf_407, Wp_step k190 f190_79 ⟨20, 400, af_408, (Or.inl rfl), h_1, Wp_step k190 f190_80 (Wp_step k190 f190_82 ⟨h_2, h_3⟩)⟩⟩)⟩)
theorem b190_85 {X : (Nat → Int) × Nat} {d : Nat} {s : mSt} {Q : mQ} {x1 : Int} {x2 : Int} {l3 : Option mV} {l4 : Option mV} (h_1 : Wp X d 190 90 [some (mR 407), some (mI x1), some (mI x2), l3, l4] [mI 1] s Q) : Wp X d 190 85 [some (mR 407), some (mI x1), some (mI x2), l3, l4] [] s Q := Wp_step k190 f190_85 (Wp_step k190 f190_86 (h_1))
theorem b190_89 {X : (Nat → Int) × Nat} {d : Nat} {s : mSt} {Q : mQ} {x1 : Int} {x2 : Int} {l3 : Option mV} {l4 : Option mV} (h_1 : Wp X d 190 90 [some (mR 407), some (mI x1), some (mI x2), l3, l4] [mI 0] s Q) : Wp X d 190 89 [some (mR 407), some (mI x1), some (mI x2), l3, l4] [] s Q := Wp_step k190 f190_89 (h_1)
theorem b190_90 {X : (Nat → Int) × Nat} {d : Nat} {s : mSt} {Q : mQ} {x1 : Int} {x2 : Int} {l3 : Option mV} {l4 : Option mV} {xt0 : Int} (h_1 : xt0 = 0 → Wp X d 190 105 [some (mR 407), some (mI x1), some (mI x2), some (mI xt0), l4] [] s Q) (h_2 : ¬ xt0 = 0 → Wp X d 190 95 [some (mR 407), some (mI x1), some (mI x2), some (mI xt0), l4] [] s Q) : Wp X d 190 90 [some (mR 407), some (mI x1), some (mI x2), l3, l4] [mI xt0] s Q := Wp_step k190 f190_90 (Wp_step k190 f190_91 (Wp_step k190 f190_92 ⟨h_1, h_2⟩))
theorem b190_95 {X : (Nat → Int) × Nat} {d : Nat} {s : mSt} {Q : mQ} {x1 : Int} {x2 : Int} {x3 : Int} {l4 : Option mV} (h_1 : Wp X d 190 105 [some (mR 407), some (mI x1), some (mI x2), some (mI x3), l4] [] (uS s 407 8 (w32 ((s 407 8) + 1))) Q) : Wp X d 190 95 [some (mR 407), some (mI x1), some (mI x2), some (mI x3), l4] [] s Q := Wp_step k190 f190_95 (Wp_step k190 f190_96 (Wp_step k190 f190_97 ⟨kf_407, Wp_step k190 f190_100 (Wp_step k190 f190_101 (Wp_step k190 f190_102 ⟨kf_407, h_1⟩))⟩))
theorem b190_105 {X : (Nat → Int) × Nat} {d : Nat} {s : mSt} {Q : mQ} {x1 : Int} {x2 : Int} {x3 : Int} {l4 : Option mV} (h_1 : Sp X d 183 [mR 407, mI x2] s (fun r s' => ∃ v : Int, r = some (mI v) ∧ Wp X (d + 1) 190 110 [some (mR 407), some (mI x1), some (mI x2), some (mI x3), l4] [mI v] s' Q)) : Wp X (d + 1) 190 105 [some (mR 407), some (mI x1), some (mI x2), some (mI x3), l4] [] s Q := Wp_step k190 f190_105 (Wp_step k190 f190_106 (Wp_step k190 f190_107 ⟨⟨kf_407, Nat.le_of_ble_eq_true rfl⟩, Nat.le_refl _, _, rfl, Sp_E h_1⟩))
theorem b190_110 {X : (Nat → Int) × Nat} {d : Nat} {s : mSt} {Q : mQ} {x1 : Int} {x2 : Int} {x3 : Int} {l4 : Option mV} {xt0 : Int} (h_1 : ¬ xt0 = 0 → Wp X d 190 115 [some (mR 407), some (mI x1), some (mI x2), some (mI x3), l4] [] s Q) (h_2 : xt0 = 0 → Wp X d 190 113 [some (mR 407), some (mI x1), some (mI x2), some (mI x3), l4] [] s Q) : Wp X d 190 110 [some (mR 407), some (mI x1), some (mI x2), some (mI x3), l4] [mI xt0] s Q := Wp_step k190 f190_110 ⟨h_1, h_2⟩
theorem b190_113 {X : (Nat → Int) × Nat} {d : Nat} {s : mSt} {Q : mQ} {x1 : Int} {x2 : Int} {x3 : Int} {l4 : Option mV} (h_1 : Q (some (mI 0)) s) : Wp X d 190 113 [some (mR 407), some (mI x1), some (mI x2), some (mI x3), l4] [] s Q := Wp_step k190 f190_113 (Wp_step k190 f190_114 ⟨⟨rfl, (Or.inl rfl)⟩, h_1⟩)
theorem b190_115 {X : (Nat → Int) × Nat} {d : Nat} {s : mSt} {Q : mQ} {x1 : Int} {x2 : Int} {x3 : Int} {l4 : Option mV} (h_1 : ¬ x1 = 60 → Wp X d 190 133 [some (mR 407), some (mI x1), some (mI x2), some (mI x3), l4] [] s Q) (h_2 : x1 = 60 → Wp X d 190 121 [some (mR 407), some (mI x1), some (mI x2), some (mI x3), l4] [] s Q) : Wp X d 190 115 [some (mR 407), some (mI x1), some (mI x2), some (mI x3), l4] [] s Q := Wp_step k190 f190_115 (Wp_step k190 f190_116 (Wp_step k190 f190_118 ⟨h_1, h_2⟩))
theorem b190_121 {X : (Nat → Int) × Nat} {d : Nat} {s : mSt} {Q : mQ} {x1 : Int} {x2 : Int} {x3 : Int} {l4 : Option mV} (h_1 : x3 = 0 → Wp X d 190 129 [some (mR 407), some (mI x1), some (mI x2), some (mI x3), l4] [] s Q) (h_2 : ¬ x3 = 0 → Wp X d 190 125 [some (mR 407), some (mI x1), some (mI x2), some (mI x3), l4] [] s Q) : Wp X d 190 121 [some (mR 407), some (mI x1), some (mI x2), some (mI x3), l4] [] s Q := Wp_step k190 f190_121 (Wp_step k190 f190_122 ⟨h_1, h_2⟩)
theorem b190_125 {X : (Nat → Int) × Nat} {d : Nat} {s : mSt} {Q : mQ} {x1 : Int} {x2 : Int} {x3 : Int} {l4 : Option mV} (h_1 : Wp X d 190 152 [some (mR 407), some (mI x1), some (mI x2), some (mI x3), l4] [mI 1] s Q) : Wp X d 190 125 [some (mR 407), some (mI x1), some (mI x2), some (mI x3), l4] [] s Q := Wp_step k190 f190_125 (Wp_step k190 f190_126 (h_1))
theorem b190_129 {X : (Nat → Int) × Nat} {d : Nat} {s : mSt} {Q : mQ} {x1 : Int} {x2 : Int} {x3 : Int} {l4 : Option mV} (h_1 : Wp X d 190 152 [some (mR 407), some (mI x1), some (mI x2), some (mI x3), l4] [mI 0] s Q) : Wp X d 190 129 [some (mR 407), some (mI x1), some (mI x2), some (mI x3), l4] [] s Q := Wp_step k190 f190_129 (Wp_step k190 f190_130 (h_1))
theorem b190_133 {X : (Nat → Int) × Nat} {d : Nat} {s : mSt} {Q : mQ} {x1 : Int} {x2 : Int} {x3 : Int} {l4 : Option mV} (h_1 : ¬ x1 = 61 → Wp X d 190 143 [some (mR 407), some (mI x1), some (mI x2), some (mI x3), l4] [] s Q) (h_2 : x1 = 61 → Wp X d 190 139 [some (mR 407), some (mI x1), some (mI x2), some (mI x3), l4] [] s Q) : Wp X d 190 133 [some (mR 407), some (mI x1), some (mI x2), some (mI x3), l4] [] s Q := Wp_step k190 f190_133 (Wp_step k190 f190_134 (Wp_step k190 f190_136 ⟨h_1, h_2⟩))
theorem b190_139 {X : (Nat → Int) × Nat} {d : Nat} {s : mSt} {Q : mQ} {x1 : Int} {x2 : Int} {x3 : Int} {l4 : Option mV} (h_1 : Wp X d 190 152 [some (mR 407), some (mI x1), some (mI x2), some (mI x3), l4] [mI 2] s Q) : Wp X d 190 139 [some (mR 407), some (mI x1), some (mI x2), some (mI x3), l4] [] s Q := Wp_step k190 f190_139 (Wp_step k190 f190_140 (h_1))
theorem b190_143 {X : (Nat → Int) × Nat} {d : Nat} {s : mSt} {Q : mQ} {x1 : Int} {x2 : Int} {x3 : Int} {l4 : Option mV} (h_1 : x3 = 0 → Wp X d 190 151 [some (mR 407), some (mI x1), some (mI x2), some (mI x3), l4] [] s Q) (h_2 : ¬ x3 = 0 → Wp X d 190 147 [some (mR 407), some (mI x1), some (mI x2), some (mI x3), l4] [] s Q) : Wp X d 190 143 [some (mR 407), some (mI x1), some (mI x2), some (mI x3), l4] [] s Q := Wp_step k190 f190_143 (Wp_step k190 f190_144 ⟨h_1, h_2⟩)
theorem b190_147 {X : (Nat → Int) × Nat} {d : Nat} {s : mSt} {Q : mQ} {x1 : Int} {x2 : Int} {x3 : Int} {l4 : Option mV} (h_1 : Wp X d 190 152 [some (mR 407), some (mI x1), some (mI x2), some (mI x3), l4] [mI 3] s Q) : Wp X d 190 147 [some (mR 407), some (mI x1), some (mI x2), some (mI x3), l4] [] s Q := Wp_step k190 f190_147 (Wp_step k190 f190_148 (h_1))
theorem b190_151 {X : (Nat → Int) × Nat} {d : Nat} {s : mSt} {Q : mQ} {x1 : Int} {x2 : Int} {x3 : Int} {l4 : Option mV} (h_1 : Wp X d 190 152 [some (mR 407), some (mI x1), some (mI x2), some (mI x3), l4] [mI 4] s Q) : Wp X d 190 151 [some (mR 407), some (mI x1), some (mI x2), some (mI x3), l4] [] s Q := Wp_step k190 f190_151 (h_1)
theorem b190_152 {X : (Nat → Int) × Nat} {d : Nat} {s : mSt} {Q : mQ} {x1 : Int} {x2 : Int} {x3 : Int} {l4 : Option mV} {xt0 : Int} (h_1 : Sp X d 189 [mR 407] s (fun r s' => ∃ v : Int, r = some (mI v) ∧ Wp X (d + 1) 190 158 [some (mR 407), some (mI x1), some (mI x2), some (mI x3), some (mI xt0)] [mI v] s' Q)) : Wp X (d + 1) 190 152 [some (mR 407), some (mI x1), some (mI x2), some (mI x3), l4] [mI xt0] s Q := Wp_step k190 f190_152 (Wp_step k190 f190_154 (Wp_step k190 f190_155 ⟨⟨kf_407, Nat.le_of_ble_eq_true rfl⟩, Nat.le_refl _, _, rfl, Sp_E h_1⟩))
theorem b190_158 {X : (Nat → Int) × Nat} {d : Nat} {s : mSt} {Q : mQ} {x1 : Int} {x2 : Int} {x3 : Int} {x4 : Int} {xt0 : Int} (h_1 : ¬ xt0 = 0 → Wp X d 190 163 [some (mR 407), some (mI x1), some (mI x2), some (mI x3), some (mI x4)] [] s Q) (h_2 : xt0 = 0 → Wp X d 190 161 [some (mR 407), some (mI x1), some (mI x2), some (mI x3), some (mI x4)] [] s Q) : Wp X d 190 158 [some (mR 407), some (mI x1), some (mI x2), some (mI x3), some (mI x4)] [mI xt0] s Q := Wp_step k190 f190_158 ⟨h_1, h_2⟩
theorem b190_161 {X : (Nat → Int) × Nat} {d : Nat} {s : mSt} {Q : mQ} {x1 : Int} {x2 : Int} {x3 : Int} {x4 : Int} (h_1 : Q (some (mI 0)) s) : Wp X d 190 161 [some (mR 407), some (mI x1), some (mI x2), some (mI x3), some (mI x4)] [] s Q := Wp_step k190 f190_161 (Wp_step k190 f190_162 ⟨⟨rfl, (Or.inl rfl)⟩, h_1⟩)
theorem b190_163 {X : (Nat → Int) × Nat} {d : Nat} {s : mSt} {Q : mQ} {x1 : Int} {x2 : Int} {x3 : Int} {x4 : Int} (h_1 : Sp X d 182 [mR 407, mI (w32 (6 + x4)), mI 0] s (fun r s' => r = none ∧ Wp X (d + 1) 190 173 [some (mR 407), some (mI x1), some (mI x2), some (mI x3), some (mI x4)] [] s' Q)) : Wp X (d + 1) 190 163 [some (mR 407), some (mI x1), some (mI x2), some (mI x3), some (mI x4)] [] s Q := Wp_step k190 f190_163 (Wp_step k190 f190_164 (Wp_step k190 f190_166 (Wp_step k190 f190_168 (Wp_step k190 f190_169 (Wp_step k190 f190_170 ⟨⟨kf_407, Nat.le_of_ble_eq_true rfl⟩, Nat.le_refl _, _, rfl, Sp_V h_1⟩)))))
theorem b190_173 {X : (Nat → Int) × Nat} {d : Nat} {s : mSt} {Q : mQ} {x1 : Int} {x2 : Int} {x3 : Int} {x4 : Int} (h_1 : Q (some (mI 1)) s) : Wp X d 190 173 [some (mR 407), some (mI x1), some (mI x2), some (mI x3), some (mI x4)] [] s Q := Wp_step k190 f190_173 (Wp_step k190 f190_174 ⟨⟨rfl, (Or.inr rfl)⟩, h_1⟩)
theorem e190 {X : (Nat → Int) × Nat} {d : Nat} {s : mSt} {Q : mQ} (h : Wp X d 190 0 [some (mR 407), none, none, none, none] [] s Q) : Sp X d 190 [mR 407] s Q := Sp_of (show mCe 190 = 0 by decide +kernel) (by rw [show mML 190 = 5 by decide +kernel]; rfl) (Nat.le_trans (Nat.le_of_ble_eq_true (show Nat.ble (mArgs _).length 5 = true from rfl)) (show 5 ≤ mML 190 by decide +kernel)) h
-- 191 ClashDayModel.fact()Z
theorem k191 : mRk 191 = 2 := by decide +kernel
theorem f191_0 : mFetch 191 0 = some (.iconst 1, 1, 0, 0, 0, 0) := by decide +kernel
theorem f191_1 : mFetch 191 1 = some (.istore_n 1, 1, 0, 0, 0, 0) := by decide +kernel
theorem f191_2 : mFetch 191 2 = some (.iload_n 1, 1, 0, 0, 0, 0) := by decide +kernel
theorem f191_3 : mFetch 191 3 = some (.ifCond .eq 72, 3, 75, 0, 0, 0) := by decide +kernel
theorem f191_6 : mFetch 191 6 = some (.iconst 0, 1, 0, 0, 0, 0) := by decide +kernel
theorem f191_7 : mFetch 191 7 = some (.istore_n 1, 1, 0, 0, 0, 0) := by decide +kernel
theorem f191_8 : mFetch 191 8 = some (.aload_n 0, 1, 0, 0, 0, 0) := by decide +kernel
theorem f191_9 : mFetch 191 9 = some (.invokevirtual 126, 3, 174, 0, 1, 12) := by decide +kernel
theorem f191_12 : mFetch 191 12 = some (.istore_n 2, 1, 0, 0, 0, 0) := by decide +kernel
theorem f191_13 : mFetch 191 13 = some (.aload_n 0, 1, 0, 0, 0, 0) := by decide +kernel
theorem f191_14 : mFetch 191 14 = some (.ldc2_w 217, 3, 14836, 0, 0, 0) := by decide +kernel
theorem f191_17 : mFetch 191 17 = some (.invokevirtual 134, 3, 177, 0, 2, 12) := by decide +kernel
theorem f191_20 : mFetch 191 20 = some (.ifCond .eq 23, 3, 43, 0, 0, 0) := by decide +kernel
theorem f191_23 : mFetch 191 23 = some (.aload_n 0, 1, 0, 0, 0, 0) := by decide +kernel
theorem f191_24 : mFetch 191 24 = some (.bipush 11, 2, 0, 0, 0, 0) := by decide +kernel
theorem f191_26 : mFetch 191 26 = some (.invokevirtual 219, 3, 184, 0, 2, 12) := by decide +kernel
theorem f191_29 : mFetch 191 29 = some (.ifCond .ne 5, 3, 34, 0, 0, 0) := by decide +kernel
theorem f191_32 : mFetch 191 32 = some (.iconst 0, 1, 0, 0, 0, 0) := by decide +kernel
theorem f191_33 : mFetch 191 33 = some (.ireturn, 1, 0, 0, 0, 0) := by decide +kernel
theorem f191_34 : mFetch 191 34 = some (.aload_n 0, 1, 0, 0, 0, 0) := by decide +kernel
theorem f191_35 : mFetch 191 35 = some (.invokevirtual 138, 3, 178, 0, 1, 12) := by decide +kernel
theorem f191_38 : mFetch 191 38 = some (.iconst 1, 1, 0, 0, 0, 0) := by decide +kernel
theorem f191_39 : mFetch 191 39 = some (.istore_n 1, 1, 0, 0, 0, 0) := by decide +kernel
theorem f191_40 : mFetch 191 40 = some (.goto 32, 3, 72, 0, 0, 0) := by decide +kernel
theorem f191_43 : mFetch 191 43 = some (.iload_n 2, 1, 0, 0, 0, 0) := by decide +kernel
theorem f191_44 : mFetch 191 44 = some (.bipush 91, 2, 0, 0, 0, 0) := by decide +kernel
theorem f191_46 : mFetch 191 46 = some (.if_icmp .ne 26, 3, 72, 0, 0, 0) := by decide +kernel
theorem f191_49 : mFetch 191 49 = some (.aload_n 0, 1, 0, 0, 0, 0) := by decide +kernel
theorem f191_50 : mFetch 191 50 = some (.bipush 91, 2, 0, 0, 0, 0) := by decide +kernel
theorem f191_52 : mFetch 191 52 = some (.invokevirtual 219, 3, 184, 0, 2, 12) := by decide +kernel
theorem f191_55 : mFetch 191 55 = some (.ifCond .ne 5, 3, 60, 0, 0, 0) := by decide +kernel
theorem f191_58 : mFetch 191 58 = some (.iconst 0, 1, 0, 0, 0, 0) := by decide +kernel
theorem f191_59 : mFetch 191 59 = some (.ireturn, 1, 0, 0, 0, 0) := by decide +kernel
theorem f191_60 : mFetch 191 60 = some (.aload_n 0, 1, 0, 0, 0, 0) := by decide +kernel
theorem f191_61 : mFetch 191 61 = some (.dup, 1, 0, 0, 0, 0) := by decide +kernel
theorem f191_62 : mFetch 191 62 = some (.getfield 123, 3, 12, 8, 0, 1) := by decide +kernel
theorem f191_65 : mFetch 191 65 = some (.iconst 1, 1, 0, 0, 0, 0) := by decide +kernel
theorem f191_66 : mFetch 191 66 = some (.iadd, 1, 0, 0, 0, 0) := by decide +kernel
theorem f191_67 : mFetch 191 67 = some (.putfield 123, 3, 12, 8, 0, 1) := by decide +kernel
theorem f191_70 : mFetch 191 70 = some (.iconst 1, 1, 0, 0, 0, 0) := by decide +kernel
theorem f191_71 : mFetch 191 71 = some (.istore_n 1, 1, 0, 0, 0, 0) := by decide +kernel
theorem f191_72 : mFetch 191 72 = some (.goto (-70), 3, 2, 0, 0, 0) := by decide +kernel
theorem f191_75 : mFetch 191 75 = some (.aload_n 0, 1, 0, 0, 0, 0) := by decide +kernel
theorem f191_76 : mFetch 191 76 = some (.invokevirtual 222, 3, 190, 0, 1, 12) := by decide +kernel
theorem f191_79 : mFetch 191 79 = some (.ireturn, 1, 0, 0, 0, 0) := by decide +kernel
theorem b191_0 {X : (Nat → Int) × Nat} {d : Nat} {s : mSt} {Q : mQ} {l1 : Option mV} {l2 : Option mV} (h_1 : Wp X d 191 2 [some (mR 407), some (mI 1), l2] [] s Q) : Wp X d 191 0 [some (mR 407), l1, l2] [] s Q := Wp_step k191 f191_0 (Wp_step k191 f191_1 (h_1))
theorem b191_2 {X : (Nat → Int) × Nat} {d : Nat} {s : mSt} {Q : mQ} {x1 : Int} {l2 : Option mV} (h_1 : x1 = 0 → Wp X d 191 75 [some (mR 407), some (mI x1), l2] [] s Q) (h_2 : ¬ x1 = 0 → Wp X d 191 6 [some (mR 407), some (mI x1), l2] [] s Q) : Wp X d 191 2 [some (mR 407), some (mI x1), l2] [] s Q := Wp_step k191 f191_2 (Wp_step k191 f191_3 ⟨h_1, h_2⟩)
theorem b191_6 {X : (Nat → Int) × Nat} {d : Nat} {s : mSt} {Q : mQ} {x1 : Int} {l2 : Option mV} (h_1 : Sp X d 174 [mR 407] s (fun r s' => ∃ v : Int, r = some (mI v) ∧ Wp X (d + 1) 191 12 [some (mR 407), some (mI 0), l2] [mI v] s' Q)) : Wp X (d + 1) 191 6 [some (mR 407), some (mI x1), l2] [] s Q := Wp_step k191 f191_6 (Wp_step k191 f191_7 (Wp_step k191 f191_8 (Wp_step k191 f191_9 ⟨⟨kf_407, Nat.le_of_ble_eq_true rfl⟩, Nat.le_refl _, _, rfl, Sp_E h_1⟩)))
theorem b191_12 {X : (Nat → Int) × Nat} {d : Nat} {s : mSt} {Q : mQ} {x1 : Int} {l2 : Option mV} {xt0 : Int} (h_1 : Sp X d 177 [mR 407, mJ 14836] s (fun r s' => ∃ v : Int, r = some (mI v) ∧ Wp X (d + 1) 191 20 [some (mR 407), some (mI x1), some (mI xt0)] [mI v] s' Q)) : Wp X (d + 1) 191 12 [some (mR 407), some (mI x1), l2] [mI xt0] s Q := Wp_step k191 f191_12 (Wp_step k191 f191_13 (Wp_step k191 f191_14 (Wp_step k191 f191_17 ⟨⟨kf_407, Nat.le_of_ble_eq_true rfl⟩, Nat.le_refl _, _, rfl, Sp_E h_1⟩)))
theorem b191_20 {X : (Nat → Int) × Nat} {d : Nat} {s : mSt} {Q : mQ} {x1 : Int} {x2 : Int} {xt0 : Int} (h_1 : xt0 = 0 → Wp X d 191 43 [some (mR 407), some (mI x1), some (mI x2)] [] s Q) (h_2 : ¬ xt0 = 0 → Wp X d 191 23 [some (mR 407), some (mI x1), some (mI x2)] [] s Q) : Wp X d 191 20 [some (mR 407), some (mI x1), some (mI x2)] [mI xt0] s Q := Wp_step k191 f191_20 ⟨h_1, h_2⟩
theorem b191_23 {X : (Nat → Int) × Nat} {d : Nat} {s : mSt} {Q : mQ} {x1 : Int} {x2 : Int} (h_1 : Sp X d 184 [mR 407, mI 11] s (fun r s' => ∃ v : Int, r = some (mI v) ∧ Wp X (d + 1) 191 29 [some (mR 407), some (mI x1), some (mI x2)] [mI v] s' Q)) : Wp X (d + 1) 191 23 [some (mR 407), some (mI x1), some (mI x2)] [] s Q := Wp_step k191 f191_23 (Wp_step k191 f191_24 (Wp_step k191 f191_26 ⟨⟨kf_407, Nat.le_of_ble_eq_true rfl⟩, Nat.le_refl _, _, rfl, Sp_E h_1⟩))
theorem b191_29 {X : (Nat → Int) × Nat} {d : Nat} {s : mSt} {Q : mQ} {x1 : Int} {x2 : Int} {xt0 : Int} (h_1 : ¬ xt0 = 0 → Wp X d 191 34 [some (mR 407), some (mI x1), some (mI x2)] [] s Q) (h_2 : xt0 = 0 → Wp X d 191 32 [some (mR 407), some (mI x1), some (mI x2)] [] s Q) : Wp X d 191 29 [some (mR 407), some (mI x1), some (mI x2)] [mI xt0] s Q := Wp_step k191 f191_29 ⟨h_1, h_2⟩
theorem b191_32 {X : (Nat → Int) × Nat} {d : Nat} {s : mSt} {Q : mQ} {x1 : Int} {x2 : Int} (h_1 : Q (some (mI 0)) s) : Wp X d 191 32 [some (mR 407), some (mI x1), some (mI x2)] [] s Q := Wp_step k191 f191_32 (Wp_step k191 f191_33 ⟨⟨rfl, (Or.inl rfl)⟩, h_1⟩)
theorem b191_34 {X : (Nat → Int) × Nat} {d : Nat} {s : mSt} {Q : mQ} {x1 : Int} {x2 : Int} (h_1 : Sp X d 178 [mR 407] s (fun r s' => r = none ∧ Wp X (d + 1) 191 38 [some (mR 407), some (mI x1), some (mI x2)] [] s' Q)) : Wp X (d + 1) 191 34 [some (mR 407), some (mI x1), some (mI x2)] [] s Q := Wp_step k191 f191_34 (Wp_step k191 f191_35 ⟨⟨kf_407, Nat.le_of_ble_eq_true rfl⟩, Nat.le_refl _, _, rfl, Sp_V h_1⟩)
theorem b191_38 {X : (Nat → Int) × Nat} {d : Nat} {s : mSt} {Q : mQ} {x1 : Int} {x2 : Int} (h_1 : Wp X d 191 72 [some (mR 407), some (mI 1), some (mI x2)] [] s Q) : Wp X d 191 38 [some (mR 407), some (mI x1), some (mI x2)] [] s Q := Wp_step k191 f191_38 (Wp_step k191 f191_39 (Wp_step k191 f191_40 (h_1)))
theorem b191_43 {X : (Nat → Int) × Nat} {d : Nat} {s : mSt} {Q : mQ} {x1 : Int} {x2 : Int} (h_1 : ¬ x2 = 91 → Wp X d 191 72 [some (mR 407), some (mI x1), some (mI x2)] [] s Q) (h_2 : x2 = 91 → Wp X d 191 49 [some (mR 407), some (mI x1), some (mI x2)] [] s Q) : Wp X d 191 43 [some (mR 407), some (mI x1), some (mI x2)] [] s Q := Wp_step k191 f191_43 (Wp_step k191 f191_44 (Wp_step k191 f191_46 ⟨h_1, h_2⟩))
theorem b191_49 {X : (Nat → Int) × Nat} {d : Nat} {s : mSt} {Q : mQ} {x1 : Int} {x2 : Int} (h_1 : Sp X d 184 [mR 407, mI 91] s (fun r s' => ∃ v : Int, r = some (mI v) ∧ Wp X (d + 1) 191 55 [some (mR 407), some (mI x1), some (mI x2)] [mI v] s' Q)) : Wp X (d + 1) 191 49 [some (mR 407), some (mI x1), some (mI x2)] [] s Q := Wp_step k191 f191_49 (Wp_step k191 f191_50 (Wp_step k191 f191_52 ⟨⟨kf_407, Nat.le_of_ble_eq_true rfl⟩, Nat.le_refl _, _, rfl, Sp_E h_1⟩))
theorem b191_55 {X : (Nat → Int) × Nat} {d : Nat} {s : mSt} {Q : mQ} {x1 : Int} {x2 : Int} {xt0 : Int} (h_1 : ¬ xt0 = 0 → Wp X d 191 60 [some (mR 407), some (mI x1), some (mI x2)] [] s Q) (h_2 : xt0 = 0 → Wp X d 191 58 [some (mR 407), some (mI x1), some (mI x2)] [] s Q) : Wp X d 191 55 [some (mR 407), some (mI x1), some (mI x2)] [mI xt0] s Q := Wp_step k191 f191_55 ⟨h_1, h_2⟩
theorem b191_58 {X : (Nat → Int) × Nat} {d : Nat} {s : mSt} {Q : mQ} {x1 : Int} {x2 : Int} (h_1 : Q (some (mI 0)) s) : Wp X d 191 58 [some (mR 407), some (mI x1), some (mI x2)] [] s Q := Wp_step k191 f191_58 (Wp_step k191 f191_59 ⟨⟨rfl, (Or.inl rfl)⟩, h_1⟩)
theorem b191_60 {X : (Nat → Int) × Nat} {d : Nat} {s : mSt} {Q : mQ} {x1 : Int} {x2 : Int} (h_1 : Wp X d 191 72 [some (mR 407), some (mI 1), some (mI x2)] [] (uS s 407 8 (w32 ((s 407 8) + 1))) Q) : Wp X d 191 60 [some (mR 407), some (mI x1), some (mI x2)] [] s Q := Wp_step k191 f191_60 (Wp_step k191 f191_61 (Wp_step k191 f191_62 ⟨kf_407, Wp_step k191 f191_65 (Wp_step k191 f191_66 (Wp_step k191 f191_67 ⟨kf_407, Wp_step k191 f191_70 (Wp_step k191 f191_71 (h_1))⟩))⟩))
theorem b191_72 {X : (Nat → Int) × Nat} {d : Nat} {s : mSt} {Q : mQ} {x1 : Int} {x2 : Int} (h_1 : Wp X d 191 2 [some (mR 407), some (mI x1), some (mI x2)] [] s Q) : Wp X d 191 72 [some (mR 407), some (mI x1), some (mI x2)] [] s Q := Wp_step k191 f191_72 (h_1)
theorem b191_75 {X : (Nat → Int) × Nat} {d : Nat} {s : mSt} {Q : mQ} {x1 : Int} {l2 : Option mV} (h_1 : Sp X d 190 [mR 407] s (fun r s' => ∃ v : Int, r = some (mI v) ∧ Wp X (d + 1) 191 79 [some (mR 407), some (mI x1), l2] [mI v] s' Q)) : Wp X (d + 1) 191 75 [some (mR 407), some (mI x1), l2] [] s Q := Wp_step k191 f191_75 (Wp_step k191 f191_76 ⟨⟨kf_407, Nat.le_of_ble_eq_true rfl⟩, Nat.le_refl _, _, rfl, Sp_E h_1⟩)
theorem b191_79 {X : (Nat → Int) × Nat} {d : Nat} {s : mSt} {Q : mQ} {x1 : Int} {l2 : Option mV} {xt0 : Int} (h_1 : Q (some (mI xt0)) s) (h_2 : xt0 = 0 ∨ xt0 = 1) : Wp X d 191 79 [some (mR 407), some (mI x1), l2] [mI xt0] s Q := Wp_step k191 f191_79 ⟨⟨rfl, h_2⟩, h_1⟩
theorem e191 {X : (Nat → Int) × Nat} {d : Nat} {s : mSt} {Q : mQ} (h : Wp X d 191 0 [some (mR 407), none, none] [] s Q) : Sp X d 191 [mR 407] s Q := Sp_of (show mCe 191 = 0 by decide +kernel) (by rw [show mML 191 = 3 by decide +kernel]; rfl) (Nat.le_trans (Nat.le_of_ble_eq_true (show Nat.ble (mArgs _).length 3 = true from rfl)) (show 3 ≤ mML 191 by decide +kernel)) h
-- 192 ClashDayModel.isInside()Z
theorem k192 : mRk 192 = 2 := by decide +kernel
theorem f192_0 : mFetch 192 0 = some (.iconst 0, 1, 0, 0, 0, 0) := by decide +kernel
theorem f192_1 : mFetch 192 1 = some (.istore_n 1, 1, 0, 0, 0, 0) := by decide +kernel
theorem f192_2 : mFetch 192 2 = some (.iload_n 1, 1, 0, 0, 0, 0) := by decide +kernel
theorem f192_3 : mFetch 192 3 = some (.aload_n 0, 1, 0, 0, 0, 0) := by decide +kernel
theorem f192_4 : mFetch 192 4 = some (.getfield 186, 3, 12, 16, 0, 1) := by decide +kernel
theorem f192_7 : mFetch 192 7 = some (.if_icmp .ge 22, 3, 29, 0, 0, 0) := by decide +kernel
theorem f192_10 : mFetch 192 10 = some (.aload_n 0, 1, 0, 0, 0, 0) := by decide +kernel
theorem f192_11 : mFetch 192 11 = some (.getfield 29, 3, 12, 15, 2, 1) := by decide +kernel
theorem f192_14 : mFetch 192 14 = some (.iload_n 1, 1, 0, 0, 0, 0) := by decide +kernel
theorem f192_15 : mFetch 192 15 = some (.iaload, 1, 0, 0, 0, 0) := by decide +kernel
theorem f192_16 : mFetch 192 16 = some (.bipush 91, 2, 0, 0, 0, 0) := by decide +kernel
theorem f192_18 : mFetch 192 18 = some (.if_icmp .ne 5, 3, 23, 0, 0, 0) := by decide +kernel
theorem f192_21 : mFetch 192 21 = some (.iconst 1, 1, 0, 0, 0, 0) := by decide +kernel
theorem f192_22 : mFetch 192 22 = some (.ireturn, 1, 0, 0, 0, 0) := by decide +kernel
theorem f192_23 : mFetch 192 23 = some (.iinc 1 1, 3, 0, 0, 0, 0) := by decide +kernel
theorem f192_26 : mFetch 192 26 = some (.goto (-24), 3, 2, 0, 0, 0) := by decide +kernel
theorem f192_29 : mFetch 192 29 = some (.iconst 0, 1, 0, 0, 0, 0) := by decide +kernel
theorem f192_30 : mFetch 192 30 = some (.ireturn, 1, 0, 0, 0, 0) := by decide +kernel
theorem b192_0 {X : (Nat → Int) × Nat} {d : Nat} {s : mSt} {Q : mQ} {l1 : Option mV} (h_1 : Wp X d 192 2 [some (mR 407), some (mI 0)] [] s Q) : Wp X d 192 0 [some (mR 407), l1] [] s Q := Wp_step k192 f192_0 (Wp_step k192 f192_1 (h_1))
theorem b192_2 {X : (Nat → Int) × Nat} {d : Nat} {s : mSt} {Q : mQ} {x1 : Int} (h_1 : (s 407 16) ≤ x1 → Wp X d 192 29 [some (mR 407), some (mI x1)] [] s Q) (h_2 : ¬ (s 407 16) ≤ x1 → Wp X d 192 10 [some (mR 407), some (mI x1)] [] s Q) : Wp X d 192 2 [some (mR 407), some (mI x1)] [] s Q := Wp_step k192 f192_2 (Wp_step k192 f192_3 (Wp_step k192 f192_4 ⟨kf_407, Wp_step k192 f192_7 ⟨h_1, h_2⟩⟩))
theorem b192_10 {X : (Nat → Int) × Nat} {d : Nat} {s : mSt} {Q : mQ} {x1 : Int} (h_1 : 0 ≤ x1 ∧ x1 < 400) (h_2 : ¬ (s 414 x1.toNat) = 91 → Wp X d 192 23 [some (mR 407), some (mI x1)] [] s Q) (h_3 : (s 414 x1.toNat) = 91 → Wp X d 192 21 [some (mR 407), some (mI x1)] [] s Q) : Wp X d 192 10 [some (mR 407), some (mI x1)] [] s Q := Wp_step k192 f192_10 (Wp_step k192 f192_11 ⟨kf_407, 414, rf_407_15, Wp_step k192 f192_14 (Wp_step k192 f192_15 ⟨400, af_414, h_1, Wp_step k192 f192_16 (Wp_step k192 f192_18 ⟨h_2, h_3⟩)⟩)⟩)
theorem b192_21 {X : (Nat → Int) × Nat} {d : Nat} {s : mSt} {Q : mQ} {x1 : Int} (h_1 : Q (some (mI 1)) s) : Wp X d 192 21 [some (mR 407), some (mI x1)] [] s Q := Wp_step k192 f192_21 (Wp_step k192 f192_22 ⟨⟨rfl, (Or.inr rfl)⟩, h_1⟩)
theorem b192_23 {X : (Nat → Int) × Nat} {d : Nat} {s : mSt} {Q : mQ} {x1 : Int} (h_1 : Wp X d 192 2 [some (mR 407), some (mI (w32 (x1 + 1)))] [] s Q) : Wp X d 192 23 [some (mR 407), some (mI x1)] [] s Q := Wp_step k192 f192_23 (Wp_step k192 f192_26 (h_1))
theorem b192_29 {X : (Nat → Int) × Nat} {d : Nat} {s : mSt} {Q : mQ} {x1 : Int} (h_1 : Q (some (mI 0)) s) : Wp X d 192 29 [some (mR 407), some (mI x1)] [] s Q := Wp_step k192 f192_29 (Wp_step k192 f192_30 ⟨⟨rfl, (Or.inl rfl)⟩, h_1⟩)
theorem e192 {X : (Nat → Int) × Nat} {d : Nat} {s : mSt} {Q : mQ} (h : Wp X d 192 0 [some (mR 407), none] [] s Q) : Sp X d 192 [mR 407] s Q := Sp_of (show mCe 192 = 0 by decide +kernel) (by rw [show mML 192 = 2 by decide +kernel]; rfl) (Nat.le_trans (Nat.le_of_ble_eq_true (show Nat.ble (mArgs _).length 2 = true from rfl)) (show 2 ≤ mML 192 by decide +kernel)) h
-- 193 ClashDayModel.closes()V
theorem k193 : mRk 193 = 0 := by decide +kernel
theorem f193_0 : mFetch 193 0 = some (.aload_n 0, 1, 0, 0, 0, 0) := by decide +kernel
theorem f193_1 : mFetch 193 1 = some (.iconst 3, 1, 0, 0, 0, 0) := by decide +kernel
theorem f193_2 : mFetch 193 2 = some (.invokevirtual 225, 3, 186, 0, 2, 12) := by decide +kernel
theorem f193_5 : mFetch 193 5 = some (.aload_n 0, 1, 0, 0, 0, 0) := by decide +kernel
theorem f193_6 : mFetch 193 6 = some (.invokevirtual 126, 3, 174, 0, 1, 12) := by decide +kernel
theorem f193_9 : mFetch 193 9 = some (.bipush 93, 2, 0, 0, 0, 0) := by decide +kernel
theorem f193_11 : mFetch 193 11 = some (.if_icmp .ne 53, 3, 64, 0, 0, 0) := by decide +kernel
theorem f193_14 : mFetch 193 14 = some (.aload_n 0, 1, 0, 0, 0, 0) := by decide +kernel
theorem f193_15 : mFetch 193 15 = some (.invokevirtual 228, 3, 192, 0, 1, 12) := by decide +kernel
theorem f193_18 : mFetch 193 18 = some (.ifCond .eq 46, 3, 64, 0, 0, 0) := by decide +kernel
theorem f193_21 : mFetch 193 21 = some (.aload_n 0, 1, 0, 0, 0, 0) := by decide +kernel
theorem f193_22 : mFetch 193 22 = some (.iconst 1, 1, 0, 0, 0, 0) := by decide +kernel
theorem f193_23 : mFetch 193 23 = some (.invokevirtual 225, 3, 186, 0, 2, 12) := by decide +kernel
theorem f193_26 : mFetch 193 26 = some (.aload_n 0, 1, 0, 0, 0, 0) := by decide +kernel
theorem f193_27 : mFetch 193 27 = some (.dup, 1, 0, 0, 0, 0) := by decide +kernel
theorem f193_28 : mFetch 193 28 = some (.getfield 186, 3, 12, 16, 0, 1) := by decide +kernel
theorem f193_31 : mFetch 193 31 = some (.iconst 1, 1, 0, 0, 0, 0) := by decide +kernel
theorem f193_32 : mFetch 193 32 = some (.isub, 1, 0, 0, 0, 0) := by decide +kernel
theorem f193_33 : mFetch 193 33 = some (.putfield 186, 3, 12, 16, 0, 1) := by decide +kernel
theorem f193_36 : mFetch 193 36 = some (.aload_n 0, 1, 0, 0, 0, 0) := by decide +kernel
theorem f193_37 : mFetch 193 37 = some (.dup, 1, 0, 0, 0, 0) := by decide +kernel
theorem f193_38 : mFetch 193 38 = some (.getfield 183, 3, 12, 13, 0, 1) := by decide +kernel
theorem f193_41 : mFetch 193 41 = some (.iconst 1, 1, 0, 0, 0, 0) := by decide +kernel
theorem f193_42 : mFetch 193 42 = some (.isub, 1, 0, 0, 0, 0) := by decide +kernel
theorem f193_43 : mFetch 193 43 = some (.putfield 183, 3, 12, 13, 0, 1) := by decide +kernel
theorem f193_46 : mFetch 193 46 = some (.aload_n 0, 1, 0, 0, 0, 0) := by decide +kernel
theorem f193_47 : mFetch 193 47 = some (.dup, 1, 0, 0, 0, 0) := by decide +kernel
theorem f193_48 : mFetch 193 48 = some (.getfield 123, 3, 12, 8, 0, 1) := by decide +kernel
theorem f193_51 : mFetch 193 51 = some (.iconst 1, 1, 0, 0, 0, 0) := by decide +kernel
theorem f193_52 : mFetch 193 52 = some (.iadd, 1, 0, 0, 0, 0) := by decide +kernel
theorem f193_53 : mFetch 193 53 = some (.putfield 123, 3, 12, 8, 0, 1) := by decide +kernel
theorem f193_56 : mFetch 193 56 = some (.aload_n 0, 1, 0, 0, 0, 0) := by decide +kernel
theorem f193_57 : mFetch 193 57 = some (.iconst 3, 1, 0, 0, 0, 0) := by decide +kernel
theorem f193_58 : mFetch 193 58 = some (.invokevirtual 225, 3, 186, 0, 2, 12) := by decide +kernel
theorem f193_61 : mFetch 193 61 = some (.goto (-56), 3, 5, 0, 0, 0) := by decide +kernel
theorem f193_64 : mFetch 193 64 = some (.return_, 1, 0, 0, 0, 0) := by decide +kernel
theorem b193_0 {X : (Nat → Int) × Nat} {d : Nat} {s : mSt} {Q : mQ} (h_1 : Sp X d 186 [mR 407, mI 3] s (fun r s' => r = none ∧ Wp X (d + 1) 193 5 [some (mR 407)] [] s' Q)) : Wp X (d + 1) 193 0 [some (mR 407)] [] s Q := Wp_step k193 f193_0 (Wp_step k193 f193_1 (Wp_step k193 f193_2 ⟨⟨kf_407, Nat.le_of_ble_eq_true rfl⟩, Nat.le_refl _, _, rfl, Sp_V h_1⟩))
theorem b193_5 {X : (Nat → Int) × Nat} {d : Nat} {s : mSt} {Q : mQ} (h_1 : Sp X d 174 [mR 407] s (fun r s' => ∃ v : Int, r = some (mI v) ∧ Wp X (d + 1) 193 9 [some (mR 407)] [mI v] s' Q)) : Wp X (d + 1) 193 5 [some (mR 407)] [] s Q := Wp_step k193 f193_5 (Wp_step k193 f193_6 ⟨⟨kf_407, Nat.le_of_ble_eq_true rfl⟩, Nat.le_refl _, _, rfl, Sp_E h_1⟩)
theorem b193_9 {X : (Nat → Int) × Nat} {d : Nat} {s : mSt} {Q : mQ} {xt0 : Int} (h_1 : ¬ xt0 = 93 → Wp X d 193 64 [some (mR 407)] [] s Q) (h_2 : xt0 = 93 → Wp X d 193 14 [some (mR 407)] [] s Q) : Wp X d 193 9 [some (mR 407)] [mI xt0] s Q := Wp_step k193 f193_9 (Wp_step k193 f193_11 ⟨h_1, h_2⟩)
theorem b193_14 {X : (Nat → Int) × Nat} {d : Nat} {s : mSt} {Q : mQ} (h_1 : Sp X d 192 [mR 407] s (fun r s' => ∃ v : Int, r = some (mI v) ∧ Wp X (d + 1) 193 18 [some (mR 407)] [mI v] s' Q)) : Wp X (d + 1) 193 14 [some (mR 407)] [] s Q := Wp_step k193 f193_14 (Wp_step k193 f193_15 ⟨⟨kf_407, Nat.le_of_ble_eq_true rfl⟩, Nat.le_refl _, _, rfl, Sp_E h_1⟩)
theorem b193_18 {X : (Nat → Int) × Nat} {d : Nat} {s : mSt} {Q : mQ} {xt0 : Int} (h_1 : xt0 = 0 → Wp X d 193 64 [some (mR 407)] [] s Q) (h_2 : ¬ xt0 = 0 → Wp X d 193 21 [some (mR 407)] [] s Q) : Wp X d 193 18 [some (mR 407)] [mI xt0] s Q := Wp_step k193 f193_18 ⟨h_1, h_2⟩
theorem b193_21 {X : (Nat → Int) × Nat} {d : Nat} {s : mSt} {Q : mQ} (h_1 : Sp X d 186 [mR 407, mI 1] s (fun r s' => r = none ∧ Wp X (d + 1) 193 26 [some (mR 407)] [] s' Q)) : Wp X (d + 1) 193 21 [some (mR 407)] [] s Q := Wp_step k193 f193_21 (Wp_step k193 f193_22 (Wp_step k193 f193_23 ⟨⟨kf_407, Nat.le_of_ble_eq_true rfl⟩, Nat.le_refl _, _, rfl, Sp_V h_1⟩))
theorem b193_26 {X : (Nat → Int) × Nat} {d : Nat} {s : mSt} {Q : mQ} (h_1 : Sp X d 186 [mR 407, mI 3] (uS (uS (uS s 407 16 (w32 ((s 407 16) - 1))) 407 13 (w32 (((uS s 407 16 (w32 ((s 407 16) - 1))) 407 13) - 1))) 407 8 (w32 (((uS (uS s 407 16 (w32 ((s 407 16) - 1))) 407 13 (w32 (((uS s 407 16 (w32 ((s 407 16) - 1))) 407 13) - 1))) 407 8) + 1))) (fun r s' => r = none ∧ Wp X (d + 1) 193 61 [some (mR 407)] [] s' Q)) : Wp X (d + 1) 193 26 [some (mR 407)] [] s Q := Wp_step k193 f193_26 (Wp_step k193 f193_27 (Wp_step k193 f193_28 ⟨kf_407, Wp_step k193 f193_31 (Wp_step k193 f193_32 (Wp_step k193 f193_33 ⟨kf_407, Wp_step k193 f193_36 (Wp_step k193 f193_37 (Wp_step k193 f193_38 ⟨kf_407, Wp_step k193 f193_41 (Wp_step k193 f193_42 (Wp_step k193 f193_43 ⟨kf_407, Wp_step k193 f193_46 (Wp_step k193 f193_47 (Wp_step k193 f193_48 ⟨kf_407, Wp_step k193 f193_51 (Wp_step k193 f193_52 (Wp_step k193 f193_53 ⟨kf_407, Wp_step k193 f193_56 (Wp_step k193 f193_57 (Wp_step k193 f193_58 ⟨⟨kf_407, Nat.le_of_ble_eq_true rfl⟩, Nat.le_refl _, _, rfl, Sp_V h_1⟩))⟩))⟩))⟩))⟩))⟩))⟩))
theorem b193_61 {X : (Nat → Int) × Nat} {d : Nat} {s : mSt} {Q : mQ} (h_1 : Wp X d 193 5 [some (mR 407)] [] s Q) : Wp X d 193 61 [some (mR 407)] [] s Q := Wp_step k193 f193_61 (h_1)
theorem b193_64 {X : (Nat → Int) × Nat} {d : Nat} {s : mSt} {Q : mQ} (h_1 : Q none s) : Wp X d 193 64 [some (mR 407)] [] s Q := Wp_step k193 f193_64 ⟨⟨rfl, Or.inl rfl⟩, h_1⟩
theorem e193 {X : (Nat → Int) × Nat} {d : Nat} {s : mSt} {Q : mQ} (h : Wp X d 193 0 [some (mR 407)] [] s Q) : Sp X d 193 [mR 407] s Q := Sp_of (show mCe 193 = 0 by decide +kernel) (by rw [show mML 193 = 1 by decide +kernel]; rfl) (Nat.le_trans (Nat.le_of_ble_eq_true (show Nat.ble (mArgs _).length 1 = true from rfl)) (show 1 ≤ mML 193 by decide +kernel)) h
-- 194 ClashDayModel.tested()Z
theorem k194 : mRk 194 = 2 := by decide +kernel
theorem f194_0 : mFetch 194 0 = some (.aload_n 0, 1, 0, 0, 0, 0) := by decide +kernel
theorem f194_1 : mFetch 194 1 = some (.iconst 0, 1, 0, 0, 0, 0) := by decide +kernel
theorem f194_2 : mFetch 194 2 = some (.putfield 186, 3, 12, 16, 0, 1) := by decide +kernel
theorem f194_5 : mFetch 194 5 = some (.aload_n 0, 1, 0, 0, 0, 0) := by decide +kernel
theorem f194_6 : mFetch 194 6 = some (.iconst 0, 1, 0, 0, 0, 0) := by decide +kernel
theorem f194_7 : mFetch 194 7 = some (.putfield 183, 3, 12, 13, 0, 1) := by decide +kernel
theorem f194_10 : mFetch 194 10 = some (.iconst 1, 1, 0, 0, 0, 0) := by decide +kernel
theorem f194_11 : mFetch 194 11 = some (.istore_n 1, 1, 0, 0, 0, 0) := by decide +kernel
theorem f194_12 : mFetch 194 12 = some (.iload_n 1, 1, 0, 0, 0, 0) := by decide +kernel
theorem f194_13 : mFetch 194 13 = some (.ifCond .eq 99, 3, 112, 0, 0, 0) := by decide +kernel
theorem f194_16 : mFetch 194 16 = some (.aload_n 0, 1, 0, 0, 0, 0) := by decide +kernel
theorem f194_17 : mFetch 194 17 = some (.invokevirtual 231, 3, 191, 0, 1, 12) := by decide +kernel
theorem f194_20 : mFetch 194 20 = some (.ifCond .ne 5, 3, 25, 0, 0, 0) := by decide +kernel
theorem f194_23 : mFetch 194 23 = some (.iconst 0, 1, 0, 0, 0, 0) := by decide +kernel
theorem f194_24 : mFetch 194 24 = some (.ireturn, 1, 0, 0, 0, 0) := by decide +kernel
theorem f194_25 : mFetch 194 25 = some (.aload_n 0, 1, 0, 0, 0, 0) := by decide +kernel
theorem f194_26 : mFetch 194 26 = some (.invokevirtual 234, 3, 193, 0, 1, 12) := by decide +kernel
theorem f194_29 : mFetch 194 29 = some (.aload_n 0, 1, 0, 0, 0, 0) := by decide +kernel
theorem f194_30 : mFetch 194 30 = some (.ldc2_w 237, 3, 1476, 0, 0, 0) := by decide +kernel
theorem f194_33 : mFetch 194 33 = some (.invokevirtual 134, 3, 177, 0, 2, 12) := by decide +kernel
theorem f194_36 : mFetch 194 36 = some (.ifCond .ne 13, 3, 49, 0, 0, 0) := by decide +kernel
theorem f194_39 : mFetch 194 39 = some (.aload_n 0, 1, 0, 0, 0, 0) := by decide +kernel
theorem f194_40 : mFetch 194 40 = some (.ldc2_w 239, 3, 498, 0, 0, 0) := by decide +kernel
theorem f194_43 : mFetch 194 43 = some (.invokevirtual 134, 3, 177, 0, 2, 12) := by decide +kernel
theorem f194_46 : mFetch 194 46 = some (.ifCond .eq 7, 3, 53, 0, 0, 0) := by decide +kernel
theorem f194_49 : mFetch 194 49 = some (.iconst 1, 1, 0, 0, 0, 0) := by decide +kernel
theorem f194_50 : mFetch 194 50 = some (.goto 4, 3, 54, 0, 0, 0) := by decide +kernel
theorem f194_53 : mFetch 194 53 = some (.iconst 0, 1, 0, 0, 0, 0) := by decide +kernel
theorem f194_54 : mFetch 194 54 = some (.istore_n 1, 1, 0, 0, 0, 0) := by decide +kernel
theorem f194_55 : mFetch 194 55 = some (.iload_n 1, 1, 0, 0, 0, 0) := by decide +kernel
theorem f194_56 : mFetch 194 56 = some (.ifCond .eq (-44), 3, 12, 0, 0, 0) := by decide +kernel
theorem f194_59 : mFetch 194 59 = some (.aload_n 0, 1, 0, 0, 0, 0) := by decide +kernel
theorem f194_60 : mFetch 194 60 = some (.ldc2_w 237, 3, 1476, 0, 0, 0) := by decide +kernel
theorem f194_63 : mFetch 194 63 = some (.invokevirtual 134, 3, 177, 0, 2, 12) := by decide +kernel
theorem f194_66 : mFetch 194 66 = some (.ifCond .eq 8, 3, 74, 0, 0, 0) := by decide +kernel
theorem f194_69 : mFetch 194 69 = some (.bipush 12, 2, 0, 0, 0, 0) := by decide +kernel
theorem f194_71 : mFetch 194 71 = some (.goto 5, 3, 76, 0, 0, 0) := by decide +kernel
theorem f194_74 : mFetch 194 74 = some (.bipush 13, 2, 0, 0, 0, 0) := by decide +kernel
theorem f194_76 : mFetch 194 76 = some (.istore_n 2, 1, 0, 0, 0, 0) := by decide +kernel
theorem f194_77 : mFetch 194 77 = some (.aload_n 0, 1, 0, 0, 0, 0) := by decide +kernel
theorem f194_78 : mFetch 194 78 = some (.invokevirtual 138, 3, 178, 0, 1, 12) := by decide +kernel
theorem f194_81 : mFetch 194 81 = some (.aload_n 0, 1, 0, 0, 0, 0) := by decide +kernel
theorem f194_82 : mFetch 194 82 = some (.iload_n 2, 1, 0, 0, 0, 0) := by decide +kernel
theorem f194_83 : mFetch 194 83 = some (.invokestatic 189, 3, 185, 0, 1, 99) := by decide +kernel
theorem f194_86 : mFetch 194 86 = some (.invokevirtual 225, 3, 186, 0, 2, 12) := by decide +kernel
theorem f194_89 : mFetch 194 89 = some (.aload_n 0, 1, 0, 0, 0, 0) := by decide +kernel
theorem f194_90 : mFetch 194 90 = some (.getfield 29, 3, 12, 15, 2, 1) := by decide +kernel
theorem f194_93 : mFetch 194 93 = some (.aload_n 0, 1, 0, 0, 0, 0) := by decide +kernel
theorem f194_94 : mFetch 194 94 = some (.getfield 186, 3, 12, 16, 0, 1) := by decide +kernel
theorem f194_97 : mFetch 194 97 = some (.iload_n 2, 1, 0, 0, 0, 0) := by decide +kernel
theorem f194_98 : mFetch 194 98 = some (.iastore, 1, 0, 0, 0, 0) := by decide +kernel
theorem f194_99 : mFetch 194 99 = some (.aload_n 0, 1, 0, 0, 0, 0) := by decide +kernel
theorem f194_100 : mFetch 194 100 = some (.dup, 1, 0, 0, 0, 0) := by decide +kernel
theorem f194_101 : mFetch 194 101 = some (.getfield 186, 3, 12, 16, 0, 1) := by decide +kernel
theorem f194_104 : mFetch 194 104 = some (.iconst 1, 1, 0, 0, 0, 0) := by decide +kernel
theorem f194_105 : mFetch 194 105 = some (.iadd, 1, 0, 0, 0, 0) := by decide +kernel
theorem f194_106 : mFetch 194 106 = some (.putfield 186, 3, 12, 16, 0, 1) := by decide +kernel
theorem f194_109 : mFetch 194 109 = some (.goto (-97), 3, 12, 0, 0, 0) := by decide +kernel
theorem f194_112 : mFetch 194 112 = some (.aload_n 0, 1, 0, 0, 0, 0) := by decide +kernel
theorem f194_113 : mFetch 194 113 = some (.invokevirtual 228, 3, 192, 0, 1, 12) := by decide +kernel
theorem f194_116 : mFetch 194 116 = some (.ifCond .eq 18, 3, 134, 0, 0, 0) := by decide +kernel
theorem f194_119 : mFetch 194 119 = some (.aload_n 0, 1, 0, 0, 0, 0) := by decide +kernel
theorem f194_120 : mFetch 194 120 = some (.invokevirtual 126, 3, 174, 0, 1, 12) := by decide +kernel
theorem f194_123 : mFetch 194 123 = some (.pop, 1, 0, 0, 0, 0) := by decide +kernel
theorem f194_124 : mFetch 194 124 = some (.aload_n 0, 1, 0, 0, 0, 0) := by decide +kernel
theorem f194_125 : mFetch 194 125 = some (.iconst 0, 1, 0, 0, 0, 0) := by decide +kernel
theorem f194_126 : mFetch 194 126 = some (.aload_n 0, 1, 0, 0, 0, 0) := by decide +kernel
theorem f194_127 : mFetch 194 127 = some (.getfield 123, 3, 12, 8, 0, 1) := by decide +kernel
theorem f194_130 : mFetch 194 130 = some (.invokevirtual 144, 3, 173, 0, 3, 12) := by decide +kernel
theorem f194_133 : mFetch 194 133 = some (.ireturn, 1, 0, 0, 0, 0) := by decide +kernel
theorem f194_134 : mFetch 194 134 = some (.aload_n 0, 1, 0, 0, 0, 0) := by decide +kernel
theorem f194_135 : mFetch 194 135 = some (.iconst 1, 1, 0, 0, 0, 0) := by decide +kernel
theorem f194_136 : mFetch 194 136 = some (.invokevirtual 225, 3, 186, 0, 2, 12) := by decide +kernel
theorem f194_139 : mFetch 194 139 = some (.iconst 1, 1, 0, 0, 0, 0) := by decide +kernel
theorem f194_140 : mFetch 194 140 = some (.ireturn, 1, 0, 0, 0, 0) := by decide +kernel
theorem b194_0 {X : (Nat → Int) × Nat} {d : Nat} {s : mSt} {Q : mQ} {l1 : Option mV} {l2 : Option mV} (h_1 : Wp X d 194 12 [some (mR 407), some (mI 1), l2] [] (uS (uS s 407 16 0) 407 13 0) Q) : Wp X d 194 0 [some (mR 407), l1, l2] [] s Q := Wp_step k194 f194_0 (Wp_step k194 f194_1 (Wp_step k194 f194_2 ⟨kf_407, Wp_step k194 f194_5 (Wp_step k194 f194_6 (Wp_step k194 f194_7 ⟨kf_407, Wp_step k194 f194_10 (Wp_step k194 f194_11 (h_1))⟩))⟩))
theorem b194_12 {X : (Nat → Int) × Nat} {d : Nat} {s : mSt} {Q : mQ} {x1 : Int} {l2 : Option mV} (h_1 : x1 = 0 → Wp X d 194 112 [some (mR 407), some (mI x1), l2] [] s Q) (h_2 : ¬ x1 = 0 → Wp X d 194 16 [some (mR 407), some (mI x1), l2] [] s Q) : Wp X d 194 12 [some (mR 407), some (mI x1), l2] [] s Q := Wp_step k194 f194_12 (Wp_step k194 f194_13 ⟨h_1, h_2⟩)
theorem b194_16 {X : (Nat → Int) × Nat} {d : Nat} {s : mSt} {Q : mQ} {x1 : Int} {l2 : Option mV} (h_1 : Sp X d 191 [mR 407] s (fun r s' => ∃ v : Int, r = some (mI v) ∧ Wp X (d + 1) 194 20 [some (mR 407), some (mI x1), l2] [mI v] s' Q)) : Wp X (d + 1) 194 16 [some (mR 407), some (mI x1), l2] [] s Q := Wp_step k194 f194_16 (Wp_step k194 f194_17 ⟨⟨kf_407, Nat.le_of_ble_eq_true rfl⟩, Nat.le_refl _, _, rfl, Sp_E h_1⟩)
theorem b194_20 {X : (Nat → Int) × Nat} {d : Nat} {s : mSt} {Q : mQ} {x1 : Int} {l2 : Option mV} {xt0 : Int} (h_1 : ¬ xt0 = 0 → Wp X d 194 25 [some (mR 407), some (mI x1), l2] [] s Q) (h_2 : xt0 = 0 → Wp X d 194 23 [some (mR 407), some (mI x1), l2] [] s Q) : Wp X d 194 20 [some (mR 407), some (mI x1), l2] [mI xt0] s Q := Wp_step k194 f194_20 ⟨h_1, h_2⟩
theorem b194_23 {X : (Nat → Int) × Nat} {d : Nat} {s : mSt} {Q : mQ} {x1 : Int} {l2 : Option mV} (h_1 : Q (some (mI 0)) s) : Wp X d 194 23 [some (mR 407), some (mI x1), l2] [] s Q := Wp_step k194 f194_23 (Wp_step k194 f194_24 ⟨⟨rfl, (Or.inl rfl)⟩, h_1⟩)
theorem b194_25 {X : (Nat → Int) × Nat} {d : Nat} {s : mSt} {Q : mQ} {x1 : Int} {l2 : Option mV} (h_1 : Sp X d 193 [mR 407] s (fun r s' => r = none ∧ Wp X (d + 1) 194 29 [some (mR 407), some (mI x1), l2] [] s' Q)) : Wp X (d + 1) 194 25 [some (mR 407), some (mI x1), l2] [] s Q := Wp_step k194 f194_25 (Wp_step k194 f194_26 ⟨⟨kf_407, Nat.le_of_ble_eq_true rfl⟩, Nat.le_refl _, _, rfl, Sp_V h_1⟩)
theorem b194_29 {X : (Nat → Int) × Nat} {d : Nat} {s : mSt} {Q : mQ} {x1 : Int} {l2 : Option mV} (h_1 : Sp X d 177 [mR 407, mJ 1476] s (fun r s' => ∃ v : Int, r = some (mI v) ∧ Wp X (d + 1) 194 36 [some (mR 407), some (mI x1), l2] [mI v] s' Q)) : Wp X (d + 1) 194 29 [some (mR 407), some (mI x1), l2] [] s Q := Wp_step k194 f194_29 (Wp_step k194 f194_30 (Wp_step k194 f194_33 ⟨⟨kf_407, Nat.le_of_ble_eq_true rfl⟩, Nat.le_refl _, _, rfl, Sp_E h_1⟩))
theorem b194_36 {X : (Nat → Int) × Nat} {d : Nat} {s : mSt} {Q : mQ} {x1 : Int} {l2 : Option mV} {xt0 : Int} (h_1 : ¬ xt0 = 0 → Wp X d 194 49 [some (mR 407), some (mI x1), l2] [] s Q) (h_2 : xt0 = 0 → Wp X d 194 39 [some (mR 407), some (mI x1), l2] [] s Q) : Wp X d 194 36 [some (mR 407), some (mI x1), l2] [mI xt0] s Q := Wp_step k194 f194_36 ⟨h_1, h_2⟩
theorem b194_39 {X : (Nat → Int) × Nat} {d : Nat} {s : mSt} {Q : mQ} {x1 : Int} {l2 : Option mV} (h_1 : Sp X d 177 [mR 407, mJ 498] s (fun r s' => ∃ v : Int, r = some (mI v) ∧ Wp X (d + 1) 194 46 [some (mR 407), some (mI x1), l2] [mI v] s' Q)) : Wp X (d + 1) 194 39 [some (mR 407), some (mI x1), l2] [] s Q := Wp_step k194 f194_39 (Wp_step k194 f194_40 (Wp_step k194 f194_43 ⟨⟨kf_407, Nat.le_of_ble_eq_true rfl⟩, Nat.le_refl _, _, rfl, Sp_E h_1⟩))
theorem b194_46 {X : (Nat → Int) × Nat} {d : Nat} {s : mSt} {Q : mQ} {x1 : Int} {l2 : Option mV} {xt0 : Int} (h_1 : xt0 = 0 → Wp X d 194 53 [some (mR 407), some (mI x1), l2] [] s Q) (h_2 : ¬ xt0 = 0 → Wp X d 194 49 [some (mR 407), some (mI x1), l2] [] s Q) : Wp X d 194 46 [some (mR 407), some (mI x1), l2] [mI xt0] s Q := Wp_step k194 f194_46 ⟨h_1, h_2⟩
theorem b194_49 {X : (Nat → Int) × Nat} {d : Nat} {s : mSt} {Q : mQ} {x1 : Int} {l2 : Option mV} (h_1 : Wp X d 194 54 [some (mR 407), some (mI x1), l2] [mI 1] s Q) : Wp X d 194 49 [some (mR 407), some (mI x1), l2] [] s Q := Wp_step k194 f194_49 (Wp_step k194 f194_50 (h_1))
theorem b194_53 {X : (Nat → Int) × Nat} {d : Nat} {s : mSt} {Q : mQ} {x1 : Int} {l2 : Option mV} (h_1 : Wp X d 194 54 [some (mR 407), some (mI x1), l2] [mI 0] s Q) : Wp X d 194 53 [some (mR 407), some (mI x1), l2] [] s Q := Wp_step k194 f194_53 (h_1)
theorem b194_54 {X : (Nat → Int) × Nat} {d : Nat} {s : mSt} {Q : mQ} {x1 : Int} {l2 : Option mV} {xt0 : Int} (h_1 : xt0 = 0 → Wp X d 194 12 [some (mR 407), some (mI xt0), l2] [] s Q) (h_2 : ¬ xt0 = 0 → Wp X d 194 59 [some (mR 407), some (mI xt0), l2] [] s Q) : Wp X d 194 54 [some (mR 407), some (mI x1), l2] [mI xt0] s Q := Wp_step k194 f194_54 (Wp_step k194 f194_55 (Wp_step k194 f194_56 ⟨h_1, h_2⟩))
theorem b194_59 {X : (Nat → Int) × Nat} {d : Nat} {s : mSt} {Q : mQ} {x1 : Int} {l2 : Option mV} (h_1 : Sp X d 177 [mR 407, mJ 1476] s (fun r s' => ∃ v : Int, r = some (mI v) ∧ Wp X (d + 1) 194 66 [some (mR 407), some (mI x1), l2] [mI v] s' Q)) : Wp X (d + 1) 194 59 [some (mR 407), some (mI x1), l2] [] s Q := Wp_step k194 f194_59 (Wp_step k194 f194_60 (Wp_step k194 f194_63 ⟨⟨kf_407, Nat.le_of_ble_eq_true rfl⟩, Nat.le_refl _, _, rfl, Sp_E h_1⟩))
theorem b194_66 {X : (Nat → Int) × Nat} {d : Nat} {s : mSt} {Q : mQ} {x1 : Int} {l2 : Option mV} {xt0 : Int} (h_1 : xt0 = 0 → Wp X d 194 74 [some (mR 407), some (mI x1), l2] [] s Q) (h_2 : ¬ xt0 = 0 → Wp X d 194 69 [some (mR 407), some (mI x1), l2] [] s Q) : Wp X d 194 66 [some (mR 407), some (mI x1), l2] [mI xt0] s Q := Wp_step k194 f194_66 ⟨h_1, h_2⟩
theorem b194_69 {X : (Nat → Int) × Nat} {d : Nat} {s : mSt} {Q : mQ} {x1 : Int} {l2 : Option mV} (h_1 : Wp X d 194 76 [some (mR 407), some (mI x1), l2] [mI 12] s Q) : Wp X d 194 69 [some (mR 407), some (mI x1), l2] [] s Q := Wp_step k194 f194_69 (Wp_step k194 f194_71 (h_1))
theorem b194_74 {X : (Nat → Int) × Nat} {d : Nat} {s : mSt} {Q : mQ} {x1 : Int} {l2 : Option mV} (h_1 : Wp X d 194 76 [some (mR 407), some (mI x1), l2] [mI 13] s Q) : Wp X d 194 74 [some (mR 407), some (mI x1), l2] [] s Q := Wp_step k194 f194_74 (h_1)
theorem b194_76 {X : (Nat → Int) × Nat} {d : Nat} {s : mSt} {Q : mQ} {x1 : Int} {l2 : Option mV} {xt0 : Int} (h_1 : Sp X d 178 [mR 407] s (fun r s' => r = none ∧ Wp X (d + 1) 194 81 [some (mR 407), some (mI x1), some (mI xt0)] [] s' Q)) : Wp X (d + 1) 194 76 [some (mR 407), some (mI x1), l2] [mI xt0] s Q := Wp_step k194 f194_76 (Wp_step k194 f194_77 (Wp_step k194 f194_78 ⟨⟨kf_407, Nat.le_of_ble_eq_true rfl⟩, Nat.le_refl _, _, rfl, Sp_V h_1⟩))
theorem b194_81 {X : (Nat → Int) × Nat} {d : Nat} {s : mSt} {Q : mQ} {x1 : Int} {x2 : Int} (h_1 : Sp X d 185 [mI x2] s (fun r s' => ∃ v : Int, r = some (mI v) ∧ Wp X (d + 1) 194 86 [some (mR 407), some (mI x1), some (mI x2)] [mI v, mR 407] s' Q)) : Wp X (d + 1) 194 81 [some (mR 407), some (mI x1), some (mI x2)] [] s Q := Wp_step k194 f194_81 (Wp_step k194 f194_82 (Wp_step k194 f194_83 ⟨⟨Nat.le_of_ble_eq_true rfl, Nat.le_refl _⟩, _, rfl, Sp_E h_1⟩))
theorem b194_86 {X : (Nat → Int) × Nat} {d : Nat} {s : mSt} {Q : mQ} {x1 : Int} {x2 : Int} {xt1 : Int} (h_1 : Sp X d 186 [mR 407, mI xt1] s (fun r s' => r = none ∧ Wp X (d + 1) 194 89 [some (mR 407), some (mI x1), some (mI x2)] [] s' Q)) : Wp X (d + 1) 194 86 [some (mR 407), some (mI x1), some (mI x2)] [mI xt1, mR 407] s Q := Wp_step k194 f194_86 ⟨⟨kf_407, Nat.le_of_ble_eq_true rfl⟩, Nat.le_refl _, _, rfl, Sp_V h_1⟩
theorem b194_89 {X : (Nat → Int) × Nat} {d : Nat} {s : mSt} {Q : mQ} {x1 : Int} {x2 : Int} (h_1 : 0 ≤ (s 407 16) ∧ (s 407 16) < 400) (h_2 : Wp X d 194 12 [some (mR 407), some (mI x1), some (mI x2)] [] (uS (uS s 414 ((s 407 16).toNat) x2) 407 16 (w32 (((uS s 414 ((s 407 16).toNat) x2) 407 16) + 1))) Q) : Wp X d 194 89 [some (mR 407), some (mI x1), some (mI x2)] [] s Q := Wp_step k194 f194_89 (Wp_step k194 f194_90 ⟨kf_407, 414, rf_407_15, Wp_step k194 f194_93 (Wp_step k194 f194_94 ⟨kf_407, Wp_step k194 f194_97 (Wp_step k194 f194_98 ⟨400, af_414, h_1, Wp_step k194 f194_99 (Wp_step k194 f194_100 (Wp_step k194 f194_101 ⟨kf_407, Wp_step k194 f194_104 (Wp_step k194 f194_105 (Wp_step k194 f194_106 ⟨kf_407, Wp_step k194 f194_109 (h_2)⟩))⟩))⟩)⟩)⟩)
theorem b194_112 {X : (Nat → Int) × Nat} {d : Nat} {s : mSt} {Q : mQ} {x1 : Int} {l2 : Option mV} (h_1 : Sp X d 192 [mR 407] s (fun r s' => ∃ v : Int, r = some (mI v) ∧ Wp X (d + 1) 194 116 [some (mR 407), some (mI x1), l2] [mI v] s' Q)) : Wp X (d + 1) 194 112 [some (mR 407), some (mI x1), l2] [] s Q := Wp_step k194 f194_112 (Wp_step k194 f194_113 ⟨⟨kf_407, Nat.le_of_ble_eq_true rfl⟩, Nat.le_refl _, _, rfl, Sp_E h_1⟩)
theorem b194_116 {X : (Nat → Int) × Nat} {d : Nat} {s : mSt} {Q : mQ} {x1 : Int} {l2 : Option mV} {xt0 : Int} (h_1 : xt0 = 0 → Wp X d 194 134 [some (mR 407), some (mI x1), l2] [] s Q) (h_2 : ¬ xt0 = 0 → Wp X d 194 119 [some (mR 407), some (mI x1), l2] [] s Q) : Wp X d 194 116 [some (mR 407), some (mI x1), l2] [mI xt0] s Q := Wp_step k194 f194_116 ⟨h_1, h_2⟩
theorem b194_119 {X : (Nat → Int) × Nat} {d : Nat} {s : mSt} {Q : mQ} {x1 : Int} {l2 : Option mV} (h_1 : Sp X d 174 [mR 407] s (fun r s' => ∃ v : Int, r = some (mI v) ∧ Wp X (d + 1) 194 123 [some (mR 407), some (mI x1), l2] [mI v] s' Q)) : Wp X (d + 1) 194 119 [some (mR 407), some (mI x1), l2] [] s Q := Wp_step k194 f194_119 (Wp_step k194 f194_120 ⟨⟨kf_407, Nat.le_of_ble_eq_true rfl⟩, Nat.le_refl _, _, rfl, Sp_E h_1⟩)
theorem b194_123 {X : (Nat → Int) × Nat} {d : Nat} {s : mSt} {Q : mQ} {x1 : Int} {l2 : Option mV} {xt0 : Int} (h_1 : Sp X d 173 [mR 407, mI 0, mI (s 407 8)] s (fun r s' => ∃ v : Int, r = some (mI v) ∧ Wp X (d + 1) 194 133 [some (mR 407), some (mI x1), l2] [mI v] s' Q)) : Wp X (d + 1) 194 123 [some (mR 407), some (mI x1), l2] [mI xt0] s Q := Wp_step k194 f194_123 (Wp_step k194 f194_124 (Wp_step k194 f194_125 (Wp_step k194 f194_126 (Wp_step k194 f194_127 ⟨kf_407, Wp_step k194 f194_130 ⟨⟨kf_407, Nat.le_of_ble_eq_true rfl⟩, Nat.le_refl _, _, rfl, Sp_E h_1⟩⟩))))
theorem b194_133 {X : (Nat → Int) × Nat} {d : Nat} {s : mSt} {Q : mQ} {x1 : Int} {l2 : Option mV} {xt0 : Int} (h_1 : Q (some (mI xt0)) s) (h_2 : xt0 = 0 ∨ xt0 = 1) : Wp X d 194 133 [some (mR 407), some (mI x1), l2] [mI xt0] s Q := Wp_step k194 f194_133 ⟨⟨rfl, h_2⟩, h_1⟩
theorem b194_134 {X : (Nat → Int) × Nat} {d : Nat} {s : mSt} {Q : mQ} {x1 : Int} {l2 : Option mV} (h_1 : Sp X d 186 [mR 407, mI 1] s (fun r s' => r = none ∧ Wp X (d + 1) 194 139 [some (mR 407), some (mI x1), l2] [] s' Q)) : Wp X (d + 1) 194 134 [some (mR 407), some (mI x1), l2] [] s Q := Wp_step k194 f194_134 (Wp_step k194 f194_135 (Wp_step k194 f194_136 ⟨⟨kf_407, Nat.le_of_ble_eq_true rfl⟩, Nat.le_refl _, _, rfl, Sp_V h_1⟩))
theorem b194_139 {X : (Nat → Int) × Nat} {d : Nat} {s : mSt} {Q : mQ} {x1 : Int} {l2 : Option mV} (h_1 : Q (some (mI 1)) s) : Wp X d 194 139 [some (mR 407), some (mI x1), l2] [] s Q := Wp_step k194 f194_139 (Wp_step k194 f194_140 ⟨⟨rfl, (Or.inr rfl)⟩, h_1⟩)
theorem e194 {X : (Nat → Int) × Nat} {d : Nat} {s : mSt} {Q : mQ} (h : Wp X d 194 0 [some (mR 407), none, none] [] s Q) : Sp X d 194 [mR 407] s Q := Sp_of (show mCe 194 = 0 by decide +kernel) (by rw [show mML 194 = 3 by decide +kernel]; rfl) (Nat.le_trans (Nat.le_of_ble_eq_true (show Nat.ble (mArgs _).length 3 = true from rfl)) (show 3 ≤ mML 194 by decide +kernel)) h
-- 195 ClashDayModel.isPlanHere()Z
theorem k195 : mRk 195 = 2 := by decide +kernel
theorem f195_0 : mFetch 195 0 = some (.aload_n 0, 1, 0, 0, 0, 0) := by decide +kernel
theorem f195_1 : mFetch 195 1 = some (.invokevirtual 138, 3, 178, 0, 1, 12) := by decide +kernel
theorem f195_4 : mFetch 195 4 = some (.bipush 48, 2, 0, 0, 0, 0) := by decide +kernel
theorem f195_6 : mFetch 195 6 = some (.aload_n 0, 1, 0, 0, 0, 0) := by decide +kernel
theorem f195_7 : mFetch 195 7 = some (.getfield 177, 3, 12, 11, 0, 1) := by decide +kernel
theorem f195_10 : mFetch 195 10 = some (.imul, 1, 0, 0, 0, 0) := by decide +kernel
theorem f195_11 : mFetch 195 11 = some (.iconst 4, 1, 0, 0, 0, 0) := by decide +kernel
theorem f195_12 : mFetch 195 12 = some (.aload_n 0, 1, 0, 0, 0, 0) := by decide +kernel
theorem f195_13 : mFetch 195 13 = some (.getfield 23, 3, 12, 6, 2, 1) := by decide +kernel
theorem f195_16 : mFetch 195 16 = some (.aload_n 0, 1, 0, 0, 0, 0) := by decide +kernel
theorem f195_17 : mFetch 195 17 = some (.getfield 177, 3, 12, 11, 0, 1) := by decide +kernel
theorem f195_20 : mFetch 195 20 = some (.iaload, 1, 0, 0, 0, 0) := by decide +kernel
theorem f195_21 : mFetch 195 21 = some (.imul, 1, 0, 0, 0, 0) := by decide +kernel
theorem f195_22 : mFetch 195 22 = some (.iadd, 1, 0, 0, 0, 0) := by decide +kernel
theorem f195_23 : mFetch 195 23 = some (.istore_n 1, 1, 0, 0, 0, 0) := by decide +kernel
theorem f195_24 : mFetch 195 24 = some (.aload_n 0, 1, 0, 0, 0, 0) := by decide +kernel
theorem f195_25 : mFetch 195 25 = some (.getfield 20, 3, 12, 5, 2, 1) := by decide +kernel
theorem f195_28 : mFetch 195 28 = some (.iload_n 1, 1, 0, 0, 0, 0) := by decide +kernel
theorem f195_29 : mFetch 195 29 = some (.aload_n 0, 1, 0, 0, 0, 0) := by decide +kernel
theorem f195_30 : mFetch 195 30 = some (.getfield 17, 3, 12, 4, 2, 1) := by decide +kernel
theorem f195_33 : mFetch 195 33 = some (.aload_n 0, 1, 0, 0, 0, 0) := by decide +kernel
theorem f195_34 : mFetch 195 34 = some (.getfield 177, 3, 12, 11, 0, 1) := by decide +kernel
theorem f195_37 : mFetch 195 37 = some (.iaload, 1, 0, 0, 0, 0) := by decide +kernel
theorem f195_38 : mFetch 195 38 = some (.iastore, 1, 0, 0, 0, 0) := by decide +kernel
theorem f195_39 : mFetch 195 39 = some (.aload_n 0, 1, 0, 0, 0, 0) := by decide +kernel
theorem f195_40 : mFetch 195 40 = some (.invokevirtual 214, 3, 189, 0, 1, 12) := by decide +kernel
theorem f195_43 : mFetch 195 43 = some (.ifCond .ne 5, 3, 48, 0, 0, 0) := by decide +kernel
theorem f195_46 : mFetch 195 46 = some (.iconst 0, 1, 0, 0, 0, 0) := by decide +kernel
theorem f195_47 : mFetch 195 47 = some (.ireturn, 1, 0, 0, 0, 0) := by decide +kernel
theorem f195_48 : mFetch 195 48 = some (.aload_n 0, 1, 0, 0, 0, 0) := by decide +kernel
theorem f195_49 : mFetch 195 49 = some (.getfield 20, 3, 12, 5, 2, 1) := by decide +kernel
theorem f195_52 : mFetch 195 52 = some (.iload_n 1, 1, 0, 0, 0, 0) := by decide +kernel
theorem f195_53 : mFetch 195 53 = some (.iconst 1, 1, 0, 0, 0, 0) := by decide +kernel
theorem f195_54 : mFetch 195 54 = some (.iadd, 1, 0, 0, 0, 0) := by decide +kernel
theorem f195_55 : mFetch 195 55 = some (.aload_n 0, 1, 0, 0, 0, 0) := by decide +kernel
theorem f195_56 : mFetch 195 56 = some (.getfield 17, 3, 12, 4, 2, 1) := by decide +kernel
theorem f195_59 : mFetch 195 59 = some (.aload_n 0, 1, 0, 0, 0, 0) := by decide +kernel
theorem f195_60 : mFetch 195 60 = some (.getfield 177, 3, 12, 11, 0, 1) := by decide +kernel
theorem f195_63 : mFetch 195 63 = some (.iaload, 1, 0, 0, 0, 0) := by decide +kernel
theorem f195_64 : mFetch 195 64 = some (.iastore, 1, 0, 0, 0, 0) := by decide +kernel
theorem f195_65 : mFetch 195 65 = some (.aload_n 0, 1, 0, 0, 0, 0) := by decide +kernel
theorem f195_66 : mFetch 195 66 = some (.getfield 20, 3, 12, 5, 2, 1) := by decide +kernel
theorem f195_69 : mFetch 195 69 = some (.iload_n 1, 1, 0, 0, 0, 0) := by decide +kernel
theorem f195_70 : mFetch 195 70 = some (.iconst 2, 1, 0, 0, 0, 0) := by decide +kernel
theorem f195_71 : mFetch 195 71 = some (.iadd, 1, 0, 0, 0, 0) := by decide +kernel
theorem f195_72 : mFetch 195 72 = some (.iconst (-1), 1, 0, 0, 0, 0) := by decide +kernel
theorem f195_73 : mFetch 195 73 = some (.iastore, 1, 0, 0, 0, 0) := by decide +kernel
theorem f195_74 : mFetch 195 74 = some (.aload_n 0, 1, 0, 0, 0, 0) := by decide +kernel
theorem f195_75 : mFetch 195 75 = some (.ldc2_w 241, 3, 294, 0, 0, 0) := by decide +kernel
theorem f195_78 : mFetch 195 78 = some (.invokevirtual 243, 3, 179, 0, 2, 12) := by decide +kernel
theorem f195_81 : mFetch 195 81 = some (.ifCond .eq 29, 3, 110, 0, 0, 0) := by decide +kernel
theorem f195_84 : mFetch 195 84 = some (.aload_n 0, 1, 0, 0, 0, 0) := by decide +kernel
theorem f195_85 : mFetch 195 85 = some (.getfield 20, 3, 12, 5, 2, 1) := by decide +kernel
theorem f195_88 : mFetch 195 88 = some (.iload_n 1, 1, 0, 0, 0, 0) := by decide +kernel
theorem f195_89 : mFetch 195 89 = some (.iconst 2, 1, 0, 0, 0, 0) := by decide +kernel
theorem f195_90 : mFetch 195 90 = some (.iadd, 1, 0, 0, 0, 0) := by decide +kernel
theorem f195_91 : mFetch 195 91 = some (.aload_n 0, 1, 0, 0, 0, 0) := by decide +kernel
theorem f195_92 : mFetch 195 92 = some (.getfield 17, 3, 12, 4, 2, 1) := by decide +kernel
theorem f195_95 : mFetch 195 95 = some (.aload_n 0, 1, 0, 0, 0, 0) := by decide +kernel
theorem f195_96 : mFetch 195 96 = some (.getfield 177, 3, 12, 11, 0, 1) := by decide +kernel
theorem f195_99 : mFetch 195 99 = some (.iaload, 1, 0, 0, 0, 0) := by decide +kernel
theorem f195_100 : mFetch 195 100 = some (.iastore, 1, 0, 0, 0, 0) := by decide +kernel
theorem f195_101 : mFetch 195 101 = some (.aload_n 0, 1, 0, 0, 0, 0) := by decide +kernel
theorem f195_102 : mFetch 195 102 = some (.invokevirtual 246, 3, 194, 0, 1, 12) := by decide +kernel
theorem f195_105 : mFetch 195 105 = some (.ifCond .ne 5, 3, 110, 0, 0, 0) := by decide +kernel
theorem f195_108 : mFetch 195 108 = some (.iconst 0, 1, 0, 0, 0, 0) := by decide +kernel
theorem f195_109 : mFetch 195 109 = some (.ireturn, 1, 0, 0, 0, 0) := by decide +kernel
theorem f195_110 : mFetch 195 110 = some (.aload_n 0, 1, 0, 0, 0, 0) := by decide +kernel
theorem f195_111 : mFetch 195 111 = some (.getfield 20, 3, 12, 5, 2, 1) := by decide +kernel
theorem f195_114 : mFetch 195 114 = some (.iload_n 1, 1, 0, 0, 0, 0) := by decide +kernel
theorem f195_115 : mFetch 195 115 = some (.iconst 3, 1, 0, 0, 0, 0) := by decide +kernel
theorem f195_116 : mFetch 195 116 = some (.iadd, 1, 0, 0, 0, 0) := by decide +kernel
theorem f195_117 : mFetch 195 117 = some (.aload_n 0, 1, 0, 0, 0, 0) := by decide +kernel
theorem f195_118 : mFetch 195 118 = some (.getfield 17, 3, 12, 4, 2, 1) := by decide +kernel
theorem f195_121 : mFetch 195 121 = some (.aload_n 0, 1, 0, 0, 0, 0) := by decide +kernel
theorem f195_122 : mFetch 195 122 = some (.getfield 177, 3, 12, 11, 0, 1) := by decide +kernel
theorem f195_125 : mFetch 195 125 = some (.iaload, 1, 0, 0, 0, 0) := by decide +kernel
theorem f195_126 : mFetch 195 126 = some (.iastore, 1, 0, 0, 0, 0) := by decide +kernel
theorem f195_127 : mFetch 195 127 = some (.aload_n 0, 1, 0, 0, 0, 0) := by decide +kernel
theorem f195_128 : mFetch 195 128 = some (.getfield 23, 3, 12, 6, 2, 1) := by decide +kernel
theorem f195_131 : mFetch 195 131 = some (.aload_n 0, 1, 0, 0, 0, 0) := by decide +kernel
theorem f195_132 : mFetch 195 132 = some (.getfield 177, 3, 12, 11, 0, 1) := by decide +kernel
theorem f195_135 : mFetch 195 135 = some (.dup2, 1, 0, 0, 0, 0) := by decide +kernel
theorem f195_136 : mFetch 195 136 = some (.iaload, 1, 0, 0, 0, 0) := by decide +kernel
theorem f195_137 : mFetch 195 137 = some (.iconst 1, 1, 0, 0, 0, 0) := by decide +kernel
theorem f195_138 : mFetch 195 138 = some (.iadd, 1, 0, 0, 0, 0) := by decide +kernel
theorem f195_139 : mFetch 195 139 = some (.iastore, 1, 0, 0, 0, 0) := by decide +kernel
theorem f195_140 : mFetch 195 140 = some (.iconst 1, 1, 0, 0, 0, 0) := by decide +kernel
theorem f195_141 : mFetch 195 141 = some (.ireturn, 1, 0, 0, 0, 0) := by decide +kernel
theorem b195_0 {X : (Nat → Int) × Nat} {d : Nat} {s : mSt} {Q : mQ} {l1 : Option mV} (h_1 : Sp X d 178 [mR 407] s (fun r s' => r = none ∧ Wp X (d + 1) 195 4 [some (mR 407), l1] [] s' Q)) : Wp X (d + 1) 195 0 [some (mR 407), l1] [] s Q := Wp_step k195 f195_0 (Wp_step k195 f195_1 ⟨⟨kf_407, Nat.le_of_ble_eq_true rfl⟩, Nat.le_refl _, _, rfl, Sp_V h_1⟩)
theorem b195_4 {X : (Nat → Int) × Nat} {d : Nat} {s : mSt} {Q : mQ} {l1 : Option mV} (h_1 : 0 ≤ (s 407 11) ∧ (s 407 11) < 6) (h_2 : 0 ≤ (s 407 11) ∧ (s 407 11) < 7) (h_3 : 0 ≤ (w32 ((w32 (48 * (s 407 11))) + (w32 (4 * (s 412 (s 407 11).toNat))))) ∧ (w32 ((w32 (48 * (s 407 11))) + (w32 (4 * (s 412 (s 407 11).toNat))))) < 288) (h_4 : Sp X d 189 [mR 407] (uS s 411 ((w32 ((w32 (48 * (s 407 11))) + (w32 (4 * (s 412 (s 407 11).toNat))))).toNat) (s 410 (s 407 11).toNat)) (fun r s' => ∃ v : Int, r = some (mI v) ∧ Wp X (d + 1) 195 43 [some (mR 407), some (mI (w32 ((w32 (48 * (s 407 11))) + (w32 (4 * (s 412 (s 407 11).toNat))))))] [mI v] s' Q)) : Wp X (d + 1) 195 4 [some (mR 407), l1] [] s Q := Wp_step k195 f195_4 (Wp_step k195 f195_6 (Wp_step k195 f195_7 ⟨kf_407, Wp_step k195 f195_10 (Wp_step k195 f195_11 (Wp_step k195 f195_12 (Wp_step k195 f195_13 ⟨kf_407, 412, rf_407_6, Wp_step k195 f195_16 (Wp_step k195 f195_17 ⟨kf_407, Wp_step k195 f195_20 ⟨6, af_412, h_1, Wp_step k195 f195_21 (Wp_step k195 f195_22 (Wp_step k195 f195_23 (Wp_step k195 f195_24 (Wp_step k195 f195_25 ⟨kf_407, 411, rf_407_5, Wp_step k195 f195_28 (Wp_step k195 f195_29 (Wp_step k195 f195_30 ⟨kf_407, 410, rf_407_4, Wp_step k195 f195_33 (Wp_step k195 f195_34 ⟨kf_407, Wp_step k195 f195_37 ⟨7, af_410, h_2, Wp_step k195 f195_38 ⟨288, af_411, h_3, Wp_step k195 f195_39 (Wp_step k195 f195_40 ⟨⟨kf_407, Nat.le_of_ble_eq_true rfl⟩, Nat.le_refl _, _, rfl, Sp_E h_4⟩)⟩⟩⟩)⟩))⟩))))⟩⟩)⟩)))⟩))
theorem b195_43 {X : (Nat → Int) × Nat} {d : Nat} {s : mSt} {Q : mQ} {x1 : Int} {xt0 : Int} (h_1 : ¬ xt0 = 0 → Wp X d 195 48 [some (mR 407), some (mI x1)] [] s Q) (h_2 : xt0 = 0 → Wp X d 195 46 [some (mR 407), some (mI x1)] [] s Q) : Wp X d 195 43 [some (mR 407), some (mI x1)] [mI xt0] s Q := Wp_step k195 f195_43 ⟨h_1, h_2⟩
theorem b195_46 {X : (Nat → Int) × Nat} {d : Nat} {s : mSt} {Q : mQ} {x1 : Int} (h_1 : Q (some (mI 0)) s) : Wp X d 195 46 [some (mR 407), some (mI x1)] [] s Q := Wp_step k195 f195_46 (Wp_step k195 f195_47 ⟨⟨rfl, (Or.inl rfl)⟩, h_1⟩)
theorem b195_48 {X : (Nat → Int) × Nat} {d : Nat} {s : mSt} {Q : mQ} {x1 : Int} (h_1 : 0 ≤ (s 407 11) ∧ (s 407 11) < 7) (h_2 : 0 ≤ (w32 (x1 + 1)) ∧ (w32 (x1 + 1)) < 288) (h_3 : 0 ≤ (w32 (x1 + 2)) ∧ (w32 (x1 + 2)) < 288) (h_4 : Sp X d 179 [mR 407, mJ 294] (uS (uS s 411 ((w32 (x1 + 1)).toNat) (s 410 (s 407 11).toNat)) 411 ((w32 (x1 + 2)).toNat) (-1)) (fun r s' => ∃ v : Int, r = some (mI v) ∧ Wp X (d + 1) 195 81 [some (mR 407), some (mI x1)] [mI v] s' Q)) : Wp X (d + 1) 195 48 [some (mR 407), some (mI x1)] [] s Q := Wp_step k195 f195_48 (Wp_step k195 f195_49 ⟨kf_407, 411, rf_407_5, Wp_step k195 f195_52 (Wp_step k195 f195_53 (Wp_step k195 f195_54 (Wp_step k195 f195_55 (Wp_step k195 f195_56 ⟨kf_407, 410, rf_407_4, Wp_step k195 f195_59 (Wp_step k195 f195_60 ⟨kf_407, Wp_step k195 f195_63 ⟨7, af_410, h_1, Wp_step k195 f195_64 ⟨288, af_411, h_2, Wp_step k195 f195_65 (Wp_step k195 f195_66 ⟨kf_407, 411, rf_407_5, Wp_step k195 f195_69 (Wp_step k195 f195_70 (Wp_step k195 f195_71 (Wp_step k195 f195_72 (Wp_step k195 f195_73 ⟨288, af_411, h_3, Wp_step k195 f195_74 (Wp_step k195 f195_75 (Wp_step k195 f195_78 ⟨⟨kf_407, Nat.le_of_ble_eq_true rfl⟩, Nat.le_refl _, _, rfl, Sp_E h_4⟩))⟩))))⟩)⟩⟩⟩)⟩))))⟩)
theorem b195_81 {X : (Nat → Int) × Nat} {d : Nat} {s : mSt} {Q : mQ} {x1 : Int} {xt0 : Int} (h_1 : xt0 = 0 → Wp X d 195 110 [some (mR 407), some (mI x1)] [] s Q) (h_2 : ¬ xt0 = 0 → Wp X d 195 84 [some (mR 407), some (mI x1)] [] s Q) : Wp X d 195 81 [some (mR 407), some (mI x1)] [mI xt0] s Q := Wp_step k195 f195_81 ⟨h_1, h_2⟩
theorem b195_84 {X : (Nat → Int) × Nat} {d : Nat} {s : mSt} {Q : mQ} {x1 : Int} (h_1 : 0 ≤ (s 407 11) ∧ (s 407 11) < 7) (h_2 : 0 ≤ (w32 (x1 + 2)) ∧ (w32 (x1 + 2)) < 288) (h_3 : Sp X d 194 [mR 407] (uS s 411 ((w32 (x1 + 2)).toNat) (s 410 (s 407 11).toNat)) (fun r s' => ∃ v : Int, r = some (mI v) ∧ Wp X (d + 1) 195 105 [some (mR 407), some (mI x1)] [mI v] s' Q)) : Wp X (d + 1) 195 84 [some (mR 407), some (mI x1)] [] s Q := Wp_step k195 f195_84 (Wp_step k195 f195_85 ⟨kf_407, 411, rf_407_5, Wp_step k195 f195_88 (Wp_step k195 f195_89 (Wp_step k195 f195_90 (Wp_step k195 f195_91 (Wp_step k195 f195_92 ⟨kf_407, 410, rf_407_4, Wp_step k195 f195_95 (Wp_step k195 f195_96 ⟨kf_407, Wp_step k195 f195_99 ⟨7, af_410, h_1, Wp_step k195 f195_100 ⟨288, af_411, h_2, Wp_step k195 f195_101 (Wp_step k195 f195_102 ⟨⟨kf_407, Nat.le_of_ble_eq_true rfl⟩, Nat.le_refl _, _, rfl, Sp_E h_3⟩)⟩⟩⟩)⟩))))⟩)
theorem b195_105 {X : (Nat → Int) × Nat} {d : Nat} {s : mSt} {Q : mQ} {x1 : Int} {xt0 : Int} (h_1 : ¬ xt0 = 0 → Wp X d 195 110 [some (mR 407), some (mI x1)] [] s Q) (h_2 : xt0 = 0 → Wp X d 195 108 [some (mR 407), some (mI x1)] [] s Q) : Wp X d 195 105 [some (mR 407), some (mI x1)] [mI xt0] s Q := Wp_step k195 f195_105 ⟨h_1, h_2⟩
theorem b195_108 {X : (Nat → Int) × Nat} {d : Nat} {s : mSt} {Q : mQ} {x1 : Int} (h_1 : Q (some (mI 0)) s) : Wp X d 195 108 [some (mR 407), some (mI x1)] [] s Q := Wp_step k195 f195_108 (Wp_step k195 f195_109 ⟨⟨rfl, (Or.inl rfl)⟩, h_1⟩)
theorem b195_110 {X : (Nat → Int) × Nat} {d : Nat} {s : mSt} {Q : mQ} {x1 : Int} (h_1 : 0 ≤ (s 407 11) ∧ (s 407 11) < 7) (h_2 : 0 ≤ (w32 (x1 + 3)) ∧ (w32 (x1 + 3)) < 288) (h_3 : 0 ≤ ((uS s 411 ((w32 (x1 + 3)).toNat) (s 410 (s 407 11).toNat)) 407 11) ∧ ((uS s 411 ((w32 (x1 + 3)).toNat) (s 410 (s 407 11).toNat)) 407 11) < 6) (h_4 : 0 ≤ ((uS s 411 ((w32 (x1 + 3)).toNat) (s 410 (s 407 11).toNat)) 407 11) ∧ ((uS s 411 ((w32 (x1 + 3)).toNat) (s 410 (s 407 11).toNat)) 407 11) < 6) (h_5 : Q (some (mI 1)) (uS (uS s 411 ((w32 (x1 + 3)).toNat) (s 410 (s 407 11).toNat)) 412 (((uS s 411 ((w32 (x1 + 3)).toNat) (s 410 (s 407 11).toNat)) 407 11).toNat) (w32 (((uS s 411 ((w32 (x1 + 3)).toNat) (s 410 (s 407 11).toNat)) 412 ((uS s 411 ((w32 (x1 + 3)).toNat) (s 410 (s 407 11).toNat)) 407 11).toNat) + 1)))) : Wp X d 195 110 [some (mR 407), some (mI x1)] [] s Q := Wp_step k195 f195_110 (Wp_step k195 f195_111 ⟨kf_407, 411, rf_407_5, Wp_step k195 f195_114 (Wp_step k195 f195_115 (Wp_step k195 f195_116 (Wp_step k195 f195_117 (Wp_step k195 f195_118 ⟨kf_407, 410, rf_407_4, Wp_step k195 f195_121 (Wp_step k195 f195_122 ⟨kf_407, Wp_step k195 f195_125 ⟨7, af_410, h_1, Wp_step k195 f195_126 ⟨288, af_411, h_2, Wp_step k195 f195_127 (Wp_step k195 f195_128 ⟨kf_407, 412, rf_407_6, Wp_step k195 f195_131 (Wp_step k195 f195_132 ⟨kf_407, Wp_step k195 f195_135 (Wp_step k195 f195_136 ⟨6, af_412, h_3, Wp_step k195 f195_137 (Wp_step k195 f195_138 (Wp_step k195 f195_139 ⟨6, af_412, h_4, Wp_step k195 f195_140 (Wp_step k195 f195_141 ⟨⟨rfl, (Or.inr rfl)⟩, h_5⟩)⟩))⟩)⟩)⟩)⟩⟩⟩)⟩))))⟩)
theorem e195 {X : (Nat → Int) × Nat} {d : Nat} {s : mSt} {Q : mQ} (h : Wp X d 195 0 [some (mR 407), none] [] s Q) : Sp X d 195 [mR 407] s Q := Sp_of (show mCe 195 = 0 by decide +kernel) (by rw [show mML 195 = 2 by decide +kernel]; rfl) (Nat.le_trans (Nat.le_of_ble_eq_true (show Nat.ble (mArgs _).length 2 = true from rfl)) (show 2 ≤ mML 195 by decide +kernel)) h
-- 196 ClashDayModel.cellHere(III)Z
theorem k196 : mRk 196 = 2 := by decide +kernel
theorem f196_0 : mFetch 196 0 = some (.aload_n 0, 1, 0, 0, 0, 0) := by decide +kernel
theorem f196_1 : mFetch 196 1 = some (.iload_n 2, 1, 0, 0, 0, 0) := by decide +kernel
theorem f196_2 : mFetch 196 2 = some (.iload_n 3, 1, 0, 0, 0, 0) := by decide +kernel
theorem f196_3 : mFetch 196 3 = some (.invokevirtual 198, 3, 180, 0, 3, 12) := by decide +kernel
theorem f196_6 : mFetch 196 6 = some (.ifCond .ne 5, 3, 11, 0, 0, 0) := by decide +kernel
theorem f196_9 : mFetch 196 9 = some (.iconst 0, 1, 0, 0, 0, 0) := by decide +kernel
theorem f196_10 : mFetch 196 10 = some (.ireturn, 1, 0, 0, 0, 0) := by decide +kernel
theorem f196_11 : mFetch 196 11 = some (.aload_n 0, 1, 0, 0, 0, 0) := by decide +kernel
theorem f196_12 : mFetch 196 12 = some (.getfield 26, 3, 12, 7, 2, 1) := by decide +kernel
theorem f196_15 : mFetch 196 15 = some (.iload_n 1, 1, 0, 0, 0, 0) := by decide +kernel
theorem f196_16 : mFetch 196 16 = some (.aload_n 0, 1, 0, 0, 0, 0) := by decide +kernel
theorem f196_17 : mFetch 196 17 = some (.getfield 148, 3, 12, 10, 0, 1) := by decide +kernel
theorem f196_20 : mFetch 196 20 = some (.iastore, 1, 0, 0, 0, 0) := by decide +kernel
theorem f196_21 : mFetch 196 21 = some (.iconst 1, 1, 0, 0, 0, 0) := by decide +kernel
theorem f196_22 : mFetch 196 22 = some (.ireturn, 1, 0, 0, 0, 0) := by decide +kernel
theorem b196_0 {X : (Nat → Int) × Nat} {d : Nat} {s : mSt} {Q : mQ} {x1 : Int} {x2 : Int} {x3 : Int} (h_1 : Sp X d 180 [mR 407, mI x2, mI x3] s (fun r s' => ∃ v : Int, r = some (mI v) ∧ Wp X (d + 1) 196 6 [some (mR 407), some (mI x1), some (mI x2), some (mI x3)] [mI v] s' Q)) : Wp X (d + 1) 196 0 [some (mR 407), some (mI x1), some (mI x2), some (mI x3)] [] s Q := Wp_step k196 f196_0 (Wp_step k196 f196_1 (Wp_step k196 f196_2 (Wp_step k196 f196_3 ⟨⟨kf_407, Nat.le_of_ble_eq_true rfl⟩, Nat.le_refl _, _, rfl, Sp_E h_1⟩)))
theorem b196_6 {X : (Nat → Int) × Nat} {d : Nat} {s : mSt} {Q : mQ} {x1 : Int} {x2 : Int} {x3 : Int} {xt0 : Int} (h_1 : ¬ xt0 = 0 → Wp X d 196 11 [some (mR 407), some (mI x1), some (mI x2), some (mI x3)] [] s Q) (h_2 : xt0 = 0 → Wp X d 196 9 [some (mR 407), some (mI x1), some (mI x2), some (mI x3)] [] s Q) : Wp X d 196 6 [some (mR 407), some (mI x1), some (mI x2), some (mI x3)] [mI xt0] s Q := Wp_step k196 f196_6 ⟨h_1, h_2⟩
theorem b196_9 {X : (Nat → Int) × Nat} {d : Nat} {s : mSt} {Q : mQ} {x1 : Int} {x2 : Int} {x3 : Int} (h_1 : Q (some (mI 0)) s) : Wp X d 196 9 [some (mR 407), some (mI x1), some (mI x2), some (mI x3)] [] s Q := Wp_step k196 f196_9 (Wp_step k196 f196_10 ⟨⟨rfl, (Or.inl rfl)⟩, h_1⟩)
theorem b196_11 {X : (Nat → Int) × Nat} {d : Nat} {s : mSt} {Q : mQ} {x1 : Int} {x2 : Int} {x3 : Int} (h_1 : 0 ≤ x1 ∧ x1 < 135) (h_2 : Q (some (mI 1)) (uS s 413 x1.toNat (s 407 10))) : Wp X d 196 11 [some (mR 407), some (mI x1), some (mI x2), some (mI x3)] [] s Q := Wp_step k196 f196_11 (Wp_step k196 f196_12 ⟨kf_407, 413, rf_407_7, Wp_step k196 f196_15 (Wp_step k196 f196_16 (Wp_step k196 f196_17 ⟨kf_407, Wp_step k196 f196_20 ⟨135, af_413, h_1, Wp_step k196 f196_21 (Wp_step k196 f196_22 ⟨⟨rfl, (Or.inr rfl)⟩, h_2⟩)⟩⟩))⟩)
theorem e196 {X : (Nat → Int) × Nat} {d : Nat} {s : mSt} {Q : mQ} {x1 : Int} {x2 : Int} {x3 : Int} (h : Wp X d 196 0 [some (mR 407), some (mI x1), some (mI x2), some (mI x3)] [] s Q) : Sp X d 196 [mR 407, mI x1, mI x2, mI x3] s Q := Sp_of (show mCe 196 = 0 by decide +kernel) (by rw [show mML 196 = 4 by decide +kernel]; rfl) (Nat.le_trans (Nat.le_of_ble_eq_true (show Nat.ble (mArgs _).length 4 = true from rfl)) (show 4 ≤ mML 196 by decide +kernel)) h
-- 197 ClashDayModel.isDayHere(I)Z
theorem k197 : mRk 197 = 2 := by decide +kernel
theorem f197_0 : mFetch 197 0 = some (.aload_n 0, 1, 0, 0, 0, 0) := by decide +kernel
theorem f197_1 : mFetch 197 1 = some (.getfield 26, 3, 12, 7, 2, 1) := by decide +kernel
theorem f197_4 : mFetch 197 4 = some (.iconst 0, 1, 0, 0, 0, 0) := by decide +kernel
theorem f197_5 : mFetch 197 5 = some (.iaload, 1, 0, 0, 0, 0) := by decide +kernel
theorem f197_6 : mFetch 197 6 = some (.ifCond .le 10, 3, 16, 0, 0, 0) := by decide +kernel
theorem f197_9 : mFetch 197 9 = some (.aload_n 0, 1, 0, 0, 0, 0) := by decide +kernel
theorem f197_10 : mFetch 197 10 = some (.iconst 4, 1, 0, 0, 0, 0) := by decide +kernel
theorem f197_11 : mFetch 197 11 = some (.iload_n 1, 1, 0, 0, 0, 0) := by decide +kernel
theorem f197_12 : mFetch 197 12 = some (.invokevirtual 144, 3, 173, 0, 3, 12) := by decide +kernel
theorem f197_15 : mFetch 197 15 = some (.ireturn, 1, 0, 0, 0, 0) := by decide +kernel
theorem f197_16 : mFetch 197 16 = some (.aload_n 0, 1, 0, 0, 0, 0) := by decide +kernel
theorem f197_17 : mFetch 197 17 = some (.invokevirtual 138, 3, 178, 0, 1, 12) := by decide +kernel
theorem f197_20 : mFetch 197 20 = some (.aload_n 0, 1, 0, 0, 0, 0) := by decide +kernel
theorem f197_21 : mFetch 197 21 = some (.iconst 1, 1, 0, 0, 0, 0) := by decide +kernel
theorem f197_22 : mFetch 197 22 = some (.iconst 1, 1, 0, 0, 0, 0) := by decide +kernel
theorem f197_23 : mFetch 197 23 = some (.bipush 9, 2, 0, 0, 0, 0) := by decide +kernel
theorem f197_25 : mFetch 197 25 = some (.invokevirtual 249, 3, 196, 0, 4, 12) := by decide +kernel
theorem f197_28 : mFetch 197 28 = some (.ifCond .eq 14, 3, 42, 0, 0, 0) := by decide +kernel
theorem f197_31 : mFetch 197 31 = some (.aload_n 0, 1, 0, 0, 0, 0) := by decide +kernel
theorem f197_32 : mFetch 197 32 = some (.iconst 2, 1, 0, 0, 0, 0) := by decide +kernel
theorem f197_33 : mFetch 197 33 = some (.iconst 1, 1, 0, 0, 0, 0) := by decide +kernel
theorem f197_34 : mFetch 197 34 = some (.bipush 20, 2, 0, 0, 0, 0) := by decide +kernel
theorem f197_36 : mFetch 197 36 = some (.invokevirtual 249, 3, 196, 0, 4, 12) := by decide +kernel
theorem f197_39 : mFetch 197 39 = some (.ifCond .ne 5, 3, 44, 0, 0, 0) := by decide +kernel
theorem f197_42 : mFetch 197 42 = some (.iconst 0, 1, 0, 0, 0, 0) := by decide +kernel
theorem f197_43 : mFetch 197 43 = some (.ireturn, 1, 0, 0, 0, 0) := by decide +kernel
theorem f197_44 : mFetch 197 44 = some (.aload_n 0, 1, 0, 0, 0, 0) := by decide +kernel
theorem f197_45 : mFetch 197 45 = some (.getfield 26, 3, 12, 7, 2, 1) := by decide +kernel
theorem f197_48 : mFetch 197 48 = some (.iconst 0, 1, 0, 0, 0, 0) := by decide +kernel
theorem f197_49 : mFetch 197 49 = some (.iconst 1, 1, 0, 0, 0, 0) := by decide +kernel
theorem f197_50 : mFetch 197 50 = some (.iastore, 1, 0, 0, 0, 0) := by decide +kernel
theorem f197_51 : mFetch 197 51 = some (.iconst 1, 1, 0, 0, 0, 0) := by decide +kernel
theorem f197_52 : mFetch 197 52 = some (.ireturn, 1, 0, 0, 0, 0) := by decide +kernel
theorem b197_0 {X : (Nat → Int) × Nat} {d : Nat} {s : mSt} {Q : mQ} {x1 : Int} (h_1 : (s 413 0) ≤ 0 → Wp X d 197 16 [some (mR 407), some (mI x1)] [] s Q) (h_2 : ¬ (s 413 0) ≤ 0 → Wp X d 197 9 [some (mR 407), some (mI x1)] [] s Q) : Wp X d 197 0 [some (mR 407), some (mI x1)] [] s Q := Wp_step k197 f197_0 (Wp_step k197 f197_1 ⟨kf_407, 413, rf_407_7, Wp_step k197 f197_4 (Wp_step k197 f197_5 ⟨135, af_413, ⟨by decide, by decide⟩, Wp_step k197 f197_6 ⟨h_1, h_2⟩⟩)⟩)
theorem b197_9 {X : (Nat → Int) × Nat} {d : Nat} {s : mSt} {Q : mQ} {x1 : Int} (h_1 : Sp X d 173 [mR 407, mI 4, mI x1] s (fun r s' => ∃ v : Int, r = some (mI v) ∧ Wp X (d + 1) 197 15 [some (mR 407), some (mI x1)] [mI v] s' Q)) : Wp X (d + 1) 197 9 [some (mR 407), some (mI x1)] [] s Q := Wp_step k197 f197_9 (Wp_step k197 f197_10 (Wp_step k197 f197_11 (Wp_step k197 f197_12 ⟨⟨kf_407, Nat.le_of_ble_eq_true rfl⟩, Nat.le_refl _, _, rfl, Sp_E h_1⟩)))
theorem b197_15 {X : (Nat → Int) × Nat} {d : Nat} {s : mSt} {Q : mQ} {x1 : Int} {xt0 : Int} (h_1 : Q (some (mI xt0)) s) (h_2 : xt0 = 0 ∨ xt0 = 1) : Wp X d 197 15 [some (mR 407), some (mI x1)] [mI xt0] s Q := Wp_step k197 f197_15 ⟨⟨rfl, h_2⟩, h_1⟩
theorem b197_16 {X : (Nat → Int) × Nat} {d : Nat} {s : mSt} {Q : mQ} {x1 : Int} (h_1 : Sp X d 178 [mR 407] s (fun r s' => r = none ∧ Wp X (d + 1) 197 20 [some (mR 407), some (mI x1)] [] s' Q)) : Wp X (d + 1) 197 16 [some (mR 407), some (mI x1)] [] s Q := Wp_step k197 f197_16 (Wp_step k197 f197_17 ⟨⟨kf_407, Nat.le_of_ble_eq_true rfl⟩, Nat.le_refl _, _, rfl, Sp_V h_1⟩)
theorem b197_20 {X : (Nat → Int) × Nat} {d : Nat} {s : mSt} {Q : mQ} {x1 : Int} (h_1 : Sp X d 196 [mR 407, mI 1, mI 1, mI 9] s (fun r s' => ∃ v : Int, r = some (mI v) ∧ Wp X (d + 1) 197 28 [some (mR 407), some (mI x1)] [mI v] s' Q)) : Wp X (d + 1) 197 20 [some (mR 407), some (mI x1)] [] s Q := Wp_step k197 f197_20 (Wp_step k197 f197_21 (Wp_step k197 f197_22 (Wp_step k197 f197_23 (Wp_step k197 f197_25 ⟨⟨kf_407, Nat.le_of_ble_eq_true rfl⟩, Nat.le_refl _, _, rfl, Sp_E h_1⟩))))
theorem b197_28 {X : (Nat → Int) × Nat} {d : Nat} {s : mSt} {Q : mQ} {x1 : Int} {xt0 : Int} (h_1 : xt0 = 0 → Wp X d 197 42 [some (mR 407), some (mI x1)] [] s Q) (h_2 : ¬ xt0 = 0 → Wp X d 197 31 [some (mR 407), some (mI x1)] [] s Q) : Wp X d 197 28 [some (mR 407), some (mI x1)] [mI xt0] s Q := Wp_step k197 f197_28 ⟨h_1, h_2⟩
theorem b197_31 {X : (Nat → Int) × Nat} {d : Nat} {s : mSt} {Q : mQ} {x1 : Int} (h_1 : Sp X d 196 [mR 407, mI 2, mI 1, mI 20] s (fun r s' => ∃ v : Int, r = some (mI v) ∧ Wp X (d + 1) 197 39 [some (mR 407), some (mI x1)] [mI v] s' Q)) : Wp X (d + 1) 197 31 [some (mR 407), some (mI x1)] [] s Q := Wp_step k197 f197_31 (Wp_step k197 f197_32 (Wp_step k197 f197_33 (Wp_step k197 f197_34 (Wp_step k197 f197_36 ⟨⟨kf_407, Nat.le_of_ble_eq_true rfl⟩, Nat.le_refl _, _, rfl, Sp_E h_1⟩))))
theorem b197_39 {X : (Nat → Int) × Nat} {d : Nat} {s : mSt} {Q : mQ} {x1 : Int} {xt0 : Int} (h_1 : ¬ xt0 = 0 → Wp X d 197 44 [some (mR 407), some (mI x1)] [] s Q) (h_2 : xt0 = 0 → Wp X d 197 42 [some (mR 407), some (mI x1)] [] s Q) : Wp X d 197 39 [some (mR 407), some (mI x1)] [mI xt0] s Q := Wp_step k197 f197_39 ⟨h_1, h_2⟩
theorem b197_42 {X : (Nat → Int) × Nat} {d : Nat} {s : mSt} {Q : mQ} {x1 : Int} (h_1 : Q (some (mI 0)) s) : Wp X d 197 42 [some (mR 407), some (mI x1)] [] s Q := Wp_step k197 f197_42 (Wp_step k197 f197_43 ⟨⟨rfl, (Or.inl rfl)⟩, h_1⟩)
theorem b197_44 {X : (Nat → Int) × Nat} {d : Nat} {s : mSt} {Q : mQ} {x1 : Int} (h_1 : Q (some (mI 1)) (uS s 413 0 1)) : Wp X d 197 44 [some (mR 407), some (mI x1)] [] s Q := Wp_step k197 f197_44 (Wp_step k197 f197_45 ⟨kf_407, 413, rf_407_7, Wp_step k197 f197_48 (Wp_step k197 f197_49 (Wp_step k197 f197_50 ⟨135, af_413, ⟨by decide, by decide⟩, Wp_step k197 f197_51 (Wp_step k197 f197_52 ⟨⟨rfl, (Or.inr rfl)⟩, h_1⟩)⟩))⟩)
theorem e197 {X : (Nat → Int) × Nat} {d : Nat} {s : mSt} {Q : mQ} {x1 : Int} (h : Wp X d 197 0 [some (mR 407), some (mI x1)] [] s Q) : Sp X d 197 [mR 407, mI x1] s Q := Sp_of (show mCe 197 = 0 by decide +kernel) (by rw [show mML 197 = 2 by decide +kernel]; rfl) (Nat.le_trans (Nat.le_of_ble_eq_true (show Nat.ble (mArgs _).length 2 = true from rfl)) (show 2 ≤ mML 197 by decide +kernel)) h
