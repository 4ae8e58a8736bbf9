-- 79 ClashDay$RuleReader.readClause(LClashDay$Rule;I)Z
theorem k79 : mRk 79 = 2 := by decide +kernel
theorem f79_0 : mFetch 79 0 = some (.aload_n 0, 1, 0, 0, 0, 0) := by decide +kernel
theorem f79_1 : mFetch 79 1 = some (.getfield 9, 3, 6, 0, 2, 1) := by decide +kernel
theorem f79_4 : mFetch 79 4 = some (.bipush 14, 2, 0, 0, 0, 0) := by decide +kernel
theorem f79_6 : mFetch 79 6 = some (.invokevirtual 40, 3, 92, 0, 2, 8) := by decide +kernel
theorem f79_9 : mFetch 79 9 = some (.ifCond .ne 12, 3, 21, 0, 0, 0) := by decide +kernel
theorem f79_12 : mFetch 79 12 = some (.aload_n 0, 1, 0, 0, 0, 0) := by decide +kernel
theorem f79_13 : mFetch 79 13 = some (.getfield 9, 3, 6, 0, 2, 1) := by decide +kernel
theorem f79_16 : mFetch 79 16 = some (.iconst 0, 1, 0, 0, 0, 0) := by decide +kernel
theorem f79_17 : mFetch 79 17 = some (.invokevirtual 44, 3, 94, 0, 2, 8) := by decide +kernel
theorem f79_20 : mFetch 79 20 = some (.ireturn, 1, 0, 0, 0, 0) := by decide +kernel
theorem f79_21 : mFetch 79 21 = some (.iload_n 2, 1, 0, 0, 0, 0) := by decide +kernel
theorem f79_22 : mFetch 79 22 = some (.bipush 12, 2, 0, 0, 0, 0) := by decide +kernel
theorem f79_24 : mFetch 79 24 = some (.if_icmp .lt 12, 3, 36, 0, 0, 0) := by decide +kernel
theorem f79_27 : mFetch 79 27 = some (.aload_n 0, 1, 0, 0, 0, 0) := by decide +kernel
theorem f79_28 : mFetch 79 28 = some (.getfield 9, 3, 6, 0, 2, 1) := by decide +kernel
theorem f79_31 : mFetch 79 31 = some (.iconst 4, 1, 0, 0, 0, 0) := by decide +kernel
theorem f79_32 : mFetch 79 32 = some (.invokevirtual 44, 3, 94, 0, 2, 8) := by decide +kernel
theorem f79_35 : mFetch 79 35 = some (.ireturn, 1, 0, 0, 0, 0) := by decide +kernel
theorem f79_36 : mFetch 79 36 = some (.aload_n 0, 1, 0, 0, 0, 0) := by decide +kernel
theorem f79_37 : mFetch 79 37 = some (.getfield 9, 3, 6, 0, 2, 1) := by decide +kernel
theorem f79_40 : mFetch 79 40 = some (.invokevirtual 47, 3, 90, 0, 1, 8) := by decide +kernel
theorem f79_43 : mFetch 79 43 = some (.aload_n 0, 1, 0, 0, 0, 0) := by decide +kernel
theorem f79_44 : mFetch 79 44 = some (.aload_n 1, 1, 0, 0, 0, 0) := by decide +kernel
theorem f79_45 : mFetch 79 45 = some (.invokevirtual 50, 3, 82, 0, 2, 6) := by decide +kernel
theorem f79_48 : mFetch 79 48 = some (.ifCond .ne 5, 3, 53, 0, 0, 0) := by decide +kernel
theorem f79_51 : mFetch 79 51 = some (.iconst 0, 1, 0, 0, 0, 0) := by decide +kernel
theorem f79_52 : mFetch 79 52 = some (.ireturn, 1, 0, 0, 0, 0) := by decide +kernel
theorem f79_53 : mFetch 79 53 = some (.aload_n 1, 1, 0, 0, 0, 0) := by decide +kernel
theorem f79_54 : mFetch 79 54 = some (.getfield 54, 3, 5, 1, 0, 0) := by decide +kernel
theorem f79_57 : mFetch 79 57 = some (.istore_n 3, 1, 0, 0, 0, 0) := by decide +kernel
theorem f79_58 : mFetch 79 58 = some (.aload_n 0, 1, 0, 0, 0, 0) := by decide +kernel
theorem f79_59 : mFetch 79 59 = some (.getfield 9, 3, 6, 0, 2, 1) := by decide +kernel
theorem f79_62 : mFetch 79 62 = some (.bipush 15, 2, 0, 0, 0, 0) := by decide +kernel
theorem f79_64 : mFetch 79 64 = some (.invokevirtual 40, 3, 92, 0, 2, 8) := by decide +kernel
theorem f79_67 : mFetch 79 67 = some (.ifCond .eq 21, 3, 88, 0, 0, 0) := by decide +kernel
theorem f79_70 : mFetch 79 70 = some (.aload_n 0, 1, 0, 0, 0, 0) := by decide +kernel
theorem f79_71 : mFetch 79 71 = some (.getfield 9, 3, 6, 0, 2, 1) := by decide +kernel
theorem f79_74 : mFetch 79 74 = some (.invokevirtual 47, 3, 90, 0, 1, 8) := by decide +kernel
theorem f79_77 : mFetch 79 77 = some (.aload_n 0, 1, 0, 0, 0, 0) := by decide +kernel
theorem f79_78 : mFetch 79 78 = some (.aload_n 1, 1, 0, 0, 0, 0) := by decide +kernel
theorem f79_79 : mFetch 79 79 = some (.iconst 0, 1, 0, 0, 0, 0) := by decide +kernel
theorem f79_80 : mFetch 79 80 = some (.invokevirtual 57, 3, 80, 0, 3, 6) := by decide +kernel
theorem f79_83 : mFetch 79 83 = some (.ifCond .ne 5, 3, 88, 0, 0, 0) := by decide +kernel
theorem f79_86 : mFetch 79 86 = some (.iconst 0, 1, 0, 0, 0, 0) := by decide +kernel
theorem f79_87 : mFetch 79 87 = some (.ireturn, 1, 0, 0, 0, 0) := by decide +kernel
theorem f79_88 : mFetch 79 88 = some (.aload_n 1, 1, 0, 0, 0, 0) := by decide +kernel
theorem f79_89 : mFetch 79 89 = some (.iload_n 3, 1, 0, 0, 0, 0) := by decide +kernel
theorem f79_90 : mFetch 79 90 = some (.invokevirtual 60, 3, 73, 0, 2, 5) := by decide +kernel
theorem f79_93 : mFetch 79 93 = some (.iconst 1, 1, 0, 0, 0, 0) := by decide +kernel
theorem f79_94 : mFetch 79 94 = some (.ireturn, 1, 0, 0, 0, 0) := by decide +kernel
theorem b79_0 {X : (Nat → Int) × Nat} {d : Nat} {s : mSt} {Q : mQ} {a1 : Nat} {x2 : Int} {l3 : Option mV} (h1 : isRl a1) (h_1 : Sp X d 92 [mR 1, mI 14] s (fun r s' => ∃ v : Int, r = some (mI v) ∧ Wp X (d + 1) 79 9 [some (mR 5), some (mR a1), some (mI x2), l3] [mI v] s' Q)) : Wp X (d + 1) 79 0 [some (mR 5), some (mR a1), some (mI x2), l3] [] s Q := Wp_step k79 f79_0 (Wp_step k79 f79_1 ⟨kf_5, 1, rf_5_0, Wp_step k79 f79_4 (Wp_step k79 f79_6 ⟨⟨kf_1, Nat.le_of_ble_eq_true rfl⟩, Nat.le_refl _, _, rfl, Sp_E h_1⟩)⟩)
theorem b79_9 {X : (Nat → Int) × Nat} {d : Nat} {s : mSt} {Q : mQ} {a1 : Nat} {x2 : Int} {l3 : Option mV} {xt0 : Int} (h1 : isRl a1) (h_1 : ¬ xt0 = 0 → Wp X d 79 21 [some (mR 5), some (mR a1), some (mI x2), l3] [] s Q) (h_2 : xt0 = 0 → Wp X d 79 12 [some (mR 5), some (mR a1), some (mI x2), l3] [] s Q) : Wp X d 79 9 [some (mR 5), some (mR a1), some (mI x2), l3] [mI xt0] s Q := Wp_step k79 f79_9 ⟨h_1, h_2⟩
theorem b79_12 {X : (Nat → Int) × Nat} {d : Nat} {s : mSt} {Q : mQ} {a1 : Nat} {x2 : Int} {l3 : Option mV} (h1 : isRl a1) (h_1 : Sp X d 94 [mR 1, mI 0] s (fun r s' => ∃ v : Int, r = some (mI v) ∧ Wp X (d + 1) 79 20 [some (mR 5), some (mR a1), some (mI x2), l3] [mI v] s' Q)) : Wp X (d + 1) 79 12 [some (mR 5), some (mR a1), some (mI x2), l3] [] s Q := Wp_step k79 f79_12 (Wp_step k79 f79_13 ⟨kf_5, 1, rf_5_0, Wp_step k79 f79_16 (Wp_step k79 f79_17 ⟨⟨kf_1, Nat.le_of_ble_eq_true rfl⟩, Nat.le_refl _, _, rfl, Sp_E h_1⟩)⟩)
theorem b79_20 {X : (Nat → Int) × Nat} {d : Nat} {s : mSt} {Q : mQ} {a1 : Nat} {x2 : Int} {l3 : Option mV} {xt0 : Int} (h1 : isRl a1) (h_1 : Q (some (mI xt0)) s) (h_2 : xt0 = 0 ∨ xt0 = 1) : Wp X d 79 20 [some (mR 5), some (mR a1), some (mI x2), l3] [mI xt0] s Q := Wp_step k79 f79_20 ⟨⟨rfl, h_2⟩, h_1⟩
theorem b79_21 {X : (Nat → Int) × Nat} {d : Nat} {s : mSt} {Q : mQ} {a1 : Nat} {x2 : Int} {l3 : Option mV} (h1 : isRl a1) (h_1 : x2 < 12 → Wp X d 79 36 [some (mR 5), some (mR a1), some (mI x2), l3] [] s Q) (h_2 : ¬ x2 < 12 → Wp X d 79 27 [some (mR 5), some (mR a1), some (mI x2), l3] [] s Q) : Wp X d 79 21 [some (mR 5), some (mR a1), some (mI x2), l3] [] s Q := Wp_step k79 f79_21 (Wp_step k79 f79_22 (Wp_step k79 f79_24 ⟨h_1, h_2⟩))
theorem b79_27 {X : (Nat → Int) × Nat} {d : Nat} {s : mSt} {Q : mQ} {a1 : Nat} {x2 : Int} {l3 : Option mV} (h1 : isRl a1) (h_1 : Sp X d 94 [mR 1, mI 4] s (fun r s' => ∃ v : Int, r = some (mI v) ∧ Wp X (d + 1) 79 35 [some (mR 5), some (mR a1), some (mI x2), l3] [mI v] s' Q)) : Wp X (d + 1) 79 27 [some (mR 5), some (mR a1), some (mI x2), l3] [] s Q := Wp_step k79 f79_27 (Wp_step k79 f79_28 ⟨kf_5, 1, rf_5_0, Wp_step k79 f79_31 (Wp_step k79 f79_32 ⟨⟨kf_1, Nat.le_of_ble_eq_true rfl⟩, Nat.le_refl _, _, rfl, Sp_E h_1⟩)⟩)
theorem b79_35 {X : (Nat → Int) × Nat} {d : Nat} {s : mSt} {Q : mQ} {a1 : Nat} {x2 : Int} {l3 : Option mV} {xt0 : Int} (h1 : isRl a1) (h_1 : Q (some (mI xt0)) s) (h_2 : xt0 = 0 ∨ xt0 = 1) : Wp X d 79 35 [some (mR 5), some (mR a1), some (mI x2), l3] [mI xt0] s Q := Wp_step k79 f79_35 ⟨⟨rfl, h_2⟩, h_1⟩
theorem b79_36 {X : (Nat → Int) × Nat} {d : Nat} {s : mSt} {Q : mQ} {a1 : Nat} {x2 : Int} {l3 : Option mV} (h1 : isRl a1) (h_1 : Sp X d 90 [mR 1] s (fun r s' => r = none ∧ Wp X (d + 1) 79 43 [some (mR 5), some (mR a1), some (mI x2), l3] [] s' Q)) : Wp X (d + 1) 79 36 [some (mR 5), some (mR a1), some (mI x2), l3] [] s Q := Wp_step k79 f79_36 (Wp_step k79 f79_37 ⟨kf_5, 1, rf_5_0, Wp_step k79 f79_40 ⟨⟨kf_1, Nat.le_of_ble_eq_true rfl⟩, Nat.le_refl _, _, rfl, Sp_V h_1⟩⟩)
theorem b79_43 {X : (Nat → Int) × Nat} {d : Nat} {s : mSt} {Q : mQ} {a1 : Nat} {x2 : Int} {l3 : Option mV} (h1 : isRl a1) (h_1 : Sp X d 82 [mR 5, mR a1] s (fun r s' => ∃ v : Int, r = some (mI v) ∧ Wp X (d + 1) 79 48 [some (mR 5), some (mR a1), some (mI x2), l3] [mI v] s' Q)) : Wp X (d + 1) 79 43 [some (mR 5), some (mR a1), some (mI x2), l3] [] s Q := Wp_step k79 f79_43 (Wp_step k79 f79_44 (Wp_step k79 f79_45 ⟨⟨kf_5, Nat.le_of_ble_eq_true rfl⟩, Nat.le_refl _, _, rfl, Sp_E h_1⟩))
theorem b79_48 {X : (Nat → Int) × Nat} {d : Nat} {s : mSt} {Q : mQ} {a1 : Nat} {x2 : Int} {l3 : Option mV} {xt0 : Int} (h1 : isRl a1) (h_1 : ¬ xt0 = 0 → Wp X d 79 53 [some (mR 5), some (mR a1), some (mI x2), l3] [] s Q) (h_2 : xt0 = 0 → Wp X d 79 51 [some (mR 5), some (mR a1), some (mI x2), l3] [] s Q) : Wp X d 79 48 [some (mR 5), some (mR a1), some (mI x2), l3] [mI xt0] s Q := Wp_step k79 f79_48 ⟨h_1, h_2⟩
theorem b79_51 {X : (Nat → Int) × Nat} {d : Nat} {s : mSt} {Q : mQ} {a1 : Nat} {x2 : Int} {l3 : Option mV} (h1 : isRl a1) (h_1 : Q (some (mI 0)) s) : Wp X d 79 51 [some (mR 5), some (mR a1), some (mI x2), l3] [] s Q := Wp_step k79 f79_51 (Wp_step k79 f79_52 ⟨⟨rfl, (Or.inl rfl)⟩, h_1⟩)
theorem b79_53 {X : (Nat → Int) × Nat} {d : Nat} {s : mSt} {Q : mQ} {a1 : Nat} {x2 : Int} {l3 : Option mV} (h1 : isRl a1) (h_1 : Sp X d 92 [mR 1, mI 15] s (fun r s' => ∃ v : Int, r = some (mI v) ∧ Wp X (d + 1) 79 67 [some (mR 5), some (mR a1), some (mI x2), some (mI (s a1 1))] [mI v] s' Q)) : Wp X (d + 1) 79 53 [some (mR 5), some (mR a1), some (mI x2), l3] [] s Q := Wp_step k79 f79_53 (Wp_step k79 f79_54 ⟨(rl_k h1), Wp_step k79 f79_57 (Wp_step k79 f79_58 (Wp_step k79 f79_59 ⟨kf_5, 1, rf_5_0, Wp_step k79 f79_62 (Wp_step k79 f79_64 ⟨⟨kf_1, Nat.le_of_ble_eq_true rfl⟩, Nat.le_refl _, _, rfl, Sp_E h_1⟩)⟩))⟩)
theorem b79_67 {X : (Nat → Int) × Nat} {d : Nat} {s : mSt} {Q : mQ} {a1 : Nat} {x2 : Int} {x3 : Int} {xt0 : Int} (h1 : isRl a1) (h_1 : xt0 = 0 → Wp X d 79 88 [some (mR 5), some (mR a1), some (mI x2), some (mI x3)] [] s Q) (h_2 : ¬ xt0 = 0 → Wp X d 79 70 [some (mR 5), some (mR a1), some (mI x2), some (mI x3)] [] s Q) : Wp X d 79 67 [some (mR 5), some (mR a1), some (mI x2), some (mI x3)] [mI xt0] s Q := Wp_step k79 f79_67 ⟨h_1, h_2⟩
theorem b79_70 {X : (Nat → Int) × Nat} {d : Nat} {s : mSt} {Q : mQ} {a1 : Nat} {x2 : Int} {x3 : Int} (h1 : isRl a1) (h_1 : Sp X d 90 [mR 1] s (fun r s' => r = none ∧ Wp X (d + 1) 79 77 [some (mR 5), some (mR a1), some (mI x2), some (mI x3)] [] s' Q)) : Wp X (d + 1) 79 70 [some (mR 5), some (mR a1), some (mI x2), some (mI x3)] [] s Q := Wp_step k79 f79_70 (Wp_step k79 f79_71 ⟨kf_5, 1, rf_5_0, Wp_step k79 f79_74 ⟨⟨kf_1, Nat.le_of_ble_eq_true rfl⟩, Nat.le_refl _, _, rfl, Sp_V h_1⟩⟩)
theorem b79_77 {X : (Nat → Int) × Nat} {d : Nat} {s : mSt} {Q : mQ} {a1 : Nat} {x2 : Int} {x3 : Int} (h1 : isRl a1) (h_1 : Sp X d 80 [mR 5, mR a1, mI 0] s (fun r s' => ∃ v : Int, r = some (mI v) ∧ Wp X (d + 1) 79 83 [some (mR 5), some (mR a1), some (mI x2), some (mI x3)] [mI v] s' Q)) : Wp X (d + 1) 79 77 [some (mR 5), some (mR a1), some (mI x2), some (mI x3)] [] s Q := Wp_step k79 f79_77 (Wp_step k79 f79_78 (Wp_step k79 f79_79 (Wp_step k79 f79_80 ⟨⟨kf_5, Nat.le_of_ble_eq_true rfl⟩, Nat.le_refl _, _, rfl, Sp_E h_1⟩)))
theorem b79_83 {X : (Nat → Int) × Nat} {d : Nat} {s : mSt} {Q : mQ} {a1 : Nat} {x2 : Int} {x3 : Int} {xt0 : Int} (h1 : isRl a1) (h_1 : ¬ xt0 = 0 → Wp X d 79 88 [some (mR 5), some (mR a1), some (mI x2), some (mI x3)] [] s Q) (h_2 : xt0 = 0 → Wp X d 79 86 [some (mR 5), some (mR a1), some (mI x2), some (mI x3)] [] s Q) : Wp X d 79 83 [some (mR 5), some (mR a1), some (mI x2), some (mI x3)] [mI xt0] s Q := Wp_step k79 f79_83 ⟨h_1, h_2⟩
theorem b79_86 {X : (Nat → Int) × Nat} {d : Nat} {s : mSt} {Q : mQ} {a1 : Nat} {x2 : Int} {x3 : Int} (h1 : isRl a1) (h_1 : Q (some (mI 0)) s) : Wp X d 79 86 [some (mR 5), some (mR a1), some (mI x2), some (mI x3)] [] s Q := Wp_step k79 f79_86 (Wp_step k79 f79_87 ⟨⟨rfl, (Or.inl rfl)⟩, h_1⟩)
theorem b79_88 {X : (Nat → Int) × Nat} {d : Nat} {s : mSt} {Q : mQ} {a1 : Nat} {x2 : Int} {x3 : Int} (h1 : isRl a1) (h_1 : Sp X d 73 [mR a1, mI x3] s (fun r s' => r = none ∧ Wp X (d + 1) 79 93 [some (mR 5), some (mR a1), some (mI x2), some (mI x3)] [] s' Q)) : Wp X (d + 1) 79 88 [some (mR 5), some (mR a1), some (mI x2), some (mI x3)] [] s Q := Wp_step k79 f79_88 (Wp_step k79 f79_89 (Wp_step k79 f79_90 ⟨⟨(rl_k h1), Nat.le_of_ble_eq_true rfl⟩, Nat.le_refl _, _, rfl, Sp_V h_1⟩))
theorem b79_93 {X : (Nat → Int) × Nat} {d : Nat} {s : mSt} {Q : mQ} {a1 : Nat} {x2 : Int} {x3 : Int} (h1 : isRl a1) (h_1 : Q (some (mI 1)) s) : Wp X d 79 93 [some (mR 5), some (mR a1), some (mI x2), some (mI x3)] [] s Q := Wp_step k79 f79_93 (Wp_step k79 f79_94 ⟨⟨rfl, (Or.inr rfl)⟩, h_1⟩)
theorem e79 {X : (Nat → Int) × Nat} {d : Nat} {s : mSt} {Q : mQ} {a1 : Nat} {x2 : Int} (h : Wp X d 79 0 [some (mR 5), some (mR a1), some (mI x2), none] [] s Q) : Sp X d 79 [mR 5, mR a1, mI x2] s Q := Sp_of (show mCe 79 = 0 by decide +kernel) (by rw [show mML 79 = 4 by decide +kernel]; rfl) (Nat.le_trans (Nat.le_of_ble_eq_true (show Nat.ble (mArgs _).length 4 = true from rfl)) (show 4 ≤ mML 79 by decide +kernel)) h
-- 80 ClashDay$RuleReader.readTest(LClashDay$Rule;I)Z
theorem k80 : mRk 80 = 2 := by decide +kernel
theorem f80_0 : mFetch 80 0 = some (.iconst 0, 1, 0, 0, 0, 0) := by decide +kernel
theorem f80_1 : mFetch 80 1 = some (.istore_n 3, 1, 0, 0, 0, 0) := by decide +kernel
theorem f80_2 : mFetch 80 2 = some (.iconst 0, 1, 0, 0, 0, 0) := by decide +kernel
theorem f80_3 : mFetch 80 3 = some (.istore 4, 2, 0, 0, 0, 0) := by decide +kernel
theorem f80_5 : mFetch 80 5 = some (.iconst 0, 1, 0, 0, 0, 0) := by decide +kernel
theorem f80_6 : mFetch 80 6 = some (.istore 5, 2, 0, 0, 0, 0) := by decide +kernel
theorem f80_8 : mFetch 80 8 = some (.iload 5, 2, 0, 0, 0, 0) := by decide +kernel
theorem f80_10 : mFetch 80 10 = some (.sipush 400, 3, 0, 0, 0, 0) := by decide +kernel
theorem f80_13 : mFetch 80 13 = some (.if_icmp .ge 80, 3, 93, 0, 0, 0) := by decide +kernel
theorem f80_16 : mFetch 80 16 = some (.aload_n 0, 1, 0, 0, 0, 0) := by decide +kernel
theorem f80_17 : mFetch 80 17 = some (.aload_n 1, 1, 0, 0, 0, 0) := by decide +kernel
theorem f80_18 : mFetch 80 18 = some (.iload_n 2, 1, 0, 0, 0, 0) := by decide +kernel
theorem f80_19 : mFetch 80 19 = some (.invokevirtual 64, 3, 81, 0, 3, 6) := by decide +kernel
theorem f80_22 : mFetch 80 22 = some (.ifCond .ne 5, 3, 27, 0, 0, 0) := by decide +kernel
theorem f80_25 : mFetch 80 25 = some (.iconst 0, 1, 0, 0, 0, 0) := by decide +kernel
theorem f80_26 : mFetch 80 26 = some (.ireturn, 1, 0, 0, 0, 0) := by decide +kernel
theorem f80_27 : mFetch 80 27 = some (.iload_n 3, 1, 0, 0, 0, 0) := by decide +kernel
theorem f80_28 : mFetch 80 28 = some (.ifCond .eq 9, 3, 37, 0, 0, 0) := by decide +kernel
theorem f80_31 : mFetch 80 31 = some (.aload_n 1, 1, 0, 0, 0, 0) := by decide +kernel
theorem f80_32 : mFetch 80 32 = some (.ldc 67, 2, 200010, 0, 0, 0) := by decide +kernel
theorem f80_34 : mFetch 80 34 = some (.invokevirtual 68, 3, 72, 0, 2, 5) := by decide +kernel
theorem f80_37 : mFetch 80 37 = some (.aload_n 0, 1, 0, 0, 0, 0) := by decide +kernel
theorem f80_38 : mFetch 80 38 = some (.getfield 9, 3, 6, 0, 2, 1) := by decide +kernel
theorem f80_41 : mFetch 80 41 = some (.bipush 17, 2, 0, 0, 0, 0) := by decide +kernel
theorem f80_43 : mFetch 80 43 = some (.invokevirtual 40, 3, 92, 0, 2, 8) := by decide +kernel
theorem f80_46 : mFetch 80 46 = some (.istore_n 3, 1, 0, 0, 0, 0) := by decide +kernel
theorem f80_47 : mFetch 80 47 = some (.iload_n 3, 1, 0, 0, 0, 0) := by decide +kernel
theorem f80_48 : mFetch 80 48 = some (.ifCond .ne 32, 3, 80, 0, 0, 0) := by decide +kernel
theorem f80_51 : mFetch 80 51 = some (.iload 4, 2, 0, 0, 0, 0) := by decide +kernel
theorem f80_53 : mFetch 80 53 = some (.ifCond .eq 9, 3, 62, 0, 0, 0) := by decide +kernel
theorem f80_56 : mFetch 80 56 = some (.aload_n 1, 1, 0, 0, 0, 0) := by decide +kernel
theorem f80_57 : mFetch 80 57 = some (.ldc 71, 2, 200011, 0, 0, 0) := by decide +kernel
theorem f80_59 : mFetch 80 59 = some (.invokevirtual 68, 3, 72, 0, 2, 5) := by decide +kernel
theorem f80_62 : mFetch 80 62 = some (.aload_n 0, 1, 0, 0, 0, 0) := by decide +kernel
theorem f80_63 : mFetch 80 63 = some (.getfield 9, 3, 6, 0, 2, 1) := by decide +kernel
theorem f80_66 : mFetch 80 66 = some (.bipush 16, 2, 0, 0, 0, 0) := by decide +kernel
theorem f80_68 : mFetch 80 68 = some (.invokevirtual 40, 3, 92, 0, 2, 8) := by decide +kernel
theorem f80_71 : mFetch 80 71 = some (.istore 4, 2, 0, 0, 0, 0) := by decide +kernel
theorem f80_73 : mFetch 80 73 = some (.iload 4, 2, 0, 0, 0, 0) := by decide +kernel
theorem f80_75 : mFetch 80 75 = some (.ifCond .ne 5, 3, 80, 0, 0, 0) := by decide +kernel
theorem f80_78 : mFetch 80 78 = some (.iconst 1, 1, 0, 0, 0, 0) := by decide +kernel
theorem f80_79 : mFetch 80 79 = some (.ireturn, 1, 0, 0, 0, 0) := by decide +kernel
theorem f80_80 : mFetch 80 80 = some (.aload_n 0, 1, 0, 0, 0, 0) := by decide +kernel
theorem f80_81 : mFetch 80 81 = some (.getfield 9, 3, 6, 0, 2, 1) := by decide +kernel
theorem f80_84 : mFetch 80 84 = some (.invokevirtual 47, 3, 90, 0, 1, 8) := by decide +kernel
theorem f80_87 : mFetch 80 87 = some (.iinc 5 1, 3, 0, 0, 0, 0) := by decide +kernel
theorem f80_90 : mFetch 80 90 = some (.goto (-82), 3, 8, 0, 0, 0) := by decide +kernel
theorem f80_93 : mFetch 80 93 = some (.aload_n 0, 1, 0, 0, 0, 0) := by decide +kernel
theorem f80_94 : mFetch 80 94 = some (.getfield 9, 3, 6, 0, 2, 1) := by decide +kernel
theorem f80_97 : mFetch 80 97 = some (.iconst 0, 1, 0, 0, 0, 0) := by decide +kernel
theorem f80_98 : mFetch 80 98 = some (.invokevirtual 44, 3, 94, 0, 2, 8) := by decide +kernel
theorem f80_101 : mFetch 80 101 = some (.ireturn, 1, 0, 0, 0, 0) := by decide +kernel
theorem b80_0 {X : (Nat → Int) × Nat} {d : Nat} {s : mSt} {Q : mQ} {a1 : Nat} {x2 : Int} {l3 : Option mV} {l4 : Option mV} {l5 : Option mV} (h1 : isRl a1) (h_1 : Wp X d 80 8 [some (mR 5), some (mR a1), some (mI x2), some (mI 0), some (mI 0), some (mI 0)] [] s Q) : Wp X d 80 0 [some (mR 5), some (mR a1), some (mI x2), l3, l4, l5] [] s Q := Wp_step k80 f80_0 (Wp_step k80 f80_1 (Wp_step k80 f80_2 (Wp_step k80 f80_3 (Wp_step k80 f80_5 (Wp_step k80 f80_6 (h_1))))))
theorem b80_8 {X : (Nat → Int) × Nat} {d : Nat} {s : mSt} {Q : mQ} {a1 : Nat} {x2 : Int} {x3 : Int} {x4 : Int} {x5 : Int} (h1 : isRl a1) (h_1 : 400 ≤ x5 → Wp X d 80 93 [some (mR 5), some (mR a1), some (mI x2), some (mI x3), some (mI x4), some (mI x5)] [] s Q) (h_2 : ¬ 400 ≤ x5 → Wp X d 80 16 [some (mR 5), some (mR a1), some (mI x2), some (mI x3), some (mI x4), some (mI x5)] [] s Q) : Wp X d 80 8 [some (mR 5), some (mR a1), some (mI x2), some (mI x3), some (mI x4), some (mI x5)] [] s Q := Wp_step k80 f80_8 (Wp_step k80 f80_10 (Wp_step k80 f80_13 ⟨h_1, h_2⟩))
theorem b80_16 {X : (Nat → Int) × Nat} {d : Nat} {s : mSt} {Q : mQ} {a1 : Nat} {x2 : Int} {x3 : Int} {x4 : Int} {x5 : Int} (h1 : isRl a1) (h_1 : Sp X d 81 [mR 5, mR a1, mI x2] s (fun r s' => ∃ v : Int, r = some (mI v) ∧ Wp X (d + 1) 80 22 [some (mR 5), some (mR a1), some (mI x2), some (mI x3), some (mI x4), some (mI x5)] [mI v] s' Q)) : Wp X (d + 1) 80 16 [some (mR 5), some (mR a1), some (mI x2), some (mI x3), some (mI x4), some (mI x5)] [] s Q := Wp_step k80 f80_16 (Wp_step k80 f80_17 (Wp_step k80 f80_18 (Wp_step k80 f80_19 ⟨⟨kf_5, Nat.le_of_ble_eq_true rfl⟩, Nat.le_refl _, _, rfl, Sp_E h_1⟩)))
theorem b80_22 {X : (Nat → Int) × Nat} {d : Nat} {s : mSt} {Q : mQ} {a1 : Nat} {x2 : Int} {x3 : Int} {x4 : Int} {x5 : Int} {xt0 : Int} (h1 : isRl a1) (h_1 : ¬ xt0 = 0 → Wp X d 80 27 [some (mR 5), some (mR a1), some (mI x2), some (mI x3), some (mI x4), some (mI x5)] [] s Q) (h_2 : xt0 = 0 → Wp X d 80 25 [some (mR 5), some (mR a1), some (mI x2), some (mI x3), some (mI x4), some (mI x5)] [] s Q) : Wp X d 80 22 [some (mR 5), some (mR a1), some (mI x2), some (mI x3), some (mI x4), some (mI x5)] [mI xt0] s Q := Wp_step k80 f80_22 ⟨h_1, h_2⟩
theorem b80_25 {X : (Nat → Int) × Nat} {d : Nat} {s : mSt} {Q : mQ} {a1 : Nat} {x2 : Int} {x3 : Int} {x4 : Int} {x5 : Int} (h1 : isRl a1) (h_1 : Q (some (mI 0)) s) : Wp X d 80 25 [some (mR 5), some (mR a1), some (mI x2), some (mI x3), some (mI x4), some (mI x5)] [] s Q := Wp_step k80 f80_25 (Wp_step k80 f80_26 ⟨⟨rfl, (Or.inl rfl)⟩, h_1⟩)
theorem b80_27 {X : (Nat → Int) × Nat} {d : Nat} {s : mSt} {Q : mQ} {a1 : Nat} {x2 : Int} {x3 : Int} {x4 : Int} {x5 : Int} (h1 : isRl a1) (h_1 : x3 = 0 → Wp X d 80 37 [some (mR 5), some (mR a1), some (mI x2), some (mI x3), some (mI x4), some (mI x5)] [] s Q) (h_2 : ¬ x3 = 0 → Wp X d 80 31 [some (mR 5), some (mR a1), some (mI x2), some (mI x3), some (mI x4), some (mI x5)] [] s Q) : Wp X d 80 27 [some (mR 5), some (mR a1), some (mI x2), some (mI x3), some (mI x4), some (mI x5)] [] s Q := Wp_step k80 f80_27 (Wp_step k80 f80_28 ⟨h_1, h_2⟩)
theorem b80_31 {X : (Nat → Int) × Nat} {d : Nat} {s : mSt} {Q : mQ} {a1 : Nat} {x2 : Int} {x3 : Int} {x4 : Int} {x5 : Int} (h1 : isRl a1) (h_1 : Sp X d 72 [mR a1, mI 200010] s (fun r s' => r = none ∧ Wp X (d + 1) 80 37 [some (mR 5), some (mR a1), some (mI x2), some (mI x3), some (mI x4), some (mI x5)] [] s' Q)) : Wp X (d + 1) 80 31 [some (mR 5), some (mR a1), some (mI x2), some (mI x3), some (mI x4), some (mI x5)] [] s Q := Wp_step k80 f80_31 (Wp_step k80 f80_32 (Wp_step k80 f80_34 ⟨⟨(rl_k h1), Nat.le_of_ble_eq_true rfl⟩, Nat.le_refl _, _, rfl, Sp_V h_1⟩))
theorem b80_37 {X : (Nat → Int) × Nat} {d : Nat} {s : mSt} {Q : mQ} {a1 : Nat} {x2 : Int} {x3 : Int} {x4 : Int} {x5 : Int} (h1 : isRl a1) (h_1 : Sp X d 92 [mR 1, mI 17] s (fun r s' => ∃ v : Int, r = some (mI v) ∧ Wp X (d + 1) 80 46 [some (mR 5), some (mR a1), some (mI x2), some (mI x3), some (mI x4), some (mI x5)] [mI v] s' Q)) : Wp X (d + 1) 80 37 [some (mR 5), some (mR a1), some (mI x2), some (mI x3), some (mI x4), some (mI x5)] [] s Q := Wp_step k80 f80_37 (Wp_step k80 f80_38 ⟨kf_5, 1, rf_5_0, Wp_step k80 f80_41 (Wp_step k80 f80_43 ⟨⟨kf_1, Nat.le_of_ble_eq_true rfl⟩, Nat.le_refl _, _, rfl, Sp_E h_1⟩)⟩)
theorem b80_46 {X : (Nat → Int) × Nat} {d : Nat} {s : mSt} {Q : mQ} {a1 : Nat} {x2 : Int} {x3 : Int} {x4 : Int} {x5 : Int} {xt0 : Int} (h1 : isRl a1) (h_1 : ¬ xt0 = 0 → Wp X d 80 80 [some (mR 5), some (mR a1), some (mI x2), some (mI xt0), some (mI x4), some (mI x5)] [] s Q) (h_2 : xt0 = 0 → Wp X d 80 51 [some (mR 5), some (mR a1), some (mI x2), some (mI xt0), some (mI x4), some (mI x5)] [] s Q) : Wp X d 80 46 [some (mR 5), some (mR a1), some (mI x2), some (mI x3), some (mI x4), some (mI x5)] [mI xt0] s Q := Wp_step k80 f80_46 (Wp_step k80 f80_47 (Wp_step k80 f80_48 ⟨h_1, h_2⟩))
theorem b80_51 {X : (Nat → Int) × Nat} {d : Nat} {s : mSt} {Q : mQ} {a1 : Nat} {x2 : Int} {x3 : Int} {x4 : Int} {x5 : Int} (h1 : isRl a1) (h_1 : x4 = 0 → Wp X d 80 62 [some (mR 5), some (mR a1), some (mI x2), some (mI x3), some (mI x4), some (mI x5)] [] s Q) (h_2 : ¬ x4 = 0 → Wp X d 80 56 [some (mR 5), some (mR a1), some (mI x2), some (mI x3), some (mI x4), some (mI x5)] [] s Q) : Wp X d 80 51 [some (mR 5), some (mR a1), some (mI x2), some (mI x3), some (mI x4), some (mI x5)] [] s Q := Wp_step k80 f80_51 (Wp_step k80 f80_53 ⟨h_1, h_2⟩)
theorem b80_56 {X : (Nat → Int) × Nat} {d : Nat} {s : mSt} {Q : mQ} {a1 : Nat} {x2 : Int} {x3 : Int} {x4 : Int} {x5 : Int} (h1 : isRl a1) (h_1 : Sp X d 72 [mR a1, mI 200011] s (fun r s' => r = none ∧ Wp X (d + 1) 80 62 [some (mR 5), some (mR a1), some (mI x2), some (mI x3), some (mI x4), some (mI x5)] [] s' Q)) : Wp X (d + 1) 80 56 [some (mR 5), some (mR a1), some (mI x2), some (mI x3), some (mI x4), some (mI x5)] [] s Q := Wp_step k80 f80_56 (Wp_step k80 f80_57 (Wp_step k80 f80_59 ⟨⟨(rl_k h1), Nat.le_of_ble_eq_true rfl⟩, Nat.le_refl _, _, rfl, Sp_V h_1⟩))
theorem b80_62 {X : (Nat → Int) × Nat} {d : Nat} {s : mSt} {Q : mQ} {a1 : Nat} {x2 : Int} {x3 : Int} {x4 : Int} {x5 : Int} (h1 : isRl a1) (h_1 : Sp X d 92 [mR 1, mI 16] s (fun r s' => ∃ v : Int, r = some (mI v) ∧ Wp X (d + 1) 80 71 [some (mR 5), some (mR a1), some (mI x2), some (mI x3), some (mI x4), some (mI x5)] [mI v] s' Q)) : Wp X (d + 1) 80 62 [some (mR 5), some (mR a1), some (mI x2), some (mI x3), some (mI x4), some (mI x5)] [] s Q := Wp_step k80 f80_62 (Wp_step k80 f80_63 ⟨kf_5, 1, rf_5_0, Wp_step k80 f80_66 (Wp_step k80 f80_68 ⟨⟨kf_1, Nat.le_of_ble_eq_true rfl⟩, Nat.le_refl _, _, rfl, Sp_E h_1⟩)⟩)
theorem b80_71 {X : (Nat → Int) × Nat} {d : Nat} {s : mSt} {Q : mQ} {a1 : Nat} {x2 : Int} {x3 : Int} {x4 : Int} {x5 : Int} {xt0 : Int} (h1 : isRl a1) (h_1 : ¬ xt0 = 0 → Wp X d 80 80 [some (mR 5), some (mR a1), some (mI x2), some (mI x3), some (mI xt0), some (mI x5)] [] s Q) (h_2 : xt0 = 0 → Wp X d 80 78 [some (mR 5), some (mR a1), some (mI x2), some (mI x3), some (mI xt0), some (mI x5)] [] s Q) : Wp X d 80 71 [some (mR 5), some (mR a1), some (mI x2), some (mI x3), some (mI x4), some (mI x5)] [mI xt0] s Q := Wp_step k80 f80_71 (Wp_step k80 f80_73 (Wp_step k80 f80_75 ⟨h_1, h_2⟩))
theorem b80_78 {X : (Nat → Int) × Nat} {d : Nat} {s : mSt} {Q : mQ} {a1 : Nat} {x2 : Int} {x3 : Int} {x4 : Int} {x5 : Int} (h1 : isRl a1) (h_1 : Q (some (mI 1)) s) : Wp X d 80 78 [some (mR 5), some (mR a1), some (mI x2), some (mI x3), some (mI x4), some (mI x5)] [] s Q := Wp_step k80 f80_78 (Wp_step k80 f80_79 ⟨⟨rfl, (Or.inr rfl)⟩, h_1⟩)
theorem b80_80 {X : (Nat → Int) × Nat} {d : Nat} {s : mSt} {Q : mQ} {a1 : Nat} {x2 : Int} {x3 : Int} {x4 : Int} {x5 : Int} (h1 : isRl a1) (h_1 : Sp X d 90 [mR 1] s (fun r s' => r = none ∧ Wp X (d + 1) 80 87 [some (mR 5), some (mR a1), some (mI x2), some (mI x3), some (mI x4), some (mI x5)] [] s' Q)) : Wp X (d + 1) 80 80 [some (mR 5), some (mR a1), some (mI x2), some (mI x3), some (mI x4), some (mI x5)] [] s Q := Wp_step k80 f80_80 (Wp_step k80 f80_81 ⟨kf_5, 1, rf_5_0, Wp_step k80 f80_84 ⟨⟨kf_1, Nat.le_of_ble_eq_true rfl⟩, Nat.le_refl _, _, rfl, Sp_V h_1⟩⟩)
theorem b80_87 {X : (Nat → Int) × Nat} {d : Nat} {s : mSt} {Q : mQ} {a1 : Nat} {x2 : Int} {x3 : Int} {x4 : Int} {x5 : Int} (h1 : isRl a1) (h_1 : Wp X d 80 8 [some (mR 5), some (mR a1), some (mI x2), some (mI x3), some (mI x4), some (mI (w32 (x5 + 1)))] [] s Q) : Wp X d 80 87 [some (mR 5), some (mR a1), some (mI x2), some (mI x3), some (mI x4), some (mI x5)] [] s Q := Wp_step k80 f80_87 (Wp_step k80 f80_90 (h_1))
theorem b80_93 {X : (Nat → Int) × Nat} {d : Nat} {s : mSt} {Q : mQ} {a1 : Nat} {x2 : Int} {x3 : Int} {x4 : Int} {x5 : Int} (h1 : isRl a1) (h_1 : Sp X d 94 [mR 1, mI 0] s (fun r s' => ∃ v : Int, r = some (mI v) ∧ Wp X (d + 1) 80 101 [some (mR 5), some (mR a1), some (mI x2), some (mI x3), some (mI x4), some (mI x5)] [mI v] s' Q)) : Wp X (d + 1) 80 93 [some (mR 5), some (mR a1), some (mI x2), some (mI x3), some (mI x4), some (mI x5)] [] s Q := Wp_step k80 f80_93 (Wp_step k80 f80_94 ⟨kf_5, 1, rf_5_0, Wp_step k80 f80_97 (Wp_step k80 f80_98 ⟨⟨kf_1, Nat.le_of_ble_eq_true rfl⟩, Nat.le_refl _, _, rfl, Sp_E h_1⟩)⟩)
theorem b80_101 {X : (Nat → Int) × Nat} {d : Nat} {s : mSt} {Q : mQ} {a1 : Nat} {x2 : Int} {x3 : Int} {x4 : Int} {x5 : Int} {xt0 : Int} (h1 : isRl a1) (h_1 : Q (some (mI xt0)) s) (h_2 : xt0 = 0 ∨ xt0 = 1) : Wp X d 80 101 [some (mR 5), some (mR a1), some (mI x2), some (mI x3), some (mI x4), some (mI x5)] [mI xt0] s Q := Wp_step k80 f80_101 ⟨⟨rfl, h_2⟩, h_1⟩
theorem e80 {X : (Nat → Int) × Nat} {d : Nat} {s : mSt} {Q : mQ} {a1 : Nat} {x2 : Int} (h : Wp X d 80 0 [some (mR 5), some (mR a1), some (mI x2), none, none, none] [] s Q) : Sp X d 80 [mR 5, mR a1, mI x2] s Q := Sp_of (show mCe 80 = 0 by decide +kernel) (by rw [show mML 80 = 6 by decide +kernel]; rfl) (Nat.le_trans (Nat.le_of_ble_eq_true (show Nat.ble (mArgs _).length 6 = true from rfl)) (show 6 ≤ mML 80 by decide +kernel)) h
-- 81 ClashDay$RuleReader.readFact(LClashDay$Rule;I)Z
theorem k81 : mRk 81 = 2 := by decide +kernel
theorem f81_0 : mFetch 81 0 = some (.aload_n 0, 1, 0, 0, 0, 0) := by decide +kernel
theorem f81_1 : mFetch 81 1 = some (.getfield 9, 3, 6, 0, 2, 1) := by decide +kernel
theorem f81_4 : mFetch 81 4 = some (.bipush 18, 2, 0, 0, 0, 0) := by decide +kernel
theorem f81_6 : mFetch 81 6 = some (.invokevirtual 40, 3, 92, 0, 2, 8) := by decide +kernel
theorem f81_9 : mFetch 81 9 = some (.istore_n 3, 1, 0, 0, 0, 0) := by decide +kernel
theorem f81_10 : mFetch 81 10 = some (.aload_n 0, 1, 0, 0, 0, 0) := by decide +kernel
theorem f81_11 : mFetch 81 11 = some (.getfield 9, 3, 6, 0, 2, 1) := by decide +kernel
theorem f81_14 : mFetch 81 14 = some (.getfield 72, 3, 8, 2, 0, 0) := by decide +kernel
theorem f81_17 : mFetch 81 17 = some (.bipush 91, 2, 0, 0, 0, 0) := by decide +kernel
theorem f81_19 : mFetch 81 19 = some (.if_icmp .ne 7, 3, 26, 0, 0, 0) := by decide +kernel
theorem f81_22 : mFetch 81 22 = some (.iconst 1, 1, 0, 0, 0, 0) := by decide +kernel
theorem f81_23 : mFetch 81 23 = some (.goto 4, 3, 27, 0, 0, 0) := by decide +kernel
theorem f81_26 : mFetch 81 26 = some (.iconst 0, 1, 0, 0, 0, 0) := by decide +kernel
theorem f81_27 : mFetch 81 27 = some (.istore 4, 2, 0, 0, 0, 0) := by decide +kernel
theorem f81_29 : mFetch 81 29 = some (.iload_n 3, 1, 0, 0, 0, 0) := by decide +kernel
theorem f81_30 : mFetch 81 30 = some (.ifCond .ne 8, 3, 38, 0, 0, 0) := by decide +kernel
theorem f81_33 : mFetch 81 33 = some (.iload 4, 2, 0, 0, 0, 0) := by decide +kernel
theorem f81_35 : mFetch 81 35 = some (.ifCond .eq 18, 3, 53, 0, 0, 0) := by decide +kernel
theorem f81_38 : mFetch 81 38 = some (.iload_n 2, 1, 0, 0, 0, 0) := by decide +kernel
theorem f81_39 : mFetch 81 39 = some (.bipush 10, 2, 0, 0, 0, 0) := by decide +kernel
theorem f81_41 : mFetch 81 41 = some (.if_icmp .lt 12, 3, 53, 0, 0, 0) := by decide +kernel
theorem f81_44 : mFetch 81 44 = some (.aload_n 0, 1, 0, 0, 0, 0) := by decide +kernel
theorem f81_45 : mFetch 81 45 = some (.getfield 9, 3, 6, 0, 2, 1) := by decide +kernel
theorem f81_48 : mFetch 81 48 = some (.iconst 2, 1, 0, 0, 0, 0) := by decide +kernel
theorem f81_49 : mFetch 81 49 = some (.invokevirtual 44, 3, 94, 0, 2, 8) := by decide +kernel
theorem f81_52 : mFetch 81 52 = some (.ireturn, 1, 0, 0, 0, 0) := by decide +kernel
theorem f81_53 : mFetch 81 53 = some (.iload_n 3, 1, 0, 0, 0, 0) := by decide +kernel
theorem f81_54 : mFetch 81 54 = some (.ifCond .eq 31, 3, 85, 0, 0, 0) := by decide +kernel
theorem f81_57 : mFetch 81 57 = some (.aload_n 0, 1, 0, 0, 0, 0) := by decide +kernel
theorem f81_58 : mFetch 81 58 = some (.getfield 9, 3, 6, 0, 2, 1) := by decide +kernel
theorem f81_61 : mFetch 81 61 = some (.invokevirtual 47, 3, 90, 0, 1, 8) := by decide +kernel
theorem f81_64 : mFetch 81 64 = some (.aload_n 0, 1, 0, 0, 0, 0) := by decide +kernel
theorem f81_65 : mFetch 81 65 = some (.aload_n 1, 1, 0, 0, 0, 0) := by decide +kernel
theorem f81_66 : mFetch 81 66 = some (.iload_n 2, 1, 0, 0, 0, 0) := by decide +kernel
theorem f81_67 : mFetch 81 67 = some (.iconst 1, 1, 0, 0, 0, 0) := by decide +kernel
theorem f81_68 : mFetch 81 68 = some (.iadd, 1, 0, 0, 0, 0) := by decide +kernel
theorem f81_69 : mFetch 81 69 = some (.invokevirtual 64, 3, 81, 0, 3, 6) := by decide +kernel
theorem f81_72 : mFetch 81 72 = some (.ifCond .ne 5, 3, 77, 0, 0, 0) := by decide +kernel
theorem f81_75 : mFetch 81 75 = some (.iconst 0, 1, 0, 0, 0, 0) := by decide +kernel
theorem f81_76 : mFetch 81 76 = some (.ireturn, 1, 0, 0, 0, 0) := by decide +kernel
theorem f81_77 : mFetch 81 77 = some (.aload_n 1, 1, 0, 0, 0, 0) := by decide +kernel
theorem f81_78 : mFetch 81 78 = some (.ldc 75, 2, 200012, 0, 0, 0) := by decide +kernel
theorem f81_80 : mFetch 81 80 = some (.invokevirtual 68, 3, 72, 0, 2, 5) := by decide +kernel
theorem f81_83 : mFetch 81 83 = some (.iconst 1, 1, 0, 0, 0, 0) := by decide +kernel
theorem f81_84 : mFetch 81 84 = some (.ireturn, 1, 0, 0, 0, 0) := by decide +kernel
theorem f81_85 : mFetch 81 85 = some (.iload 4, 2, 0, 0, 0, 0) := by decide +kernel
theorem f81_87 : mFetch 81 87 = some (.ifCond .eq 53, 3, 140, 0, 0, 0) := by decide +kernel
theorem f81_90 : mFetch 81 90 = some (.aload_n 0, 1, 0, 0, 0, 0) := by decide +kernel
theorem f81_91 : mFetch 81 91 = some (.getfield 9, 3, 6, 0, 2, 1) := by decide +kernel
theorem f81_94 : mFetch 81 94 = some (.invokevirtual 47, 3, 90, 0, 1, 8) := by decide +kernel
theorem f81_97 : mFetch 81 97 = some (.aload_n 0, 1, 0, 0, 0, 0) := by decide +kernel
theorem f81_98 : mFetch 81 98 = some (.aload_n 1, 1, 0, 0, 0, 0) := by decide +kernel
theorem f81_99 : mFetch 81 99 = some (.iload_n 2, 1, 0, 0, 0, 0) := by decide +kernel
theorem f81_100 : mFetch 81 100 = some (.iconst 1, 1, 0, 0, 0, 0) := by decide +kernel
theorem f81_101 : mFetch 81 101 = some (.iadd, 1, 0, 0, 0, 0) := by decide +kernel
theorem f81_102 : mFetch 81 102 = some (.invokevirtual 57, 3, 80, 0, 3, 6) := by decide +kernel
theorem f81_105 : mFetch 81 105 = some (.ifCond .ne 5, 3, 110, 0, 0, 0) := by decide +kernel
theorem f81_108 : mFetch 81 108 = some (.iconst 0, 1, 0, 0, 0, 0) := by decide +kernel
theorem f81_109 : mFetch 81 109 = some (.ireturn, 1, 0, 0, 0, 0) := by decide +kernel
theorem f81_110 : mFetch 81 110 = some (.aload_n 0, 1, 0, 0, 0, 0) := by decide +kernel
theorem f81_111 : mFetch 81 111 = some (.getfield 9, 3, 6, 0, 2, 1) := by decide +kernel
theorem f81_114 : mFetch 81 114 = some (.getfield 72, 3, 8, 2, 0, 0) := by decide +kernel
theorem f81_117 : mFetch 81 117 = some (.bipush 93, 2, 0, 0, 0, 0) := by decide +kernel
theorem f81_119 : mFetch 81 119 = some (.if_icmp .eq 12, 3, 131, 0, 0, 0) := by decide +kernel
theorem f81_122 : mFetch 81 122 = some (.aload_n 0, 1, 0, 0, 0, 0) := by decide +kernel
theorem f81_123 : mFetch 81 123 = some (.getfield 9, 3, 6, 0, 2, 1) := by decide +kernel
theorem f81_126 : mFetch 81 126 = some (.iconst 0, 1, 0, 0, 0, 0) := by decide +kernel
theorem f81_127 : mFetch 81 127 = some (.invokevirtual 44, 3, 94, 0, 2, 8) := by decide +kernel
theorem f81_130 : mFetch 81 130 = some (.ireturn, 1, 0, 0, 0, 0) := by decide +kernel
theorem f81_131 : mFetch 81 131 = some (.aload_n 0, 1, 0, 0, 0, 0) := by decide +kernel
theorem f81_132 : mFetch 81 132 = some (.getfield 9, 3, 6, 0, 2, 1) := by decide +kernel
theorem f81_135 : mFetch 81 135 = some (.invokevirtual 47, 3, 90, 0, 1, 8) := by decide +kernel
theorem f81_138 : mFetch 81 138 = some (.iconst 1, 1, 0, 0, 0, 0) := by decide +kernel
theorem f81_139 : mFetch 81 139 = some (.ireturn, 1, 0, 0, 0, 0) := by decide +kernel
theorem f81_140 : mFetch 81 140 = some (.aload_n 0, 1, 0, 0, 0, 0) := by decide +kernel
theorem f81_141 : mFetch 81 141 = some (.aload_n 1, 1, 0, 0, 0, 0) := by decide +kernel
theorem f81_142 : mFetch 81 142 = some (.invokevirtual 50, 3, 82, 0, 2, 6) := by decide +kernel
theorem f81_145 : mFetch 81 145 = some (.ifCond .ne 5, 3, 150, 0, 0, 0) := by decide +kernel
theorem f81_148 : mFetch 81 148 = some (.iconst 0, 1, 0, 0, 0, 0) := by decide +kernel
theorem f81_149 : mFetch 81 149 = some (.ireturn, 1, 0, 0, 0, 0) := by decide +kernel
theorem f81_150 : mFetch 81 150 = some (.aload_n 0, 1, 0, 0, 0, 0) := by decide +kernel
theorem f81_151 : mFetch 81 151 = some (.getfield 9, 3, 6, 0, 2, 1) := by decide +kernel
theorem f81_154 : mFetch 81 154 = some (.getfield 72, 3, 8, 2, 0, 0) := by decide +kernel
theorem f81_157 : mFetch 81 157 = some (.invokestatic 76, 3, 68, 0, 1, 99) := by decide +kernel
theorem f81_160 : mFetch 81 160 = some (.istore 5, 2, 0, 0, 0, 0) := by decide +kernel
theorem f81_162 : mFetch 81 162 = some (.iload 5, 2, 0, 0, 0, 0) := by decide +kernel
theorem f81_164 : mFetch 81 164 = some (.iconst (-1), 1, 0, 0, 0, 0) := by decide +kernel
theorem f81_165 : mFetch 81 165 = some (.if_icmp .ne 12, 3, 177, 0, 0, 0) := by decide +kernel
theorem f81_168 : mFetch 81 168 = some (.aload_n 0, 1, 0, 0, 0, 0) := by decide +kernel
theorem f81_169 : mFetch 81 169 = some (.getfield 9, 3, 6, 0, 2, 1) := by decide +kernel
theorem f81_172 : mFetch 81 172 = some (.iconst 0, 1, 0, 0, 0, 0) := by decide +kernel
theorem f81_173 : mFetch 81 173 = some (.invokevirtual 44, 3, 94, 0, 2, 8) := by decide +kernel
theorem f81_176 : mFetch 81 176 = some (.ireturn, 1, 0, 0, 0, 0) := by decide +kernel
theorem f81_177 : mFetch 81 177 = some (.aload_n 0, 1, 0, 0, 0, 0) := by decide +kernel
theorem f81_178 : mFetch 81 178 = some (.getfield 25, 3, 6, 1, 0, 1) := by decide +kernel
theorem f81_181 : mFetch 81 181 = some (.bipush 60, 2, 0, 0, 0, 0) := by decide +kernel
theorem f81_183 : mFetch 81 183 = some (.if_icmp .lt 12, 3, 195, 0, 0, 0) := by decide +kernel
theorem f81_186 : mFetch 81 186 = some (.aload_n 0, 1, 0, 0, 0, 0) := by decide +kernel
theorem f81_187 : mFetch 81 187 = some (.getfield 9, 3, 6, 0, 2, 1) := by decide +kernel
theorem f81_190 : mFetch 81 190 = some (.iconst 3, 1, 0, 0, 0, 0) := by decide +kernel
theorem f81_191 : mFetch 81 191 = some (.invokevirtual 44, 3, 94, 0, 2, 8) := by decide +kernel
theorem f81_194 : mFetch 81 194 = some (.ireturn, 1, 0, 0, 0, 0) := by decide +kernel
theorem f81_195 : mFetch 81 195 = some (.aload_n 0, 1, 0, 0, 0, 0) := by decide +kernel
theorem f81_196 : mFetch 81 196 = some (.dup, 1, 0, 0, 0, 0) := by decide +kernel
theorem f81_197 : mFetch 81 197 = some (.getfield 25, 3, 6, 1, 0, 1) := by decide +kernel
theorem f81_200 : mFetch 81 200 = some (.iconst 1, 1, 0, 0, 0, 0) := by decide +kernel
theorem f81_201 : mFetch 81 201 = some (.iadd, 1, 0, 0, 0, 0) := by decide +kernel
theorem f81_202 : mFetch 81 202 = some (.putfield 25, 3, 6, 1, 0, 1) := by decide +kernel
theorem f81_205 : mFetch 81 205 = some (.aload_n 0, 1, 0, 0, 0, 0) := by decide +kernel
theorem f81_206 : mFetch 81 206 = some (.getfield 9, 3, 6, 0, 2, 1) := by decide +kernel
theorem f81_209 : mFetch 81 209 = some (.invokevirtual 47, 3, 90, 0, 1, 8) := by decide +kernel
theorem f81_212 : mFetch 81 212 = some (.aload_n 0, 1, 0, 0, 0, 0) := by decide +kernel
theorem f81_213 : mFetch 81 213 = some (.aload_n 1, 1, 0, 0, 0, 0) := by decide +kernel
theorem f81_214 : mFetch 81 214 = some (.invokevirtual 50, 3, 82, 0, 2, 6) := by decide +kernel
theorem f81_217 : mFetch 81 217 = some (.ifCond .ne 5, 3, 222, 0, 0, 0) := by decide +kernel
theorem f81_220 : mFetch 81 220 = some (.iconst 0, 1, 0, 0, 0, 0) := by decide +kernel
theorem f81_221 : mFetch 81 221 = some (.ireturn, 1, 0, 0, 0, 0) := by decide +kernel
theorem f81_222 : mFetch 81 222 = some (.aload_n 1, 1, 0, 0, 0, 0) := by decide +kernel
theorem f81_223 : mFetch 81 223 = some (.iload 5, 2, 0, 0, 0, 0) := by decide +kernel
theorem f81_225 : mFetch 81 225 = some (.invokevirtual 68, 3, 72, 0, 2, 5) := by decide +kernel
theorem f81_228 : mFetch 81 228 = some (.iconst 1, 1, 0, 0, 0, 0) := by decide +kernel
theorem f81_229 : mFetch 81 229 = some (.ireturn, 1, 0, 0, 0, 0) := by decide +kernel
theorem b81_0 {X : (Nat → Int) × Nat} {d : Nat} {s : mSt} {Q : mQ} {a1 : Nat} {x2 : Int} {l3 : Option mV} {l4 : Option mV} {l5 : Option mV} (h1 : isRl a1) (h_1 : Sp X d 92 [mR 1, mI 18] s (fun r s' => ∃ v : Int, r = some (mI v) ∧ Wp X (d + 1) 81 9 [some (mR 5), some (mR a1), some (mI x2), l3, l4, l5] [mI v] s' Q)) : Wp X (d + 1) 81 0 [some (mR 5), some (mR a1), some (mI x2), l3, l4, l5] [] s Q := Wp_step k81 f81_0 (Wp_step k81 f81_1 ⟨kf_5, 1, rf_5_0, Wp_step k81 f81_4 (Wp_step k81 f81_6 ⟨⟨kf_1, Nat.le_of_ble_eq_true rfl⟩, Nat.le_refl _, _, rfl, Sp_E h_1⟩)⟩)
theorem b81_9 {X : (Nat → Int) × Nat} {d : Nat} {s : mSt} {Q : mQ} {a1 : Nat} {x2 : Int} {l3 : Option mV} {l4 : Option mV} {l5 : Option mV} {xt0 : Int} (h1 : isRl a1) (h_1 : ¬ (s 1 2) = 91 → Wp X d 81 26 [some (mR 5), some (mR a1), some (mI x2), some (mI xt0), l4, l5] [] s Q) (h_2 : (s 1 2) = 91 → Wp X d 81 22 [some (mR 5), some (mR a1), some (mI x2), some (mI xt0), l4, l5] [] s Q) : Wp X d 81 9 [some (mR 5), some (mR a1), some (mI x2), l3, l4, l5] [mI xt0] s Q := Wp_step k81 f81_9 (Wp_step k81 f81_10 (Wp_step k81 f81_11 ⟨kf_5, 1, rf_5_0, Wp_step k81 f81_14 ⟨kf_1, Wp_step k81 f81_17 (Wp_step k81 f81_19 ⟨h_1, h_2⟩)⟩⟩))
theorem b81_22 {X : (Nat → Int) × Nat} {d : Nat} {s : mSt} {Q : mQ} {a1 : Nat} {x2 : Int} {x3 : Int} {l4 : Option mV} {l5 : Option mV} (h1 : isRl a1) (h_1 : Wp X d 81 27 [some (mR 5), some (mR a1), some (mI x2), some (mI x3), l4, l5] [mI 1] s Q) : Wp X d 81 22 [some (mR 5), some (mR a1), some (mI x2), some (mI x3), l4, l5] [] s Q := Wp_step k81 f81_22 (Wp_step k81 f81_23 (h_1))
theorem b81_26 {X : (Nat → Int) × Nat} {d : Nat} {s : mSt} {Q : mQ} {a1 : Nat} {x2 : Int} {x3 : Int} {l4 : Option mV} {l5 : Option mV} (h1 : isRl a1) (h_1 : Wp X d 81 27 [some (mR 5), some (mR a1), some (mI x2), some (mI x3), l4, l5] [mI 0] s Q) : Wp X d 81 26 [some (mR 5), some (mR a1), some (mI x2), some (mI x3), l4, l5] [] s Q := Wp_step k81 f81_26 (h_1)
theorem b81_27 {X : (Nat → Int) × Nat} {d : Nat} {s : mSt} {Q : mQ} {a1 : Nat} {x2 : Int} {x3 : Int} {l4 : Option mV} {l5 : Option mV} {xt0 : Int} (h1 : isRl a1) (h_1 : ¬ x3 = 0 → Wp X d 81 38 [some (mR 5), some (mR a1), some (mI x2), some (mI x3), some (mI xt0), l5] [] s Q) (h_2 : x3 = 0 → Wp X d 81 33 [some (mR 5), some (mR a1), some (mI x2), some (mI x3), some (mI xt0), l5] [] s Q) : Wp X d 81 27 [some (mR 5), some (mR a1), some (mI x2), some (mI x3), l4, l5] [mI xt0] s Q := Wp_step k81 f81_27 (Wp_step k81 f81_29 (Wp_step k81 f81_30 ⟨h_1, h_2⟩))
theorem b81_33 {X : (Nat → Int) × Nat} {d : Nat} {s : mSt} {Q : mQ} {a1 : Nat} {x2 : Int} {x3 : Int} {x4 : Int} {l5 : Option mV} (h1 : isRl a1) (h_1 : x4 = 0 → Wp X d 81 53 [some (mR 5), some (mR a1), some (mI x2), some (mI x3), some (mI x4), l5] [] s Q) (h_2 : ¬ x4 = 0 → Wp X d 81 38 [some (mR 5), some (mR a1), some (mI x2), some (mI x3), some (mI x4), l5] [] s Q) : Wp X d 81 33 [some (mR 5), some (mR a1), some (mI x2), some (mI x3), some (mI x4), l5] [] s Q := Wp_step k81 f81_33 (Wp_step k81 f81_35 ⟨h_1, h_2⟩)
theorem b81_38 {X : (Nat → Int) × Nat} {d : Nat} {s : mSt} {Q : mQ} {a1 : Nat} {x2 : Int} {x3 : Int} {x4 : Int} {l5 : Option mV} (h1 : isRl a1) (h_1 : x2 < 10 → Wp X d 81 53 [some (mR 5), some (mR a1), some (mI x2), some (mI x3), some (mI x4), l5] [] s Q) (h_2 : ¬ x2 < 10 → Wp X d 81 44 [some (mR 5), some (mR a1), some (mI x2), some (mI x3), some (mI x4), l5] [] s Q) : Wp X d 81 38 [some (mR 5), some (mR a1), some (mI x2), some (mI x3), some (mI x4), l5] [] s Q := Wp_step k81 f81_38 (Wp_step k81 f81_39 (Wp_step k81 f81_41 ⟨h_1, h_2⟩))
theorem b81_44 {X : (Nat → Int) × Nat} {d : Nat} {s : mSt} {Q : mQ} {a1 : Nat} {x2 : Int} {x3 : Int} {x4 : Int} {l5 : Option mV} (h1 : isRl a1) (h_1 : Sp X d 94 [mR 1, mI 2] s (fun r s' => ∃ v : Int, r = some (mI v) ∧ Wp X (d + 1) 81 52 [some (mR 5), some (mR a1), some (mI x2), some (mI x3), some (mI x4), l5] [mI v] s' Q)) : Wp X (d + 1) 81 44 [some (mR 5), some (mR a1), some (mI x2), some (mI x3), some (mI x4), l5] [] s Q := Wp_step k81 f81_44 (Wp_step k81 f81_45 ⟨kf_5, 1, rf_5_0, Wp_step k81 f81_48 (Wp_step k81 f81_49 ⟨⟨kf_1, Nat.le_of_ble_eq_true rfl⟩, Nat.le_refl _, _, rfl, Sp_E h_1⟩)⟩)
theorem b81_52 {X : (Nat → Int) × Nat} {d : Nat} {s : mSt} {Q : mQ} {a1 : Nat} {x2 : Int} {x3 : Int} {x4 : Int} {l5 : Option mV} {xt0 : Int} (h1 : isRl a1) (h_1 : Q (some (mI xt0)) s) (h_2 : xt0 = 0 ∨ xt0 = 1) : Wp X d 81 52 [some (mR 5), some (mR a1), some (mI x2), some (mI x3), some (mI x4), l5] [mI xt0] s Q := Wp_step k81 f81_52 ⟨⟨rfl, h_2⟩, h_1⟩
theorem b81_53 {X : (Nat → Int) × Nat} {d : Nat} {s : mSt} {Q : mQ} {a1 : Nat} {x2 : Int} {x3 : Int} {x4 : Int} {l5 : Option mV} (h1 : isRl a1) (h_1 : x3 = 0 → Wp X d 81 85 [some (mR 5), some (mR a1), some (mI x2), some (mI x3), some (mI x4), l5] [] s Q) (h_2 : ¬ x3 = 0 → Wp X d 81 57 [some (mR 5), some (mR a1), some (mI x2), some (mI x3), some (mI x4), l5] [] s Q) : Wp X d 81 53 [some (mR 5), some (mR a1), some (mI x2), some (mI x3), some (mI x4), l5] [] s Q := Wp_step k81 f81_53 (Wp_step k81 f81_54 ⟨h_1, h_2⟩)
theorem b81_57 {X : (Nat → Int) × Nat} {d : Nat} {s : mSt} {Q : mQ} {a1 : Nat} {x2 : Int} {x3 : Int} {x4 : Int} {l5 : Option mV} (h1 : isRl a1) (h_1 : Sp X d 90 [mR 1] s (fun r s' => r = none ∧ Wp X (d + 1) 81 64 [some (mR 5), some (mR a1), some (mI x2), some (mI x3), some (mI x4), l5] [] s' Q)) : Wp X (d + 1) 81 57 [some (mR 5), some (mR a1), some (mI x2), some (mI x3), some (mI x4), l5] [] s Q := Wp_step k81 f81_57 (Wp_step k81 f81_58 ⟨kf_5, 1, rf_5_0, Wp_step k81 f81_61 ⟨⟨kf_1, Nat.le_of_ble_eq_true rfl⟩, Nat.le_refl _, _, rfl, Sp_V h_1⟩⟩)
theorem b81_64 {X : (Nat → Int) × Nat} {d : Nat} {s : mSt} {Q : mQ} {a1 : Nat} {x2 : Int} {x3 : Int} {x4 : Int} {l5 : Option mV} (h1 : isRl a1) (h_1 : Sp X d 81 [mR 5, mR a1, mI (w32 (x2 + 1))] s (fun r s' => ∃ v : Int, r = some (mI v) ∧ Wp X (d + 1) 81 72 [some (mR 5), some (mR a1), some (mI x2), some (mI x3), some (mI x4), l5] [mI v] s' Q)) : Wp X (d + 1) 81 64 [some (mR 5), some (mR a1), some (mI x2), some (mI x3), some (mI x4), l5] [] s Q := Wp_step k81 f81_64 (Wp_step k81 f81_65 (Wp_step k81 f81_66 (Wp_step k81 f81_67 (Wp_step k81 f81_68 (Wp_step k81 f81_69 ⟨⟨kf_5, Nat.le_of_ble_eq_true rfl⟩, Nat.le_refl _, _, rfl, Sp_E h_1⟩)))))
theorem b81_72 {X : (Nat → Int) × Nat} {d : Nat} {s : mSt} {Q : mQ} {a1 : Nat} {x2 : Int} {x3 : Int} {x4 : Int} {l5 : Option mV} {xt0 : Int} (h1 : isRl a1) (h_1 : ¬ xt0 = 0 → Wp X d 81 77 [some (mR 5), some (mR a1), some (mI x2), some (mI x3), some (mI x4), l5] [] s Q) (h_2 : xt0 = 0 → Wp X d 81 75 [some (mR 5), some (mR a1), some (mI x2), some (mI x3), some (mI x4), l5] [] s Q) : Wp X d 81 72 [some (mR 5), some (mR a1), some (mI x2), some (mI x3), some (mI x4), l5] [mI xt0] s Q := Wp_step k81 f81_72 ⟨h_1, h_2⟩
theorem b81_75 {X : (Nat → Int) × Nat} {d : Nat} {s : mSt} {Q : mQ} {a1 : Nat} {x2 : Int} {x3 : Int} {x4 : Int} {l5 : Option mV} (h1 : isRl a1) (h_1 : Q (some (mI 0)) s) : Wp X d 81 75 [some (mR 5), some (mR a1), some (mI x2), some (mI x3), some (mI x4), l5] [] s Q := Wp_step k81 f81_75 (Wp_step k81 f81_76 ⟨⟨rfl, (Or.inl rfl)⟩, h_1⟩)
theorem b81_77 {X : (Nat → Int) × Nat} {d : Nat} {s : mSt} {Q : mQ} {a1 : Nat} {x2 : Int} {x3 : Int} {x4 : Int} {l5 : Option mV} (h1 : isRl a1) (h_1 : Sp X d 72 [mR a1, mI 200012] s (fun r s' => r = none ∧ Wp X (d + 1) 81 83 [some (mR 5), some (mR a1), some (mI x2), some (mI x3), some (mI x4), l5] [] s' Q)) : Wp X (d + 1) 81 77 [some (mR 5), some (mR a1), some (mI x2), some (mI x3), some (mI x4), l5] [] s Q := Wp_step k81 f81_77 (Wp_step k81 f81_78 (Wp_step k81 f81_80 ⟨⟨(rl_k h1), Nat.le_of_ble_eq_true rfl⟩, Nat.le_refl _, _, rfl, Sp_V h_1⟩))
theorem b81_83 {X : (Nat → Int) × Nat} {d : Nat} {s : mSt} {Q : mQ} {a1 : Nat} {x2 : Int} {x3 : Int} {x4 : Int} {l5 : Option mV} (h1 : isRl a1) (h_1 : Q (some (mI 1)) s) : Wp X d 81 83 [some (mR 5), some (mR a1), some (mI x2), some (mI x3), some (mI x4), l5] [] s Q := Wp_step k81 f81_83 (Wp_step k81 f81_84 ⟨⟨rfl, (Or.inr rfl)⟩, h_1⟩)
theorem b81_85 {X : (Nat → Int) × Nat} {d : Nat} {s : mSt} {Q : mQ} {a1 : Nat} {x2 : Int} {x3 : Int} {x4 : Int} {l5 : Option mV} (h1 : isRl a1) (h_1 : x4 = 0 → Wp X d 81 140 [some (mR 5), some (mR a1), some (mI x2), some (mI x3), some (mI x4), l5] [] s Q) (h_2 : ¬ x4 = 0 → Wp X d 81 90 [some (mR 5), some (mR a1), some (mI x2), some (mI x3), some (mI x4), l5] [] s Q) : Wp X d 81 85 [some (mR 5), some (mR a1), some (mI x2), some (mI x3), some (mI x4), l5] [] s Q := Wp_step k81 f81_85 (Wp_step k81 f81_87 ⟨h_1, h_2⟩)
theorem b81_90 {X : (Nat → Int) × Nat} {d : Nat} {s : mSt} {Q : mQ} {a1 : Nat} {x2 : Int} {x3 : Int} {x4 : Int} {l5 : Option mV} (h1 : isRl a1) (h_1 : Sp X d 90 [mR 1] s (fun r s' => r = none ∧ Wp X (d + 1) 81 97 [some (mR 5), some (mR a1), some (mI x2), some (mI x3), some (mI x4), l5] [] s' Q)) : Wp X (d + 1) 81 90 [some (mR 5), some (mR a1), some (mI x2), some (mI x3), some (mI x4), l5] [] s Q := Wp_step k81 f81_90 (Wp_step k81 f81_91 ⟨kf_5, 1, rf_5_0, Wp_step k81 f81_94 ⟨⟨kf_1, Nat.le_of_ble_eq_true rfl⟩, Nat.le_refl _, _, rfl, Sp_V h_1⟩⟩)
theorem b81_97 {X : (Nat → Int) × Nat} {d : Nat} {s : mSt} {Q : mQ} {a1 : Nat} {x2 : Int} {x3 : Int} {x4 : Int} {l5 : Option mV} (h1 : isRl a1) (h_1 : Sp X d 80 [mR 5, mR a1, mI (w32 (x2 + 1))] s (fun r s' => ∃ v : Int, r = some (mI v) ∧ Wp X (d + 1) 81 105 [some (mR 5), some (mR a1), some (mI x2), some (mI x3), some (mI x4), l5] [mI v] s' Q)) : Wp X (d + 1) 81 97 [some (mR 5), some (mR a1), some (mI x2), some (mI x3), some (mI x4), l5] [] s Q := Wp_step k81 f81_97 (Wp_step k81 f81_98 (Wp_step k81 f81_99 (Wp_step k81 f81_100 (Wp_step k81 f81_101 (Wp_step k81 f81_102 ⟨⟨kf_5, Nat.le_of_ble_eq_true rfl⟩, Nat.le_refl _, _, rfl, Sp_E h_1⟩)))))
theorem b81_105 {X : (Nat → Int) × Nat} {d : Nat} {s : mSt} {Q : mQ} {a1 : Nat} {x2 : Int} {x3 : Int} {x4 : Int} {l5 : Option mV} {xt0 : Int} (h1 : isRl a1) (h_1 : ¬ xt0 = 0 → Wp X d 81 110 [some (mR 5), some (mR a1), some (mI x2), some (mI x3), some (mI x4), l5] [] s Q) (h_2 : xt0 = 0 → Wp X d 81 108 [some (mR 5), some (mR a1), some (mI x2), some (mI x3), some (mI x4), l5] [] s Q) : Wp X d 81 105 [some (mR 5), some (mR a1), some (mI x2), some (mI x3), some (mI x4), l5] [mI xt0] s Q := Wp_step k81 f81_105 ⟨h_1, h_2⟩
theorem b81_108 {X : (Nat → Int) × Nat} {d : Nat} {s : mSt} {Q : mQ} {a1 : Nat} {x2 : Int} {x3 : Int} {x4 : Int} {l5 : Option mV} (h1 : isRl a1) (h_1 : Q (some (mI 0)) s) : Wp X d 81 108 [some (mR 5), some (mR a1), some (mI x2), some (mI x3), some (mI x4), l5] [] s Q := Wp_step k81 f81_108 (Wp_step k81 f81_109 ⟨⟨rfl, (Or.inl rfl)⟩, h_1⟩)
theorem b81_110 {X : (Nat → Int) × Nat} {d : Nat} {s : mSt} {Q : mQ} {a1 : Nat} {x2 : Int} {x3 : Int} {x4 : Int} {l5 : Option mV} (h1 : isRl a1) (h_1 : (s 1 2) = 93 → Wp X d 81 131 [some (mR 5), some (mR a1), some (mI x2), some (mI x3), some (mI x4), l5] [] s Q) (h_2 : ¬ (s 1 2) = 93 → Wp X d 81 122 [some (mR 5), some (mR a1), some (mI x2), some (mI x3), some (mI x4), l5] [] s Q) : Wp X d 81 110 [some (mR 5), some (mR a1), some (mI x2), some (mI x3), some (mI x4), l5] [] s Q := Wp_step k81 f81_110 (Wp_step k81 f81_111 ⟨kf_5, 1, rf_5_0, Wp_step k81 f81_114 ⟨kf_1, Wp_step k81 f81_117 (Wp_step k81 f81_119 ⟨h_1, h_2⟩)⟩⟩)
theorem b81_122 {X : (Nat → Int) × Nat} {d : Nat} {s : mSt} {Q : mQ} {a1 : Nat} {x2 : Int} {x3 : Int} {x4 : Int} {l5 : Option mV} (h1 : isRl a1) (h_1 : Sp X d 94 [mR 1, mI 0] s (fun r s' => ∃ v : Int, r = some (mI v) ∧ Wp X (d + 1) 81 130 [some (mR 5), some (mR a1), some (mI x2), some (mI x3), some (mI x4), l5] [mI v] s' Q)) : Wp X (d + 1) 81 122 [some (mR 5), some (mR a1), some (mI x2), some (mI x3), some (mI x4), l5] [] s Q := Wp_step k81 f81_122 (Wp_step k81 f81_123 ⟨kf_5, 1, rf_5_0, Wp_step k81 f81_126 (Wp_step k81 f81_127 ⟨⟨kf_1, Nat.le_of_ble_eq_true rfl⟩, Nat.le_refl _, _, rfl, Sp_E h_1⟩)⟩)
theorem b81_130 {X : (Nat → Int) × Nat} {d : Nat} {s : mSt} {Q : mQ} {a1 : Nat} {x2 : Int} {x3 : Int} {x4 : Int} {l5 : Option mV} {xt0 : Int} (h1 : isRl a1) (h_1 : Q (some (mI xt0)) s) (h_2 : xt0 = 0 ∨ xt0 = 1) : Wp X d 81 130 [some (mR 5), some (mR a1), some (mI x2), some (mI x3), some (mI x4), l5] [mI xt0] s Q := Wp_step k81 f81_130 ⟨⟨rfl, h_2⟩, h_1⟩
theorem b81_131 {X : (Nat → Int) × Nat} {d : Nat} {s : mSt} {Q : mQ} {a1 : Nat} {x2 : Int} {x3 : Int} {x4 : Int} {l5 : Option mV} (h1 : isRl a1) (h_1 : Sp X d 90 [mR 1] s (fun r s' => r = none ∧ Wp X (d + 1) 81 138 [some (mR 5), some (mR a1), some (mI x2), some (mI x3), some (mI x4), l5] [] s' Q)) : Wp X (d + 1) 81 131 [some (mR 5), some (mR a1), some (mI x2), some (mI x3), some (mI x4), l5] [] s Q := Wp_step k81 f81_131 (Wp_step k81 f81_132 ⟨kf_5, 1, rf_5_0, Wp_step k81 f81_135 ⟨⟨kf_1, Nat.le_of_ble_eq_true rfl⟩, Nat.le_refl _, _, rfl, Sp_V h_1⟩⟩)
theorem b81_138 {X : (Nat → Int) × Nat} {d : Nat} {s : mSt} {Q : mQ} {a1 : Nat} {x2 : Int} {x3 : Int} {x4 : Int} {l5 : Option mV} (h1 : isRl a1) (h_1 : Q (some (mI 1)) s) : Wp X d 81 138 [some (mR 5), some (mR a1), some (mI x2), some (mI x3), some (mI x4), l5] [] s Q := Wp_step k81 f81_138 (Wp_step k81 f81_139 ⟨⟨rfl, (Or.inr rfl)⟩, h_1⟩)
theorem b81_140 {X : (Nat → Int) × Nat} {d : Nat} {s : mSt} {Q : mQ} {a1 : Nat} {x2 : Int} {x3 : Int} {x4 : Int} {l5 : Option mV} (h1 : isRl a1) (h_1 : Sp X d 82 [mR 5, mR a1] s (fun r s' => ∃ v : Int, r = some (mI v) ∧ Wp X (d + 1) 81 145 [some (mR 5), some (mR a1), some (mI x2), some (mI x3), some (mI x4), l5] [mI v] s' Q)) : Wp X (d + 1) 81 140 [some (mR 5), some (mR a1), some (mI x2), some (mI x3), some (mI x4), l5] [] s Q := Wp_step k81 f81_140 (Wp_step k81 f81_141 (Wp_step k81 f81_142 ⟨⟨kf_5, Nat.le_of_ble_eq_true rfl⟩, Nat.le_refl _, _, rfl, Sp_E h_1⟩))
theorem b81_145 {X : (Nat → Int) × Nat} {d : Nat} {s : mSt} {Q : mQ} {a1 : Nat} {x2 : Int} {x3 : Int} {x4 : Int} {l5 : Option mV} {xt0 : Int} (h1 : isRl a1) (h_1 : ¬ xt0 = 0 → Wp X d 81 150 [some (mR 5), some (mR a1), some (mI x2), some (mI x3), some (mI x4), l5] [] s Q) (h_2 : xt0 = 0 → Wp X d 81 148 [some (mR 5), some (mR a1), some (mI x2), some (mI x3), some (mI x4), l5] [] s Q) : Wp X d 81 145 [some (mR 5), some (mR a1), some (mI x2), some (mI x3), some (mI x4), l5] [mI xt0] s Q := Wp_step k81 f81_145 ⟨h_1, h_2⟩
theorem b81_148 {X : (Nat → Int) × Nat} {d : Nat} {s : mSt} {Q : mQ} {a1 : Nat} {x2 : Int} {x3 : Int} {x4 : Int} {l5 : Option mV} (h1 : isRl a1) (h_1 : Q (some (mI 0)) s) : Wp X d 81 148 [some (mR 5), some (mR a1), some (mI x2), some (mI x3), some (mI x4), l5] [] s Q := Wp_step k81 f81_148 (Wp_step k81 f81_149 ⟨⟨rfl, (Or.inl rfl)⟩, h_1⟩)
theorem b81_150 {X : (Nat → Int) × Nat} {d : Nat} {s : mSt} {Q : mQ} {a1 : Nat} {x2 : Int} {x3 : Int} {x4 : Int} {l5 : Option mV} (h1 : isRl a1) (h_1 : Sp X d 68 [mI (s 1 2)] s (fun r s' => ∃ v : Int, r = some (mI v) ∧ Wp X (d + 1) 81 160 [some (mR 5), some (mR a1), some (mI x2), some (mI x3), some (mI x4), l5] [mI v] s' Q)) : Wp X (d + 1) 81 150 [some (mR 5), some (mR a1), some (mI x2), some (mI x3), some (mI x4), l5] [] s Q := Wp_step k81 f81_150 (Wp_step k81 f81_151 ⟨kf_5, 1, rf_5_0, Wp_step k81 f81_154 ⟨kf_1, Wp_step k81 f81_157 ⟨⟨Nat.le_of_ble_eq_true rfl, Nat.le_refl _⟩, _, rfl, Sp_E h_1⟩⟩⟩)
theorem b81_160 {X : (Nat → Int) × Nat} {d : Nat} {s : mSt} {Q : mQ} {a1 : Nat} {x2 : Int} {x3 : Int} {x4 : Int} {l5 : Option mV} {xt0 : Int} (h1 : isRl a1) (h_1 : ¬ xt0 = (-1) → Wp X d 81 177 [some (mR 5), some (mR a1), some (mI x2), some (mI x3), some (mI x4), some (mI xt0)] [] s Q) (h_2 : xt0 = (-1) → Wp X d 81 168 [some (mR 5), some (mR a1), some (mI x2), some (mI x3), some (mI x4), some (mI xt0)] [] s Q) : Wp X d 81 160 [some (mR 5), some (mR a1), some (mI x2), some (mI x3), some (mI x4), l5] [mI xt0] s Q := Wp_step k81 f81_160 (Wp_step k81 f81_162 (Wp_step k81 f81_164 (Wp_step k81 f81_165 ⟨h_1, h_2⟩)))
theorem b81_168 {X : (Nat → Int) × Nat} {d : Nat} {s : mSt} {Q : mQ} {a1 : Nat} {x2 : Int} {x3 : Int} {x4 : Int} {x5 : Int} (h1 : isRl a1) (h_1 : Sp X d 94 [mR 1, mI 0] s (fun r s' => ∃ v : Int, r = some (mI v) ∧ Wp X (d + 1) 81 176 [some (mR 5), some (mR a1), some (mI x2), some (mI x3), some (mI x4), some (mI x5)] [mI v] s' Q)) : Wp X (d + 1) 81 168 [some (mR 5), some (mR a1), some (mI x2), some (mI x3), some (mI x4), some (mI x5)] [] s Q := Wp_step k81 f81_168 (Wp_step k81 f81_169 ⟨kf_5, 1, rf_5_0, Wp_step k81 f81_172 (Wp_step k81 f81_173 ⟨⟨kf_1, Nat.le_of_ble_eq_true rfl⟩, Nat.le_refl _, _, rfl, Sp_E h_1⟩)⟩)
theorem b81_176 {X : (Nat → Int) × Nat} {d : Nat} {s : mSt} {Q : mQ} {a1 : Nat} {x2 : Int} {x3 : Int} {x4 : Int} {x5 : Int} {xt0 : Int} (h1 : isRl a1) (h_1 : Q (some (mI xt0)) s) (h_2 : xt0 = 0 ∨ xt0 = 1) : Wp X d 81 176 [some (mR 5), some (mR a1), some (mI x2), some (mI x3), some (mI x4), some (mI x5)] [mI xt0] s Q := Wp_step k81 f81_176 ⟨⟨rfl, h_2⟩, h_1⟩
theorem b81_177 {X : (Nat → Int) × Nat} {d : Nat} {s : mSt} {Q : mQ} {a1 : Nat} {x2 : Int} {x3 : Int} {x4 : Int} {x5 : Int} (h1 : isRl a1) (h_1 : (s 5 1) < 60 → Wp X d 81 195 [some (mR 5), some (mR a1), some (mI x2), some (mI x3), some (mI x4), some (mI x5)] [] s Q) (h_2 : ¬ (s 5 1) < 60 → Wp X d 81 186 [some (mR 5), some (mR a1), some (mI x2), some (mI x3), some (mI x4), some (mI x5)] [] s Q) : Wp X d 81 177 [some (mR 5), some (mR a1), some (mI x2), some (mI x3), some (mI x4), some (mI x5)] [] s Q := Wp_step k81 f81_177 (Wp_step k81 f81_178 ⟨kf_5, Wp_step k81 f81_181 (Wp_step k81 f81_183 ⟨h_1, h_2⟩)⟩)
theorem b81_186 {X : (Nat → Int) × Nat} {d : Nat} {s : mSt} {Q : mQ} {a1 : Nat} {x2 : Int} {x3 : Int} {x4 : Int} {x5 : Int} (h1 : isRl a1) (h_1 : Sp X d 94 [mR 1, mI 3] s (fun r s' => ∃ v : Int, r = some (mI v) ∧ Wp X (d + 1) 81 194 [some (mR 5), some (mR a1), some (mI x2), some (mI x3), some (mI x4), some (mI x5)] [mI v] s' Q)) : Wp X (d + 1) 81 186 [some (mR 5), some (mR a1), some (mI x2), some (mI x3), some (mI x4), some (mI x5)] [] s Q := Wp_step k81 f81_186 (Wp_step k81 f81_187 ⟨kf_5, 1, rf_5_0, Wp_step k81 f81_190 (Wp_step k81 f81_191 ⟨⟨kf_1, Nat.le_of_ble_eq_true rfl⟩, Nat.le_refl _, _, rfl, Sp_E h_1⟩)⟩)
theorem b81_194 {X : (Nat → Int) × Nat} {d : Nat} {s : mSt} {Q : mQ} {a1 : Nat} {x2 : Int} {x3 : Int} {x4 : Int} {x5 : Int} {xt0 : Int} (h1 : isRl a1) (h_1 : Q (some (mI xt0)) s) (h_2 : xt0 = 0 ∨ xt0 = 1) : Wp X d 81 194 [some (mR 5), some (mR a1), some (mI x2), some (mI x3), some (mI x4), some (mI x5)] [mI xt0] s Q := Wp_step k81 f81_194 ⟨⟨rfl, h_2⟩, h_1⟩
theorem b81_195 {X : (Nat → Int) × Nat} {d : Nat} {s : mSt} {Q : mQ} {a1 : Nat} {x2 : Int} {x3 : Int} {x4 : Int} {x5 : Int} (h1 : isRl a1) (h_1 : Sp X d 90 [mR 1] (uS s 5 1 (w32 ((s 5 1) + 1))) (fun r s' => r = none ∧ Wp X (d + 1) 81 212 [some (mR 5), some (mR a1), some (mI x2), some (mI x3), some (mI x4), some (mI x5)] [] s' Q)) : Wp X (d + 1) 81 195 [some (mR 5), some (mR a1), some (mI x2), some (mI x3), some (mI x4), some (mI x5)] [] s Q := Wp_step k81 f81_195 (Wp_step k81 f81_196 (Wp_step k81 f81_197 ⟨kf_5, Wp_step k81 f81_200 (Wp_step k81 f81_201 (Wp_step k81 f81_202 ⟨kf_5, Wp_step k81 f81_205 (Wp_step k81 f81_206 ⟨kf_5, 1, rf_5_0, Wp_step k81 f81_209 ⟨⟨kf_1, Nat.le_of_ble_eq_true rfl⟩, Nat.le_refl _, _, rfl, Sp_V h_1⟩⟩)⟩))⟩))
theorem b81_212 {X : (Nat → Int) × Nat} {d : Nat} {s : mSt} {Q : mQ} {a1 : Nat} {x2 : Int} {x3 : Int} {x4 : Int} {x5 : Int} (h1 : isRl a1) (h_1 : Sp X d 82 [mR 5, mR a1] s (fun r s' => ∃ v : Int, r = some (mI v) ∧ Wp X (d + 1) 81 217 [some (mR 5), some (mR a1), some (mI x2), some (mI x3), some (mI x4), some (mI x5)] [mI v] s' Q)) : Wp X (d + 1) 81 212 [some (mR 5), some (mR a1), some (mI x2), some (mI x3), some (mI x4), some (mI x5)] [] s Q := Wp_step k81 f81_212 (Wp_step k81 f81_213 (Wp_step k81 f81_214 ⟨⟨kf_5, Nat.le_of_ble_eq_true rfl⟩, Nat.le_refl _, _, rfl, Sp_E h_1⟩))
theorem b81_217 {X : (Nat → Int) × Nat} {d : Nat} {s : mSt} {Q : mQ} {a1 : Nat} {x2 : Int} {x3 : Int} {x4 : Int} {x5 : Int} {xt0 : Int} (h1 : isRl a1) (h_1 : ¬ xt0 = 0 → Wp X d 81 222 [some (mR 5), some (mR a1), some (mI x2), some (mI x3), some (mI x4), some (mI x5)] [] s Q) (h_2 : xt0 = 0 → Wp X d 81 220 [some (mR 5), some (mR a1), some (mI x2), some (mI x3), some (mI x4), some (mI x5)] [] s Q) : Wp X d 81 217 [some (mR 5), some (mR a1), some (mI x2), some (mI x3), some (mI x4), some (mI x5)] [mI xt0] s Q := Wp_step k81 f81_217 ⟨h_1, h_2⟩
theorem b81_220 {X : (Nat → Int) × Nat} {d : Nat} {s : mSt} {Q : mQ} {a1 : Nat} {x2 : Int} {x3 : Int} {x4 : Int} {x5 : Int} (h1 : isRl a1) (h_1 : Q (some (mI 0)) s) : Wp X d 81 220 [some (mR 5), some (mR a1), some (mI x2), some (mI x3), some (mI x4), some (mI x5)] [] s Q := Wp_step k81 f81_220 (Wp_step k81 f81_221 ⟨⟨rfl, (Or.inl rfl)⟩, h_1⟩)
theorem b81_222 {X : (Nat → Int) × Nat} {d : Nat} {s : mSt} {Q : mQ} {a1 : Nat} {x2 : Int} {x3 : Int} {x4 : Int} {x5 : Int} (h1 : isRl a1) (h_1 : Sp X d 72 [mR a1, mI x5] s (fun r s' => r = none ∧ Wp X (d + 1) 81 228 [some (mR 5), some (mR a1), some (mI x2), some (mI x3), some (mI x4), some (mI x5)] [] s' Q)) : Wp X (d + 1) 81 222 [some (mR 5), some (mR a1), some (mI x2), some (mI x3), some (mI x4), some (mI x5)] [] s Q := Wp_step k81 f81_222 (Wp_step k81 f81_223 (Wp_step k81 f81_225 ⟨⟨(rl_k h1), Nat.le_of_ble_eq_true rfl⟩, Nat.le_refl _, _, rfl, Sp_V h_1⟩))
theorem b81_228 {X : (Nat → Int) × Nat} {d : Nat} {s : mSt} {Q : mQ} {a1 : Nat} {x2 : Int} {x3 : Int} {x4 : Int} {x5 : Int} (h1 : isRl a1) (h_1 : Q (some (mI 1)) s) : Wp X d 81 228 [some (mR 5), some (mR a1), some (mI x2), some (mI x3), some (mI x4), some (mI x5)] [] s Q := Wp_step k81 f81_228 (Wp_step k81 f81_229 ⟨⟨rfl, (Or.inr rfl)⟩, h_1⟩)
theorem e81 {X : (Nat → Int) × Nat} {d : Nat} {s : mSt} {Q : mQ} {a1 : Nat} {x2 : Int} (h : Wp X d 81 0 [some (mR 5), some (mR a1), some (mI x2), none, none, none] [] s Q) : Sp X d 81 [mR 5, mR a1, mI x2] s Q := Sp_of (show mCe 81 = 0 by decide +kernel) (by rw [show mML 81 = 6 by decide +kernel]; rfl) (Nat.le_trans (Nat.le_of_ble_eq_true (show Nat.ble (mArgs _).length 6 = true from rfl)) (show 6 ≤ mML 81 by decide +kernel)) h
-- 82 ClashDay$RuleReader.readSum(LClashDay$Rule;)Z
theorem k82 : mRk 82 = 2 := by decide +kernel
theorem f82_0 : mFetch 82 0 = some (.iconst (-1), 1, 0, 0, 0, 0) := by decide +kernel
theorem f82_1 : mFetch 82 1 = some (.istore_n 2, 1, 0, 0, 0, 0) := by decide +kernel
theorem f82_2 : mFetch 82 2 = some (.iconst (-1), 1, 0, 0, 0, 0) := by decide +kernel
theorem f82_3 : mFetch 82 3 = some (.istore_n 3, 1, 0, 0, 0, 0) := by decide +kernel
theorem f82_4 : mFetch 82 4 = some (.iconst 0, 1, 0, 0, 0, 0) := by decide +kernel
theorem f82_5 : mFetch 82 5 = some (.istore 4, 2, 0, 0, 0, 0) := by decide +kernel
theorem f82_7 : mFetch 82 7 = some (.iload 4, 2, 0, 0, 0, 0) := by decide +kernel
theorem f82_9 : mFetch 82 9 = some (.sipush 400, 3, 0, 0, 0, 0) := by decide +kernel
theorem f82_12 : mFetch 82 12 = some (.if_icmp .ge 80, 3, 92, 0, 0, 0) := by decide +kernel
theorem f82_15 : mFetch 82 15 = some (.aload_n 0, 1, 0, 0, 0, 0) := by decide +kernel
theorem f82_16 : mFetch 82 16 = some (.aload_n 1, 1, 0, 0, 0, 0) := by decide +kernel
theorem f82_17 : mFetch 82 17 = some (.invokevirtual 80, 3, 83, 0, 2, 6) := by decide +kernel
theorem f82_20 : mFetch 82 20 = some (.ifCond .ne 5, 3, 25, 0, 0, 0) := by decide +kernel
theorem f82_23 : mFetch 82 23 = some (.iconst 0, 1, 0, 0, 0, 0) := by decide +kernel
theorem f82_24 : mFetch 82 24 = some (.ireturn, 1, 0, 0, 0, 0) := by decide +kernel
theorem f82_25 : mFetch 82 25 = some (.iload_n 2, 1, 0, 0, 0, 0) := by decide +kernel
theorem f82_26 : mFetch 82 26 = some (.iconst (-1), 1, 0, 0, 0, 0) := by decide +kernel
theorem f82_27 : mFetch 82 27 = some (.if_icmp .eq 8, 3, 35, 0, 0, 0) := by decide +kernel
theorem f82_30 : mFetch 82 30 = some (.aload_n 1, 1, 0, 0, 0, 0) := by decide +kernel
theorem f82_31 : mFetch 82 31 = some (.iload_n 2, 1, 0, 0, 0, 0) := by decide +kernel
theorem f82_32 : mFetch 82 32 = some (.invokevirtual 68, 3, 72, 0, 2, 5) := by decide +kernel
theorem f82_35 : mFetch 82 35 = some (.aload_n 0, 1, 0, 0, 0, 0) := by decide +kernel
theorem f82_36 : mFetch 82 36 = some (.getfield 9, 3, 6, 0, 2, 1) := by decide +kernel
theorem f82_39 : mFetch 82 39 = some (.getfield 72, 3, 8, 2, 0, 0) := by decide +kernel
theorem f82_42 : mFetch 82 42 = some (.invokestatic 83, 3, 69, 0, 1, 99) := by decide +kernel
theorem f82_45 : mFetch 82 45 = some (.istore_n 2, 1, 0, 0, 0, 0) := by decide +kernel
theorem f82_46 : mFetch 82 46 = some (.iload_n 2, 1, 0, 0, 0, 0) := by decide +kernel
theorem f82_47 : mFetch 82 47 = some (.iconst (-1), 1, 0, 0, 0, 0) := by decide +kernel
theorem f82_48 : mFetch 82 48 = some (.if_icmp .ne 31, 3, 79, 0, 0, 0) := by decide +kernel
theorem f82_51 : mFetch 82 51 = some (.iload_n 3, 1, 0, 0, 0, 0) := by decide +kernel
theorem f82_52 : mFetch 82 52 = some (.iconst (-1), 1, 0, 0, 0, 0) := by decide +kernel
theorem f82_53 : mFetch 82 53 = some (.if_icmp .eq 8, 3, 61, 0, 0, 0) := by decide +kernel
theorem f82_56 : mFetch 82 56 = some (.aload_n 1, 1, 0, 0, 0, 0) := by decide +kernel
theorem f82_57 : mFetch 82 57 = some (.iload_n 3, 1, 0, 0, 0, 0) := by decide +kernel
theorem f82_58 : mFetch 82 58 = some (.invokevirtual 68, 3, 72, 0, 2, 5) := by decide +kernel
theorem f82_61 : mFetch 82 61 = some (.aload_n 0, 1, 0, 0, 0, 0) := by decide +kernel
theorem f82_62 : mFetch 82 62 = some (.getfield 9, 3, 6, 0, 2, 1) := by decide +kernel
theorem f82_65 : mFetch 82 65 = some (.getfield 72, 3, 8, 2, 0, 0) := by decide +kernel
theorem f82_68 : mFetch 82 68 = some (.invokestatic 86, 3, 70, 0, 1, 99) := by decide +kernel
theorem f82_71 : mFetch 82 71 = some (.istore_n 3, 1, 0, 0, 0, 0) := by decide +kernel
theorem f82_72 : mFetch 82 72 = some (.iload_n 3, 1, 0, 0, 0, 0) := by decide +kernel
theorem f82_73 : mFetch 82 73 = some (.iconst (-1), 1, 0, 0, 0, 0) := by decide +kernel
theorem f82_74 : mFetch 82 74 = some (.if_icmp .ne 5, 3, 79, 0, 0, 0) := by decide +kernel
theorem f82_77 : mFetch 82 77 = some (.iconst 1, 1, 0, 0, 0, 0) := by decide +kernel
theorem f82_78 : mFetch 82 78 = some (.ireturn, 1, 0, 0, 0, 0) := by decide +kernel
theorem f82_79 : mFetch 82 79 = some (.aload_n 0, 1, 0, 0, 0, 0) := by decide +kernel
theorem f82_80 : mFetch 82 80 = some (.getfield 9, 3, 6, 0, 2, 1) := by decide +kernel
theorem f82_83 : mFetch 82 83 = some (.invokevirtual 47, 3, 90, 0, 1, 8) := by decide +kernel
theorem f82_86 : mFetch 82 86 = some (.iinc 4 1, 3, 0, 0, 0, 0) := by decide +kernel
theorem f82_89 : mFetch 82 89 = some (.goto (-82), 3, 7, 0, 0, 0) := by decide +kernel
theorem f82_92 : mFetch 82 92 = some (.aload_n 0, 1, 0, 0, 0, 0) := by decide +kernel
theorem f82_93 : mFetch 82 93 = some (.getfield 9, 3, 6, 0, 2, 1) := by decide +kernel
theorem f82_96 : mFetch 82 96 = some (.iconst 0, 1, 0, 0, 0, 0) := by decide +kernel
theorem f82_97 : mFetch 82 97 = some (.invokevirtual 44, 3, 94, 0, 2, 8) := by decide +kernel
theorem f82_100 : mFetch 82 100 = some (.ireturn, 1, 0, 0, 0, 0) := by decide +kernel
theorem b82_0 {X : (Nat → Int) × Nat} {d : Nat} {s : mSt} {Q : mQ} {a1 : Nat} {l2 : Option mV} {l3 : Option mV} {l4 : Option mV} (h1 : isRl a1) (h_1 : Wp X d 82 7 [some (mR 5), some (mR a1), some (mI (-1)), some (mI (-1)), some (mI 0)] [] s Q) : Wp X d 82 0 [some (mR 5), some (mR a1), l2, l3, l4] [] s Q := Wp_step k82 f82_0 (Wp_step k82 f82_1 (Wp_step k82 f82_2 (Wp_step k82 f82_3 (Wp_step k82 f82_4 (Wp_step k82 f82_5 (h_1))))))
theorem b82_7 {X : (Nat → Int) × Nat} {d : Nat} {s : mSt} {Q : mQ} {a1 : Nat} {x2 : Int} {x3 : Int} {x4 : Int} (h1 : isRl a1) (h_1 : 400 ≤ x4 → Wp X d 82 92 [some (mR 5), some (mR a1), some (mI x2), some (mI x3), some (mI x4)] [] s Q) (h_2 : ¬ 400 ≤ x4 → Wp X d 82 15 [some (mR 5), some (mR a1), some (mI x2), some (mI x3), some (mI x4)] [] s Q) : Wp X d 82 7 [some (mR 5), some (mR a1), some (mI x2), some (mI x3), some (mI x4)] [] s Q := Wp_step k82 f82_7 (Wp_step k82 f82_9 (Wp_step k82 f82_12 ⟨h_1, h_2⟩))
theorem b82_15 {X : (Nat → Int) × Nat} {d : Nat} {s : mSt} {Q : mQ} {a1 : Nat} {x2 : Int} {x3 : Int} {x4 : Int} (h1 : isRl a1) (h_1 : Sp X d 83 [mR 5, mR a1] s (fun r s' => ∃ v : Int, r = some (mI v) ∧ Wp X (d + 1) 82 20 [some (mR 5), some (mR a1), some (mI x2), some (mI x3), some (mI x4)] [mI v] s' Q)) : Wp X (d + 1) 82 15 [some (mR 5), some (mR a1), some (mI x2), some (mI x3), some (mI x4)] [] s Q := Wp_step k82 f82_15 (Wp_step k82 f82_16 (Wp_step k82 f82_17 ⟨⟨kf_5, Nat.le_of_ble_eq_true rfl⟩, Nat.le_refl _, _, rfl, Sp_E h_1⟩))
theorem b82_20 {X : (Nat → Int) × Nat} {d : Nat} {s : mSt} {Q : mQ} {a1 : Nat} {x2 : Int} {x3 : Int} {x4 : Int} {xt0 : Int} (h1 : isRl a1) (h_1 : ¬ xt0 = 0 → Wp X d 82 25 [some (mR 5), some (mR a1), some (mI x2), some (mI x3), some (mI x4)] [] s Q) (h_2 : xt0 = 0 → Wp X d 82 23 [some (mR 5), some (mR a1), some (mI x2), some (mI x3), some (mI x4)] [] s Q) : Wp X d 82 20 [some (mR 5), some (mR a1), some (mI x2), some (mI x3), some (mI x4)] [mI xt0] s Q := Wp_step k82 f82_20 ⟨h_1, h_2⟩
theorem b82_23 {X : (Nat → Int) × Nat} {d : Nat} {s : mSt} {Q : mQ} {a1 : Nat} {x2 : Int} {x3 : Int} {x4 : Int} (h1 : isRl a1) (h_1 : Q (some (mI 0)) s) : Wp X d 82 23 [some (mR 5), some (mR a1), some (mI x2), some (mI x3), some (mI x4)] [] s Q := Wp_step k82 f82_23 (Wp_step k82 f82_24 ⟨⟨rfl, (Or.inl rfl)⟩, h_1⟩)
theorem b82_25 {X : (Nat → Int) × Nat} {d : Nat} {s : mSt} {Q : mQ} {a1 : Nat} {x2 : Int} {x3 : Int} {x4 : Int} (h1 : isRl a1) (h_1 : x2 = (-1) → Wp X d 82 35 [some (mR 5), some (mR a1), some (mI x2), some (mI x3), some (mI x4)] [] s Q) (h_2 : ¬ x2 = (-1) → Wp X d 82 30 [some (mR 5), some (mR a1), some (mI x2), some (mI x3), some (mI x4)] [] s Q) : Wp X d 82 25 [some (mR 5), some (mR a1), some (mI x2), some (mI x3), some (mI x4)] [] s Q := Wp_step k82 f82_25 (Wp_step k82 f82_26 (Wp_step k82 f82_27 ⟨h_1, h_2⟩))
theorem b82_30 {X : (Nat → Int) × Nat} {d : Nat} {s : mSt} {Q : mQ} {a1 : Nat} {x2 : Int} {x3 : Int} {x4 : Int} (h1 : isRl a1) (h_1 : Sp X d 72 [mR a1, mI x2] s (fun r s' => r = none ∧ Wp X (d + 1) 82 35 [some (mR 5), some (mR a1), some (mI x2), some (mI x3), some (mI x4)] [] s' Q)) : Wp X (d + 1) 82 30 [some (mR 5), some (mR a1), some (mI x2), some (mI x3), some (mI x4)] [] s Q := Wp_step k82 f82_30 (Wp_step k82 f82_31 (Wp_step k82 f82_32 ⟨⟨(rl_k h1), Nat.le_of_ble_eq_true rfl⟩, Nat.le_refl _, _, rfl, Sp_V h_1⟩))
theorem b82_35 {X : (Nat → Int) × Nat} {d : Nat} {s : mSt} {Q : mQ} {a1 : Nat} {x2 : Int} {x3 : Int} {x4 : Int} (h1 : isRl a1) (h_1 : Sp X d 69 [mI (s 1 2)] s (fun r s' => ∃ v : Int, r = some (mI v) ∧ Wp X (d + 1) 82 45 [some (mR 5), some (mR a1), some (mI x2), some (mI x3), some (mI x4)] [mI v] s' Q)) : Wp X (d + 1) 82 35 [some (mR 5), some (mR a1), some (mI x2), some (mI x3), some (mI x4)] [] s Q := Wp_step k82 f82_35 (Wp_step k82 f82_36 ⟨kf_5, 1, rf_5_0, Wp_step k82 f82_39 ⟨kf_1, Wp_step k82 f82_42 ⟨⟨Nat.le_of_ble_eq_true rfl, Nat.le_refl _⟩, _, rfl, Sp_E h_1⟩⟩⟩)
theorem b82_45 {X : (Nat → Int) × Nat} {d : Nat} {s : mSt} {Q : mQ} {a1 : Nat} {x2 : Int} {x3 : Int} {x4 : Int} {xt0 : Int} (h1 : isRl a1) (h_1 : ¬ xt0 = (-1) → Wp X d 82 79 [some (mR 5), some (mR a1), some (mI xt0), some (mI x3), some (mI x4)] [] s Q) (h_2 : xt0 = (-1) → Wp X d 82 51 [some (mR 5), some (mR a1), some (mI xt0), some (mI x3), some (mI x4)] [] s Q) : Wp X d 82 45 [some (mR 5), some (mR a1), some (mI x2), some (mI x3), some (mI x4)] [mI xt0] s Q := Wp_step k82 f82_45 (Wp_step k82 f82_46 (Wp_step k82 f82_47 (Wp_step k82 f82_48 ⟨h_1, h_2⟩)))
theorem b82_51 {X : (Nat → Int) × Nat} {d : Nat} {s : mSt} {Q : mQ} {a1 : Nat} {x2 : Int} {x3 : Int} {x4 : Int} (h1 : isRl a1) (h_1 : x3 = (-1) → Wp X d 82 61 [some (mR 5), some (mR a1), some (mI x2), some (mI x3), some (mI x4)] [] s Q) (h_2 : ¬ x3 = (-1) → Wp X d 82 56 [some (mR 5), some (mR a1), some (mI x2), some (mI x3), some (mI x4)] [] s Q) : Wp X d 82 51 [some (mR 5), some (mR a1), some (mI x2), some (mI x3), some (mI x4)] [] s Q := Wp_step k82 f82_51 (Wp_step k82 f82_52 (Wp_step k82 f82_53 ⟨h_1, h_2⟩))
theorem b82_56 {X : (Nat → Int) × Nat} {d : Nat} {s : mSt} {Q : mQ} {a1 : Nat} {x2 : Int} {x3 : Int} {x4 : Int} (h1 : isRl a1) (h_1 : Sp X d 72 [mR a1, mI x3] s (fun r s' => r = none ∧ Wp X (d + 1) 82 61 [some (mR 5), some (mR a1), some (mI x2), some (mI x3), some (mI x4)] [] s' Q)) : Wp X (d + 1) 82 56 [some (mR 5), some (mR a1), some (mI x2), some (mI x3), some (mI x4)] [] s Q := Wp_step k82 f82_56 (Wp_step k82 f82_57 (Wp_step k82 f82_58 ⟨⟨(rl_k h1), Nat.le_of_ble_eq_true rfl⟩, Nat.le_refl _, _, rfl, Sp_V h_1⟩))
theorem b82_61 {X : (Nat → Int) × Nat} {d : Nat} {s : mSt} {Q : mQ} {a1 : Nat} {x2 : Int} {x3 : Int} {x4 : Int} (h1 : isRl a1) (h_1 : Sp X d 70 [mI (s 1 2)] s (fun r s' => ∃ v : Int, r = some (mI v) ∧ Wp X (d + 1) 82 71 [some (mR 5), some (mR a1), some (mI x2), some (mI x3), some (mI x4)] [mI v] s' Q)) : Wp X (d + 1) 82 61 [some (mR 5), some (mR a1), some (mI x2), some (mI x3), some (mI x4)] [] s Q := Wp_step k82 f82_61 (Wp_step k82 f82_62 ⟨kf_5, 1, rf_5_0, Wp_step k82 f82_65 ⟨kf_1, Wp_step k82 f82_68 ⟨⟨Nat.le_of_ble_eq_true rfl, Nat.le_refl _⟩, _, rfl, Sp_E h_1⟩⟩⟩)
theorem b82_71 {X : (Nat → Int) × Nat} {d : Nat} {s : mSt} {Q : mQ} {a1 : Nat} {x2 : Int} {x3 : Int} {x4 : Int} {xt0 : Int} (h1 : isRl a1) (h_1 : ¬ xt0 = (-1) → Wp X d 82 79 [some (mR 5), some (mR a1), some (mI x2), some (mI xt0), some (mI x4)] [] s Q) (h_2 : xt0 = (-1) → Wp X d 82 77 [some (mR 5), some (mR a1), some (mI x2), some (mI xt0), some (mI x4)] [] s Q) : Wp X d 82 71 [some (mR 5), some (mR a1), some (mI x2), some (mI x3), some (mI x4)] [mI xt0] s Q := Wp_step k82 f82_71 (Wp_step k82 f82_72 (Wp_step k82 f82_73 (Wp_step k82 f82_74 ⟨h_1, h_2⟩)))
theorem b82_77 {X : (Nat → Int) × Nat} {d : Nat} {s : mSt} {Q : mQ} {a1 : Nat} {x2 : Int} {x3 : Int} {x4 : Int} (h1 : isRl a1) (h_1 : Q (some (mI 1)) s) : Wp X d 82 77 [some (mR 5), some (mR a1), some (mI x2), some (mI x3), some (mI x4)] [] s Q := Wp_step k82 f82_77 (Wp_step k82 f82_78 ⟨⟨rfl, (Or.inr rfl)⟩, h_1⟩)
theorem b82_79 {X : (Nat → Int) × Nat} {d : Nat} {s : mSt} {Q : mQ} {a1 : Nat} {x2 : Int} {x3 : Int} {x4 : Int} (h1 : isRl a1) (h_1 : Sp X d 90 [mR 1] s (fun r s' => r = none ∧ Wp X (d + 1) 82 86 [some (mR 5), some (mR a1), some (mI x2), some (mI x3), some (mI x4)] [] s' Q)) : Wp X (d + 1) 82 79 [some (mR 5), some (mR a1), some (mI x2), some (mI x3), some (mI x4)] [] s Q := Wp_step k82 f82_79 (Wp_step k82 f82_80 ⟨kf_5, 1, rf_5_0, Wp_step k82 f82_83 ⟨⟨kf_1, Nat.le_of_ble_eq_true rfl⟩, Nat.le_refl _, _, rfl, Sp_V h_1⟩⟩)
theorem b82_86 {X : (Nat → Int) × Nat} {d : Nat} {s : mSt} {Q : mQ} {a1 : Nat} {x2 : Int} {x3 : Int} {x4 : Int} (h1 : isRl a1) (h_1 : Wp X d 82 7 [some (mR 5), some (mR a1), some (mI x2), some (mI x3), some (mI (w32 (x4 + 1)))] [] s Q) : Wp X d 82 86 [some (mR 5), some (mR a1), some (mI x2), some (mI x3), some (mI x4)] [] s Q := Wp_step k82 f82_86 (Wp_step k82 f82_89 (h_1))
theorem b82_92 {X : (Nat → Int) × Nat} {d : Nat} {s : mSt} {Q : mQ} {a1 : Nat} {x2 : Int} {x3 : Int} {x4 : Int} (h1 : isRl a1) (h_1 : Sp X d 94 [mR 1, mI 0] s (fun r s' => ∃ v : Int, r = some (mI v) ∧ Wp X (d + 1) 82 100 [some (mR 5), some (mR a1), some (mI x2), some (mI x3), some (mI x4)] [mI v] s' Q)) : Wp X (d + 1) 82 92 [some (mR 5), some (mR a1), some (mI x2), some (mI x3), some (mI x4)] [] s Q := Wp_step k82 f82_92 (Wp_step k82 f82_93 ⟨kf_5, 1, rf_5_0, Wp_step k82 f82_96 (Wp_step k82 f82_97 ⟨⟨kf_1, Nat.le_of_ble_eq_true rfl⟩, Nat.le_refl _, _, rfl, Sp_E h_1⟩)⟩)
theorem b82_100 {X : (Nat → Int) × Nat} {d : Nat} {s : mSt} {Q : mQ} {a1 : Nat} {x2 : Int} {x3 : Int} {x4 : Int} {xt0 : Int} (h1 : isRl a1) (h_1 : Q (some (mI xt0)) s) (h_2 : xt0 = 0 ∨ xt0 = 1) : Wp X d 82 100 [some (mR 5), some (mR a1), some (mI x2), some (mI x3), some (mI x4)] [mI xt0] s Q := Wp_step k82 f82_100 ⟨⟨rfl, h_2⟩, h_1⟩
theorem e82 {X : (Nat → Int) × Nat} {d : Nat} {s : mSt} {Q : mQ} {a1 : Nat} (h : Wp X d 82 0 [some (mR 5), some (mR a1), none, none, none] [] s Q) : Sp X d 82 [mR 5, mR a1] s Q := Sp_of (show mCe 82 = 0 by decide +kernel) (by rw [show mML 82 = 5 by decide +kernel]; rfl) (Nat.le_trans (Nat.le_of_ble_eq_true (show Nat.ble (mArgs _).length 5 = true from rfl)) (show 5 ≤ mML 82 by decide +kernel)) h
-- 83 ClashDay$RuleReader.readValue(LClashDay$Rule;)Z
theorem k83 : mRk 83 = 2 := by decide +kernel
theorem f83_0 : mFetch 83 0 = some (.aload_n 0, 1, 0, 0, 0, 0) := by decide +kernel
theorem f83_1 : mFetch 83 1 = some (.getfield 9, 3, 6, 0, 2, 1) := by decide +kernel
theorem f83_4 : mFetch 83 4 = some (.invokevirtual 89, 3, 91, 0, 1, 8) := by decide +kernel
theorem f83_7 : mFetch 83 7 = some (.istore_n 2, 1, 0, 0, 0, 0) := by decide +kernel
theorem f83_8 : mFetch 83 8 = some (.iload_n 2, 1, 0, 0, 0, 0) := by decide +kernel
theorem f83_9 : mFetch 83 9 = some (.ifCond .lt 13, 3, 22, 0, 0, 0) := by decide +kernel
theorem f83_12 : mFetch 83 12 = some (.iload_n 2, 1, 0, 0, 0, 0) := by decide +kernel
theorem f83_13 : mFetch 83 13 = some (.bipush 11, 2, 0, 0, 0, 0) := by decide +kernel
theorem f83_15 : mFetch 83 15 = some (.if_icmp .ge 7, 3, 22, 0, 0, 0) := by decide +kernel
theorem f83_18 : mFetch 83 18 = some (.iconst 1, 1, 0, 0, 0, 0) := by decide +kernel
theorem f83_19 : mFetch 83 19 = some (.goto 4, 3, 23, 0, 0, 0) := by decide +kernel
theorem f83_22 : mFetch 83 22 = some (.iconst 0, 1, 0, 0, 0, 0) := by decide +kernel
theorem f83_23 : mFetch 83 23 = some (.istore_n 3, 1, 0, 0, 0, 0) := by decide +kernel
theorem f83_24 : mFetch 83 24 = some (.iload_n 3, 1, 0, 0, 0, 0) := by decide +kernel
theorem f83_25 : mFetch 83 25 = some (.ifCond .eq 7, 3, 32, 0, 0, 0) := by decide +kernel
theorem f83_28 : mFetch 83 28 = some (.iconst (-1), 1, 0, 0, 0, 0) := by decide +kernel
theorem f83_29 : mFetch 83 29 = some (.goto 13, 3, 42, 0, 0, 0) := by decide +kernel
theorem f83_32 : mFetch 83 32 = some (.aload_n 0, 1, 0, 0, 0, 0) := by decide +kernel
theorem f83_33 : mFetch 83 33 = some (.getfield 9, 3, 6, 0, 2, 1) := by decide +kernel
theorem f83_36 : mFetch 83 36 = some (.iconst 0, 1, 0, 0, 0, 0) := by decide +kernel
theorem f83_37 : mFetch 83 37 = some (.ldc 95, 2, 99999, 0, 0, 0) := by decide +kernel
theorem f83_39 : mFetch 83 39 = some (.invokevirtual 96, 3, 95, 0, 3, 8) := by decide +kernel
theorem f83_42 : mFetch 83 42 = some (.istore 4, 2, 0, 0, 0, 0) := by decide +kernel
theorem f83_44 : mFetch 83 44 = some (.iload 4, 2, 0, 0, 0, 0) := by decide +kernel
theorem f83_46 : mFetch 83 46 = some (.iconst (-1), 1, 0, 0, 0, 0) := by decide +kernel
theorem f83_47 : mFetch 83 47 = some (.if_icmp .eq 13, 3, 60, 0, 0, 0) := by decide +kernel
theorem f83_50 : mFetch 83 50 = some (.aload_n 0, 1, 0, 0, 0, 0) := by decide +kernel
theorem f83_51 : mFetch 83 51 = some (.getfield 9, 3, 6, 0, 2, 1) := by decide +kernel
theorem f83_54 : mFetch 83 54 = some (.iload 4, 2, 0, 0, 0, 0) := by decide +kernel
theorem f83_56 : mFetch 83 56 = some (.invokevirtual 44, 3, 94, 0, 2, 8) := by decide +kernel
theorem f83_59 : mFetch 83 59 = some (.ireturn, 1, 0, 0, 0, 0) := by decide +kernel
theorem f83_60 : mFetch 83 60 = some (.aload_n 0, 1, 0, 0, 0, 0) := by decide +kernel
theorem f83_61 : mFetch 83 61 = some (.getfield 25, 3, 6, 1, 0, 1) := by decide +kernel
theorem f83_64 : mFetch 83 64 = some (.bipush 60, 2, 0, 0, 0, 0) := by decide +kernel
theorem f83_66 : mFetch 83 66 = some (.if_icmp .lt 12, 3, 78, 0, 0, 0) := by decide +kernel
theorem f83_69 : mFetch 83 69 = some (.aload_n 0, 1, 0, 0, 0, 0) := by decide +kernel
theorem f83_70 : mFetch 83 70 = some (.getfield 9, 3, 6, 0, 2, 1) := by decide +kernel
theorem f83_73 : mFetch 83 73 = some (.iconst 3, 1, 0, 0, 0, 0) := by decide +kernel
theorem f83_74 : mFetch 83 74 = some (.invokevirtual 44, 3, 94, 0, 2, 8) := by decide +kernel
theorem f83_77 : mFetch 83 77 = some (.ireturn, 1, 0, 0, 0, 0) := by decide +kernel
theorem f83_78 : mFetch 83 78 = some (.aload_n 0, 1, 0, 0, 0, 0) := by decide +kernel
theorem f83_79 : mFetch 83 79 = some (.dup, 1, 0, 0, 0, 0) := by decide +kernel
theorem f83_80 : mFetch 83 80 = some (.getfield 25, 3, 6, 1, 0, 1) := by decide +kernel
theorem f83_83 : mFetch 83 83 = some (.iconst 1, 1, 0, 0, 0, 0) := by decide +kernel
theorem f83_84 : mFetch 83 84 = some (.iadd, 1, 0, 0, 0, 0) := by decide +kernel
theorem f83_85 : mFetch 83 85 = some (.putfield 25, 3, 6, 1, 0, 1) := by decide +kernel
theorem f83_88 : mFetch 83 88 = some (.aload_n 1, 1, 0, 0, 0, 0) := by decide +kernel
theorem f83_89 : mFetch 83 89 = some (.iload_n 3, 1, 0, 0, 0, 0) := by decide +kernel
theorem f83_90 : mFetch 83 90 = some (.ifCond .eq 10, 3, 100, 0, 0, 0) := by decide +kernel
theorem f83_93 : mFetch 83 93 = some (.ldc 100, 2, 100000, 0, 0, 0) := by decide +kernel
theorem f83_95 : mFetch 83 95 = some (.iload_n 2, 1, 0, 0, 0, 0) := by decide +kernel
theorem f83_96 : mFetch 83 96 = some (.iadd, 1, 0, 0, 0, 0) := by decide +kernel
theorem f83_97 : mFetch 83 97 = some (.goto 10, 3, 107, 0, 0, 0) := by decide +kernel
theorem f83_100 : mFetch 83 100 = some (.aload_n 0, 1, 0, 0, 0, 0) := by decide +kernel
theorem f83_101 : mFetch 83 101 = some (.getfield 9, 3, 6, 0, 2, 1) := by decide +kernel
theorem f83_104 : mFetch 83 104 = some (.getfield 101, 3, 8, 5, 0, 0) := by decide +kernel
theorem f83_107 : mFetch 83 107 = some (.invokevirtual 68, 3, 72, 0, 2, 5) := by decide +kernel
theorem f83_110 : mFetch 83 110 = some (.aload_n 0, 1, 0, 0, 0, 0) := by decide +kernel
theorem f83_111 : mFetch 83 111 = some (.getfield 9, 3, 6, 0, 2, 1) := by decide +kernel
theorem f83_114 : mFetch 83 114 = some (.invokevirtual 47, 3, 90, 0, 1, 8) := by decide +kernel
theorem f83_117 : mFetch 83 117 = some (.iconst 1, 1, 0, 0, 0, 0) := by decide +kernel
theorem f83_118 : mFetch 83 118 = some (.ireturn, 1, 0, 0, 0, 0) := by decide +kernel
theorem b83_0 {X : (Nat → Int) × Nat} {d : Nat} {s : mSt} {Q : mQ} {a1 : Nat} {l2 : Option mV} {l3 : Option mV} {l4 : Option mV} (h1 : isRl a1) (h_1 : Sp X d 91 [mR 1] s (fun r s' => ∃ v : Int, r = some (mI v) ∧ Wp X (d + 1) 83 7 [some (mR 5), some (mR a1), l2, l3, l4] [mI v] s' Q)) : Wp X (d + 1) 83 0 [some (mR 5), some (mR a1), l2, l3, l4] [] s Q := Wp_step k83 f83_0 (Wp_step k83 f83_1 ⟨kf_5, 1, rf_5_0, Wp_step k83 f83_4 ⟨⟨kf_1, Nat.le_of_ble_eq_true rfl⟩, Nat.le_refl _, _, rfl, Sp_E h_1⟩⟩)
theorem b83_7 {X : (Nat → Int) × Nat} {d : Nat} {s : mSt} {Q : mQ} {a1 : Nat} {l2 : Option mV} {l3 : Option mV} {l4 : Option mV} {xt0 : Int} (h1 : isRl a1) (h_1 : xt0 < 0 → Wp X d 83 22 [some (mR 5), some (mR a1), some (mI xt0), l3, l4] [] s Q) (h_2 : ¬ xt0 < 0 → Wp X d 83 12 [some (mR 5), some (mR a1), some (mI xt0), l3, l4] [] s Q) : Wp X d 83 7 [some (mR 5), some (mR a1), l2, l3, l4] [mI xt0] s Q := Wp_step k83 f83_7 (Wp_step k83 f83_8 (Wp_step k83 f83_9 ⟨h_1, h_2⟩))
theorem b83_12 {X : (Nat → Int) × Nat} {d : Nat} {s : mSt} {Q : mQ} {a1 : Nat} {x2 : Int} {l3 : Option mV} {l4 : Option mV} (h1 : isRl a1) (h_1 : 11 ≤ x2 → Wp X d 83 22 [some (mR 5), some (mR a1), some (mI x2), l3, l4] [] s Q) (h_2 : ¬ 11 ≤ x2 → Wp X d 83 18 [some (mR 5), some (mR a1), some (mI x2), l3, l4] [] s Q) : Wp X d 83 12 [some (mR 5), some (mR a1), some (mI x2), l3, l4] [] s Q := Wp_step k83 f83_12 (Wp_step k83 f83_13 (Wp_step k83 f83_15 ⟨h_1, h_2⟩))
theorem b83_18 {X : (Nat → Int) × Nat} {d : Nat} {s : mSt} {Q : mQ} {a1 : Nat} {x2 : Int} {l3 : Option mV} {l4 : Option mV} (h1 : isRl a1) (h_1 : Wp X d 83 23 [some (mR 5), some (mR a1), some (mI x2), l3, l4] [mI 1] s Q) : Wp X d 83 18 [some (mR 5), some (mR a1), some (mI x2), l3, l4] [] s Q := Wp_step k83 f83_18 (Wp_step k83 f83_19 (h_1))
theorem b83_22 {X : (Nat → Int) × Nat} {d : Nat} {s : mSt} {Q : mQ} {a1 : Nat} {x2 : Int} {l3 : Option mV} {l4 : Option mV} (h1 : isRl a1) (h_1 : Wp X d 83 23 [some (mR 5), some (mR a1), some (mI x2), l3, l4] [mI 0] s Q) : Wp X d 83 22 [some (mR 5), some (mR a1), some (mI x2), l3, l4] [] s Q := Wp_step k83 f83_22 (h_1)
theorem b83_23 {X : (Nat → Int) × Nat} {d : Nat} {s : mSt} {Q : mQ} {a1 : Nat} {x2 : Int} {l3 : Option mV} {l4 : Option mV} {xt0 : Int} (h1 : isRl a1) (h_1 : xt0 = 0 → Wp X d 83 32 [some (mR 5), some (mR a1), some (mI x2), some (mI xt0), l4] [] s Q) (h_2 : ¬ xt0 = 0 → Wp X d 83 28 [some (mR 5), some (mR a1), some (mI x2), some (mI xt0), l4] [] s Q) : Wp X d 83 23 [some (mR 5), some (mR a1), some (mI x2), l3, l4] [mI xt0] s Q := Wp_step k83 f83_23 (Wp_step k83 f83_24 (Wp_step k83 f83_25 ⟨h_1, h_2⟩))
theorem b83_28 {X : (Nat → Int) × Nat} {d : Nat} {s : mSt} {Q : mQ} {a1 : Nat} {x2 : Int} {x3 : Int} {l4 : Option mV} (h1 : isRl a1) (h_1 : Wp X d 83 42 [some (mR 5), some (mR a1), some (mI x2), some (mI x3), l4] [mI (-1)] s Q) : Wp X d 83 28 [some (mR 5), some (mR a1), some (mI x2), some (mI x3), l4] [] s Q := Wp_step k83 f83_28 (Wp_step k83 f83_29 (h_1))
theorem b83_32 {X : (Nat → Int) × Nat} {d : Nat} {s : mSt} {Q : mQ} {a1 : Nat} {x2 : Int} {x3 : Int} {l4 : Option mV} (h1 : isRl a1) (h_1 : Sp X d 95 [mR 1, mI 0, mI 99999] s (fun r s' => ∃ v : Int, r = some (mI v) ∧ Wp X (d + 1) 83 42 [some (mR 5), some (mR a1), some (mI x2), some (mI x3), l4] [mI v] s' Q)) : Wp X (d + 1) 83 32 [some (mR 5), some (mR a1), some (mI x2), some (mI x3), l4] [] s Q := Wp_step k83 f83_32 (Wp_step k83 f83_33 ⟨kf_5, 1, rf_5_0, Wp_step k83 f83_36 (Wp_step k83 f83_37 (Wp_step k83 f83_39 ⟨⟨kf_1, Nat.le_of_ble_eq_true rfl⟩, Nat.le_refl _, _, rfl, Sp_E h_1⟩))⟩)
theorem b83_42 {X : (Nat → Int) × Nat} {d : Nat} {s : mSt} {Q : mQ} {a1 : Nat} {x2 : Int} {x3 : Int} {l4 : Option mV} {xt0 : Int} (h1 : isRl a1) (h_1 : xt0 = (-1) → Wp X d 83 60 [some (mR 5), some (mR a1), some (mI x2), some (mI x3), some (mI xt0)] [] s Q) (h_2 : ¬ xt0 = (-1) → Wp X d 83 50 [some (mR 5), some (mR a1), some (mI x2), some (mI x3), some (mI xt0)] [] s Q) : Wp X d 83 42 [some (mR 5), some (mR a1), some (mI x2), some (mI x3), l4] [mI xt0] s Q := Wp_step k83 f83_42 (Wp_step k83 f83_44 (Wp_step k83 f83_46 (Wp_step k83 f83_47 ⟨h_1, h_2⟩)))
theorem b83_50 {X : (Nat → Int) × Nat} {d : Nat} {s : mSt} {Q : mQ} {a1 : Nat} {x2 : Int} {x3 : Int} {x4 : Int} (h1 : isRl a1) (h_1 : Sp X d 94 [mR 1, mI x4] s (fun r s' => ∃ v : Int, r = some (mI v) ∧ Wp X (d + 1) 83 59 [some (mR 5), some (mR a1), some (mI x2), some (mI x3), some (mI x4)] [mI v] s' Q)) : Wp X (d + 1) 83 50 [some (mR 5), some (mR a1), some (mI x2), some (mI x3), some (mI x4)] [] s Q := Wp_step k83 f83_50 (Wp_step k83 f83_51 ⟨kf_5, 1, rf_5_0, Wp_step k83 f83_54 (Wp_step k83 f83_56 ⟨⟨kf_1, Nat.le_of_ble_eq_true rfl⟩, Nat.le_refl _, _, rfl, Sp_E h_1⟩)⟩)
theorem b83_59 {X : (Nat → Int) × Nat} {d : Nat} {s : mSt} {Q : mQ} {a1 : Nat} {x2 : Int} {x3 : Int} {x4 : Int} {xt0 : Int} (h1 : isRl a1) (h_1 : Q (some (mI xt0)) s) (h_2 : xt0 = 0 ∨ xt0 = 1) : Wp X d 83 59 [some (mR 5), some (mR a1), some (mI x2), some (mI x3), some (mI x4)] [mI xt0] s Q := Wp_step k83 f83_59 ⟨⟨rfl, h_2⟩, h_1⟩
theorem b83_60 {X : (Nat → Int) × Nat} {d : Nat} {s : mSt} {Q : mQ} {a1 : Nat} {x2 : Int} {x3 : Int} {x4 : Int} (h1 : isRl a1) (h_1 : (s 5 1) < 60 → Wp X d 83 78 [some (mR 5), some (mR a1), some (mI x2), some (mI x3), some (mI x4)] [] s Q) (h_2 : ¬ (s 5 1) < 60 → Wp X d 83 69 [some (mR 5), some (mR a1), some (mI x2), some (mI x3), some (mI x4)] [] s Q) : Wp X d 83 60 [some (mR 5), some (mR a1), some (mI x2), some (mI x3), some (mI x4)] [] s Q := Wp_step k83 f83_60 (Wp_step k83 f83_61 ⟨kf_5, Wp_step k83 f83_64 (Wp_step k83 f83_66 ⟨h_1, h_2⟩)⟩)
theorem b83_69 {X : (Nat → Int) × Nat} {d : Nat} {s : mSt} {Q : mQ} {a1 : Nat} {x2 : Int} {x3 : Int} {x4 : Int} (h1 : isRl a1) (h_1 : Sp X d 94 [mR 1, mI 3] s (fun r s' => ∃ v : Int, r = some (mI v) ∧ Wp X (d + 1) 83 77 [some (mR 5), some (mR a1), some (mI x2), some (mI x3), some (mI x4)] [mI v] s' Q)) : Wp X (d + 1) 83 69 [some (mR 5), some (mR a1), some (mI x2), some (mI x3), some (mI x4)] [] s Q := Wp_step k83 f83_69 (Wp_step k83 f83_70 ⟨kf_5, 1, rf_5_0, Wp_step k83 f83_73 (Wp_step k83 f83_74 ⟨⟨kf_1, Nat.le_of_ble_eq_true rfl⟩, Nat.le_refl _, _, rfl, Sp_E h_1⟩)⟩)
theorem b83_77 {X : (Nat → Int) × Nat} {d : Nat} {s : mSt} {Q : mQ} {a1 : Nat} {x2 : Int} {x3 : Int} {x4 : Int} {xt0 : Int} (h1 : isRl a1) (h_1 : Q (some (mI xt0)) s) (h_2 : xt0 = 0 ∨ xt0 = 1) : Wp X d 83 77 [some (mR 5), some (mR a1), some (mI x2), some (mI x3), some (mI x4)] [mI xt0] s Q := Wp_step k83 f83_77 ⟨⟨rfl, h_2⟩, h_1⟩
theorem b83_78 {X : (Nat → Int) × Nat} {d : Nat} {s : mSt} {Q : mQ} {a1 : Nat} {x2 : Int} {x3 : Int} {x4 : Int} (h1 : isRl a1) (h_1 : x3 = 0 → Wp X d 83 100 [some (mR 5), some (mR a1), some (mI x2), some (mI x3), some (mI x4)] [mR a1] (uS s 5 1 (w32 ((s 5 1) + 1))) Q) (h_2 : ¬ x3 = 0 → Wp X d 83 93 [some (mR 5), some (mR a1), some (mI x2), some (mI x3), some (mI x4)] [mR a1] (uS s 5 1 (w32 ((s 5 1) + 1))) Q) : Wp X d 83 78 [some (mR 5), some (mR a1), some (mI x2), some (mI x3), some (mI x4)] [] s Q := Wp_step k83 f83_78 (Wp_step k83 f83_79 (Wp_step k83 f83_80 ⟨kf_5, Wp_step k83 f83_83 (Wp_step k83 f83_84 (Wp_step k83 f83_85 ⟨kf_5, Wp_step k83 f83_88 (Wp_step k83 f83_89 (Wp_step k83 f83_90 ⟨h_1, h_2⟩))⟩))⟩))
theorem b83_93 {X : (Nat → Int) × Nat} {d : Nat} {s : mSt} {Q : mQ} {a1 : Nat} {x2 : Int} {x3 : Int} {x4 : Int} {at0 : Nat} (h1 : isRl a1) (ht0 : isRl at0) (h_1 : Wp X d 83 107 [some (mR 5), some (mR a1), some (mI x2), some (mI x3), some (mI x4)] [mI (w32 (100000 + x2)), mR at0] s Q) : Wp X d 83 93 [some (mR 5), some (mR a1), some (mI x2), some (mI x3), some (mI x4)] [mR at0] s Q := Wp_step k83 f83_93 (Wp_step k83 f83_95 (Wp_step k83 f83_96 (Wp_step k83 f83_97 (h_1))))
theorem b83_100 {X : (Nat → Int) × Nat} {d : Nat} {s : mSt} {Q : mQ} {a1 : Nat} {x2 : Int} {x3 : Int} {x4 : Int} {at0 : Nat} (h1 : isRl a1) (ht0 : isRl at0) (h_1 : Wp X d 83 107 [some (mR 5), some (mR a1), some (mI x2), some (mI x3), some (mI x4)] [mI (s 1 5), mR at0] s Q) : Wp X d 83 100 [some (mR 5), some (mR a1), some (mI x2), some (mI x3), some (mI x4)] [mR at0] s Q := Wp_step k83 f83_100 (Wp_step k83 f83_101 ⟨kf_5, 1, rf_5_0, Wp_step k83 f83_104 ⟨kf_1, h_1⟩⟩)
theorem b83_107 {X : (Nat → Int) × Nat} {d : Nat} {s : mSt} {Q : mQ} {a1 : Nat} {x2 : Int} {x3 : Int} {x4 : Int} {at0 : Nat} {xt1 : Int} (h1 : isRl a1) (ht0 : isRl at0) (h_1 : Sp X d 72 [mR at0, mI xt1] s (fun r s' => r = none ∧ Wp X (d + 1) 83 110 [some (mR 5), some (mR a1), some (mI x2), some (mI x3), some (mI x4)] [] s' Q)) : Wp X (d + 1) 83 107 [some (mR 5), some (mR a1), some (mI x2), some (mI x3), some (mI x4)] [mI xt1, mR at0] s Q := Wp_step k83 f83_107 ⟨⟨(rl_k ht0), Nat.le_of_ble_eq_true rfl⟩, Nat.le_refl _, _, rfl, Sp_V h_1⟩
theorem b83_110 {X : (Nat → Int) × Nat} {d : Nat} {s : mSt} {Q : mQ} {a1 : Nat} {x2 : Int} {x3 : Int} {x4 : Int} (h1 : isRl a1) (h_1 : Sp X d 90 [mR 1] s (fun r s' => r = none ∧ Wp X (d + 1) 83 117 [some (mR 5), some (mR a1), some (mI x2), some (mI x3), some (mI x4)] [] s' Q)) : Wp X (d + 1) 83 110 [some (mR 5), some (mR a1), some (mI x2), some (mI x3), some (mI x4)] [] s Q := Wp_step k83 f83_110 (Wp_step k83 f83_111 ⟨kf_5, 1, rf_5_0, Wp_step k83 f83_114 ⟨⟨kf_1, Nat.le_of_ble_eq_true rfl⟩, Nat.le_refl _, _, rfl, Sp_V h_1⟩⟩)
theorem b83_117 {X : (Nat → Int) × Nat} {d : Nat} {s : mSt} {Q : mQ} {a1 : Nat} {x2 : Int} {x3 : Int} {x4 : Int} (h1 : isRl a1) (h_1 : Q (some (mI 1)) s) : Wp X d 83 117 [some (mR 5), some (mR a1), some (mI x2), some (mI x3), some (mI x4)] [] s Q := Wp_step k83 f83_117 (Wp_step k83 f83_118 ⟨⟨rfl, (Or.inr rfl)⟩, h_1⟩)
theorem e83 {X : (Nat → Int) × Nat} {d : Nat} {s : mSt} {Q : mQ} {a1 : Nat} (h : Wp X d 83 0 [some (mR 5), some (mR a1), none, none, none] [] s Q) : Sp X d 83 [mR 5, mR a1] s Q := Sp_of (show mCe 83 = 0 by decide +kernel) (by rw [show mML 83 = 5 by decide +kernel]; rfl) (Nat.le_trans (Nat.le_of_ble_eq_true (show Nat.ble (mArgs _).length 5 = true from rfl)) (show 5 ≤ mML 83 by decide +kernel)) h
-- 85 ClashDay$Scene.copyFrom(LClashDay$Scene;)V
theorem k85 : mRk 85 = 0 := by decide +kernel
theorem f85_0 : mFetch 85 0 = some (.aload_n 0, 1, 0, 0, 0, 0) := by decide +kernel
theorem f85_1 : mFetch 85 1 = some (.getfield 12, 3, 7, 0, 2, 1) := by decide +kernel
theorem f85_4 : mFetch 85 4 = some (.aload_n 1, 1, 0, 0, 0, 0) := by decide +kernel
theorem f85_5 : mFetch 85 5 = some (.getfield 12, 3, 7, 0, 2, 1) := by decide +kernel
theorem f85_8 : mFetch 85 8 = some (.invokevirtual 32, 3, 3, 0, 2, 0) := by decide +kernel
theorem f85_11 : mFetch 85 11 = some (.aload_n 0, 1, 0, 0, 0, 0) := by decide +kernel
theorem f85_12 : mFetch 85 12 = some (.getfield 18, 3, 7, 1, 2, 1) := by decide +kernel
theorem f85_15 : mFetch 85 15 = some (.aload_n 1, 1, 0, 0, 0, 0) := by decide +kernel
theorem f85_16 : mFetch 85 16 = some (.getfield 18, 3, 7, 1, 2, 1) := by decide +kernel
theorem f85_19 : mFetch 85 19 = some (.invokevirtual 32, 3, 3, 0, 2, 0) := by decide +kernel
theorem f85_22 : mFetch 85 22 = some (.aload_n 0, 1, 0, 0, 0, 0) := by decide +kernel
theorem f85_23 : mFetch 85 23 = some (.getfield 24, 3, 7, 2, 2, 1) := by decide +kernel
theorem f85_26 : mFetch 85 26 = some (.aload_n 1, 1, 0, 0, 0, 0) := by decide +kernel
theorem f85_27 : mFetch 85 27 = some (.getfield 24, 3, 7, 2, 2, 1) := by decide +kernel
theorem f85_30 : mFetch 85 30 = some (.invokevirtual 36, 3, 53, 0, 2, 3) := by decide +kernel
theorem f85_33 : mFetch 85 33 = some (.aload_n 0, 1, 0, 0, 0, 0) := by decide +kernel
theorem f85_34 : mFetch 85 34 = some (.aload_n 1, 1, 0, 0, 0, 0) := by decide +kernel
theorem f85_35 : mFetch 85 35 = some (.getfield 28, 3, 7, 3, 0, 1) := by decide +kernel
theorem f85_38 : mFetch 85 38 = some (.putfield 28, 3, 7, 3, 0, 1) := by decide +kernel
theorem f85_41 : mFetch 85 41 = some (.aload_n 0, 1, 0, 0, 0, 0) := by decide +kernel
theorem f85_42 : mFetch 85 42 = some (.aload_n 1, 1, 0, 0, 0, 0) := by decide +kernel
theorem f85_43 : mFetch 85 43 = some (.getfield 39, 3, 7, 4, 0, 1) := by decide +kernel
theorem f85_46 : mFetch 85 46 = some (.putfield 39, 3, 7, 4, 0, 1) := by decide +kernel
theorem f85_49 : mFetch 85 49 = some (.return_, 1, 0, 0, 0, 0) := by decide +kernel
theorem b85_0 {X : (Nat → Int) × Nat} {d : Nat} {s : mSt} {Q : mQ} {a0 : Nat} {a1 : Nat} (h0 : isSc a0) (h1 : isSc a1) (h_1 : Sp X d 3 [mR (a0 + 1), mR (a1 + 1)] s (fun r s' => r = none ∧ Wp X (d + 1) 85 11 [some (mR a0), some (mR a1)] [] s' Q)) : Wp X (d + 1) 85 0 [some (mR a0), some (mR a1)] [] s Q := Wp_step k85 f85_0 (Wp_step k85 f85_1 ⟨(sc_k h0), (a0 + 1), (sc_r0 h0), Wp_step k85 f85_4 (Wp_step k85 f85_5 ⟨(sc_k h1), (a1 + 1), (sc_r0 h1), Wp_step k85 f85_8 ⟨⟨(bd_k (sc_o0 h0)), Nat.le_of_ble_eq_true rfl⟩, Nat.le_refl _, _, rfl, Sp_V h_1⟩⟩)⟩)
theorem b85_11 {X : (Nat → Int) × Nat} {d : Nat} {s : mSt} {Q : mQ} {a0 : Nat} {a1 : Nat} (h0 : isSc a0) (h1 : isSc a1) (h_1 : Sp X d 3 [mR (a0 + 11), mR (a1 + 11)] s (fun r s' => r = none ∧ Wp X (d + 1) 85 22 [some (mR a0), some (mR a1)] [] s' Q)) : Wp X (d + 1) 85 11 [some (mR a0), some (mR a1)] [] s Q := Wp_step k85 f85_11 (Wp_step k85 f85_12 ⟨(sc_k h0), (a0 + 11), (sc_r1 h0), Wp_step k85 f85_15 (Wp_step k85 f85_16 ⟨(sc_k h1), (a1 + 11), (sc_r1 h1), Wp_step k85 f85_19 ⟨⟨(bd_k (sc_o1 h0)), Nat.le_of_ble_eq_true rfl⟩, Nat.le_refl _, _, rfl, Sp_V h_1⟩⟩)⟩)
theorem b85_22 {X : (Nat → Int) × Nat} {d : Nat} {s : mSt} {Q : mQ} {a0 : Nat} {a1 : Nat} (h0 : isSc a0) (h1 : isSc a1) (h_1 : Sp X d 53 [mR (a0 + 21), mR (a1 + 21)] s (fun r s' => r = none ∧ Wp X (d + 1) 85 33 [some (mR a0), some (mR a1)] [] s' Q)) : Wp X (d + 1) 85 22 [some (mR a0), some (mR a1)] [] s Q := Wp_step k85 f85_22 (Wp_step k85 f85_23 ⟨(sc_k h0), (a0 + 21), (sc_r2 h0), Wp_step k85 f85_26 (Wp_step k85 f85_27 ⟨(sc_k h1), (a1 + 21), (sc_r2 h1), Wp_step k85 f85_30 ⟨⟨(nt_k (sc_o2 h0)), Nat.le_of_ble_eq_true rfl⟩, Nat.le_refl _, _, rfl, Sp_V h_1⟩⟩)⟩)
theorem b85_33 {X : (Nat → Int) × Nat} {d : Nat} {s : mSt} {Q : mQ} {a0 : Nat} {a1 : Nat} (h0 : isSc a0) (h1 : isSc a1) (h_1 : Q none (uS (uS s a0 3 (s a1 3)) a0 4 ((uS s a0 3 (s a1 3)) a1 4))) : Wp X d 85 33 [some (mR a0), some (mR a1)] [] s Q := Wp_step k85 f85_33 (Wp_step k85 f85_34 (Wp_step k85 f85_35 ⟨(sc_k h1), Wp_step k85 f85_38 ⟨(sc_k h0), Wp_step k85 f85_41 (Wp_step k85 f85_42 (Wp_step k85 f85_43 ⟨(sc_k h1), Wp_step k85 f85_46 ⟨(sc_k h0), Wp_step k85 f85_49 ⟨⟨rfl, Or.inl rfl⟩, h_1⟩⟩⟩))⟩⟩))
theorem e85 {X : (Nat → Int) × Nat} {d : Nat} {s : mSt} {Q : mQ} {a0 : Nat} {a1 : Nat} (h : Wp X d 85 0 [some (mR a0), some (mR a1)] [] s Q) : Sp X d 85 [mR a0, mR a1] s Q := Sp_of (show mCe 85 = 0 by decide +kernel) (by rw [show mML 85 = 2 by decide +kernel]; rfl) (Nat.le_trans (Nat.le_of_ble_eq_true (show Nat.ble (mArgs _).length 2 = true from rfl)) (show 2 ≤ mML 85 by decide +kernel)) h
-- 87 ClashDay$Tape.hasRoom(I)Z
theorem k87 : mRk 87 = 2 := by decide +kernel
theorem f87_0 : mFetch 87 0 = some (.aload_n 0, 1, 0, 0, 0, 0) := by decide +kernel
theorem f87_1 : mFetch 87 1 = some (.getfield 15, 3, 8, 1, 0, 1) := by decide +kernel
theorem f87_4 : mFetch 87 4 = some (.iload_n 1, 1, 0, 0, 0, 0) := by decide +kernel
theorem f87_5 : mFetch 87 5 = some (.iadd, 1, 0, 0, 0, 0) := by decide +kernel
theorem f87_6 : mFetch 87 6 = some (.sipush 400, 3, 0, 0, 0, 0) := by decide +kernel
theorem f87_9 : mFetch 87 9 = some (.if_icmp .gt 7, 3, 16, 0, 0, 0) := by decide +kernel
theorem f87_12 : mFetch 87 12 = some (.iconst 1, 1, 0, 0, 0, 0) := by decide +kernel
theorem f87_13 : mFetch 87 13 = some (.goto 4, 3, 17, 0, 0, 0) := by decide +kernel
theorem f87_16 : mFetch 87 16 = some (.iconst 0, 1, 0, 0, 0, 0) := by decide +kernel
theorem f87_17 : mFetch 87 17 = some (.ireturn, 1, 0, 0, 0, 0) := by decide +kernel
theorem b87_0 {X : (Nat → Int) × Nat} {d : Nat} {s : mSt} {Q : mQ} {x1 : Int} (h_1 : 400 < (w32 ((s 1 1) + x1)) → Wp X d 87 16 [some (mR 1), some (mI x1)] [] s Q) (h_2 : ¬ 400 < (w32 ((s 1 1) + x1)) → Wp X d 87 12 [some (mR 1), some (mI x1)] [] s Q) : Wp X d 87 0 [some (mR 1), some (mI x1)] [] s Q := Wp_step k87 f87_0 (Wp_step k87 f87_1 ⟨kf_1, Wp_step k87 f87_4 (Wp_step k87 f87_5 (Wp_step k87 f87_6 (Wp_step k87 f87_9 ⟨h_1, h_2⟩)))⟩)
theorem b87_12 {X : (Nat → Int) × Nat} {d : Nat} {s : mSt} {Q : mQ} {x1 : Int} (h_1 : Wp X d 87 17 [some (mR 1), some (mI x1)] [mI 1] s Q) : Wp X d 87 12 [some (mR 1), some (mI x1)] [] s Q := Wp_step k87 f87_12 (Wp_step k87 f87_13 (h_1))
theorem b87_16 {X : (Nat → Int) × Nat} {d : Nat} {s : mSt} {Q : mQ} {x1 : Int} (h_1 : Wp X d 87 17 [some (mR 1), some (mI x1)] [mI 0] s Q) : Wp X d 87 16 [some (mR 1), some (mI x1)] [] s Q := Wp_step k87 f87_16 (h_1)
theorem b87_17 {X : (Nat → Int) × Nat} {d : Nat} {s : mSt} {Q : mQ} {x1 : Int} {xt0 : Int} (h_1 : Q (some (mI xt0)) s) (h_2 : xt0 = 0 ∨ xt0 = 1) : Wp X d 87 17 [some (mR 1), some (mI x1)] [mI xt0] s Q := Wp_step k87 f87_17 ⟨⟨rfl, h_2⟩, h_1⟩
theorem e87 {X : (Nat → Int) × Nat} {d : Nat} {s : mSt} {Q : mQ} {x1 : Int} (h : Wp X d 87 0 [some (mR 1), some (mI x1)] [] s Q) : Sp X d 87 [mR 1, mI x1] s Q := Sp_of (show mCe 87 = 0 by decide +kernel) (by rw [show mML 87 = 2 by decide +kernel]; rfl) (Nat.le_trans (Nat.le_of_ble_eq_true (show Nat.ble (mArgs _).length 2 = true from rfl)) (show 2 ≤ mML 87 by decide +kernel)) h
-- 88 ClashDay$Tape.append(I)V
theorem k88 : mRk 88 = 0 := by decide +kernel
theorem f88_0 : mFetch 88 0 = some (.bipush 24, 2, 0, 0, 0, 0) := by decide +kernel
theorem f88_2 : mFetch 88 2 = some (.istore_n 2, 1, 0, 0, 0, 0) := by decide +kernel
theorem f88_3 : mFetch 88 3 = some (.iload_n 2, 1, 0, 0, 0, 0) := by decide +kernel
theorem f88_4 : mFetch 88 4 = some (.ifCond .lt 46, 3, 50, 0, 0, 0) := by decide +kernel
theorem f88_7 : mFetch 88 7 = some (.aload_n 0, 1, 0, 0, 0, 0) := by decide +kernel
theorem f88_8 : mFetch 88 8 = some (.getfield 15, 3, 8, 1, 0, 1) := by decide +kernel
theorem f88_11 : mFetch 88 11 = some (.sipush 400, 3, 0, 0, 0, 0) := by decide +kernel
theorem f88_14 : mFetch 88 14 = some (.if_icmp .ge 30, 3, 44, 0, 0, 0) := by decide +kernel
theorem f88_17 : mFetch 88 17 = some (.aload_n 0, 1, 0, 0, 0, 0) := by decide +kernel
theorem f88_18 : mFetch 88 18 = some (.getfield 11, 3, 8, 0, 2, 1) := by decide +kernel
theorem f88_21 : mFetch 88 21 = some (.aload_n 0, 1, 0, 0, 0, 0) := by decide +kernel
theorem f88_22 : mFetch 88 22 = some (.getfield 15, 3, 8, 1, 0, 1) := by decide +kernel
theorem f88_25 : mFetch 88 25 = some (.iload_n 1, 1, 0, 0, 0, 0) := by decide +kernel
theorem f88_26 : mFetch 88 26 = some (.iload_n 2, 1, 0, 0, 0, 0) := by decide +kernel
theorem f88_27 : mFetch 88 27 = some (.iushr, 1, 0, 0, 0, 0) := by decide +kernel
theorem f88_28 : mFetch 88 28 = some (.sipush 255, 3, 0, 0, 0, 0) := by decide +kernel
theorem f88_31 : mFetch 88 31 = some (.iand, 1, 0, 0, 0, 0) := by decide +kernel
theorem f88_32 : mFetch 88 32 = some (.i2c, 1, 0, 0, 0, 0) := by decide +kernel
theorem f88_33 : mFetch 88 33 = some (.castore, 1, 0, 0, 0, 0) := by decide +kernel
theorem f88_34 : mFetch 88 34 = some (.aload_n 0, 1, 0, 0, 0, 0) := by decide +kernel
theorem f88_35 : mFetch 88 35 = some (.dup, 1, 0, 0, 0, 0) := by decide +kernel
theorem f88_36 : mFetch 88 36 = some (.getfield 15, 3, 8, 1, 0, 1) := by decide +kernel
theorem f88_39 : mFetch 88 39 = some (.iconst 1, 1, 0, 0, 0, 0) := by decide +kernel
theorem f88_40 : mFetch 88 40 = some (.iadd, 1, 0, 0, 0, 0) := by decide +kernel
theorem f88_41 : mFetch 88 41 = some (.putfield 15, 3, 8, 1, 0, 1) := by decide +kernel
theorem f88_44 : mFetch 88 44 = some (.iinc 2 (-8), 3, 0, 0, 0, 0) := by decide +kernel
theorem f88_47 : mFetch 88 47 = some (.goto (-44), 3, 3, 0, 0, 0) := by decide +kernel
theorem f88_50 : mFetch 88 50 = some (.return_, 1, 0, 0, 0, 0) := by decide +kernel
theorem b88_0 {X : (Nat → Int) × Nat} {d : Nat} {s : mSt} {Q : mQ} {x1 : Int} {l2 : Option mV} (h_1 : Wp X d 88 3 [some (mR 1), some (mI x1), some (mI 24)] [] s Q) : Wp X d 88 0 [some (mR 1), some (mI x1), l2] [] s Q := Wp_step k88 f88_0 (Wp_step k88 f88_2 (h_1))
theorem b88_3 {X : (Nat → Int) × Nat} {d : Nat} {s : mSt} {Q : mQ} {x1 : Int} {x2 : Int} (h_1 : x2 < 0 → Wp X d 88 50 [some (mR 1), some (mI x1), some (mI x2)] [] s Q) (h_2 : ¬ x2 < 0 → Wp X d 88 7 [some (mR 1), some (mI x1), some (mI x2)] [] s Q) : Wp X d 88 3 [some (mR 1), some (mI x1), some (mI x2)] [] s Q := Wp_step k88 f88_3 (Wp_step k88 f88_4 ⟨h_1, h_2⟩)
theorem b88_7 {X : (Nat → Int) × Nat} {d : Nat} {s : mSt} {Q : mQ} {x1 : Int} {x2 : Int} (h_1 : 400 ≤ (s 1 1) → Wp X d 88 44 [some (mR 1), some (mI x1), some (mI x2)] [] s Q) (h_2 : ¬ 400 ≤ (s 1 1) → Wp X d 88 17 [some (mR 1), some (mI x1), some (mI x2)] [] s Q) : Wp X d 88 7 [some (mR 1), some (mI x1), some (mI x2)] [] s Q := Wp_step k88 f88_7 (Wp_step k88 f88_8 ⟨kf_1, Wp_step k88 f88_11 (Wp_step k88 f88_14 ⟨h_1, h_2⟩)⟩)
theorem b88_17 {X : (Nat → Int) × Nat} {d : Nat} {s : mSt} {Q : mQ} {x1 : Int} {x2 : Int} (h_1 : 0 ≤ (s 1 1) ∧ (s 1 1) < 400) (h_2 : 0 ≤ ((iAnd (iUsh x1 x2) 255) % 65536) ∧ ((iAnd (iUsh x1 x2) 255) % 65536) < 65536) (h_3 : Wp X d 88 44 [some (mR 1), some (mI x1), some (mI x2)] [] (uS (uS s 2 ((s 1 1).toNat) ((iAnd (iUsh x1 x2) 255) % 65536)) 1 1 (w32 (((uS s 2 ((s 1 1).toNat) ((iAnd (iUsh x1 x2) 255) % 65536)) 1 1) + 1))) Q) : Wp X d 88 17 [some (mR 1), some (mI x1), some (mI x2)] [] s Q := Wp_step k88 f88_17 (Wp_step k88 f88_18 ⟨kf_1, 2, rf_1_0, Wp_step k88 f88_21 (Wp_step k88 f88_22 ⟨kf_1, Wp_step k88 f88_25 (Wp_step k88 f88_26 (Wp_step k88 f88_27 (Wp_step k88 f88_28 (Wp_step k88 f88_31 (Wp_step k88 f88_32 (Wp_step k88 f88_33 ⟨400, af_2, h_2, h_1, Wp_step k88 f88_34 (Wp_step k88 f88_35 (Wp_step k88 f88_36 ⟨kf_1, Wp_step k88 f88_39 (Wp_step k88 f88_40 (Wp_step k88 f88_41 ⟨kf_1, h_3⟩))⟩))⟩))))))⟩)⟩)
theorem b88_44 {X : (Nat → Int) × Nat} {d : Nat} {s : mSt} {Q : mQ} {x1 : Int} {x2 : Int} (h_1 : Wp X d 88 3 [some (mR 1), some (mI x1), some (mI (w32 (x2 + (-8))))] [] s Q) : Wp X d 88 44 [some (mR 1), some (mI x1), some (mI x2)] [] s Q := Wp_step k88 f88_44 (Wp_step k88 f88_47 (h_1))
theorem b88_50 {X : (Nat → Int) × Nat} {d : Nat} {s : mSt} {Q : mQ} {x1 : Int} {x2 : Int} (h_1 : Q none s) : Wp X d 88 50 [some (mR 1), some (mI x1), some (mI x2)] [] s Q := Wp_step k88 f88_50 ⟨⟨rfl, Or.inl rfl⟩, h_1⟩
theorem e88 {X : (Nat → Int) × Nat} {d : Nat} {s : mSt} {Q : mQ} {x1 : Int} (h : Wp X d 88 0 [some (mR 1), some (mI x1), none] [] s Q) : Sp X d 88 [mR 1, mI x1] s Q := Sp_of (show mCe 88 = 0 by decide +kernel) (by rw [show mML 88 = 3 by decide +kernel]; rfl) (Nat.le_trans (Nat.le_of_ble_eq_true (show Nat.ble (mArgs _).length 3 = true from rfl)) (show 3 ≤ mML 88 by decide +kernel)) h
-- 89 ClashDay$Tape.rewind()V
theorem k89 : mRk 89 = 0 := by decide +kernel
theorem f89_0 : mFetch 89 0 = some (.aload_n 0, 1, 0, 0, 0, 0) := by decide +kernel
theorem f89_1 : mFetch 89 1 = some (.iconst 0, 1, 0, 0, 0, 0) := by decide +kernel
theorem f89_2 : mFetch 89 2 = some (.putfield 19, 3, 8, 4, 0, 1) := by decide +kernel
theorem f89_5 : mFetch 89 5 = some (.aload_n 0, 1, 0, 0, 0, 0) := by decide +kernel
theorem f89_6 : mFetch 89 6 = some (.iconst 0, 1, 0, 0, 0, 0) := by decide +kernel
theorem f89_7 : mFetch 89 7 = some (.putfield 22, 3, 8, 6, 0, 1) := by decide +kernel
theorem f89_10 : mFetch 89 10 = some (.aload_n 0, 1, 0, 0, 0, 0) := by decide +kernel
theorem f89_11 : mFetch 89 11 = some (.invokevirtual 25, 3, 90, 0, 1, 8) := by decide +kernel
theorem f89_14 : mFetch 89 14 = some (.return_, 1, 0, 0, 0, 0) := by decide +kernel
theorem b89_0 {X : (Nat → Int) × Nat} {d : Nat} {s : mSt} {Q : mQ} (h_1 : Sp X d 90 [mR 1] (uS (uS s 1 4 0) 1 6 0) (fun r s' => r = none ∧ Wp X (d + 1) 89 14 [some (mR 1)] [] s' Q)) : Wp X (d + 1) 89 0 [some (mR 1)] [] s Q := Wp_step k89 f89_0 (Wp_step k89 f89_1 (Wp_step k89 f89_2 ⟨kf_1, Wp_step k89 f89_5 (Wp_step k89 f89_6 (Wp_step k89 f89_7 ⟨kf_1, Wp_step k89 f89_10 (Wp_step k89 f89_11 ⟨⟨kf_1, Nat.le_of_ble_eq_true rfl⟩, Nat.le_refl _, _, rfl, Sp_V h_1⟩)⟩))⟩))
theorem b89_14 {X : (Nat → Int) × Nat} {d : Nat} {s : mSt} {Q : mQ} (h_1 : Q none s) : Wp X d 89 14 [some (mR 1)] [] s Q := Wp_step k89 f89_14 ⟨⟨rfl, Or.inl rfl⟩, h_1⟩
theorem e89 {X : (Nat → Int) × Nat} {d : Nat} {s : mSt} {Q : mQ} (h : Wp X d 89 0 [some (mR 1)] [] s Q) : Sp X d 89 [mR 1] s Q := Sp_of (show mCe 89 = 0 by decide +kernel) (by rw [show mML 89 = 1 by decide +kernel]; rfl) (Nat.le_trans (Nat.le_of_ble_eq_true (show Nat.ble (mArgs _).length 1 = true from rfl)) (show 1 ≤ mML 89 by decide +kernel)) h
