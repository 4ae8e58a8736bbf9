-- 103 ClashDay$Trials.extrasAsNoted(LClashDay$Scene;LClashDay$Rule;I)I
theorem k103 : mRk 103 = 1 := by decide +kernel
theorem f103_0 : mFetch 103 0 = some (.iconst 0, 1, 0, 0, 0, 0) := by decide +kernel
theorem f103_1 : mFetch 103 1 = some (.istore 4, 2, 0, 0, 0, 0) := by decide +kernel
theorem f103_3 : mFetch 103 3 = some (.iconst 0, 1, 0, 0, 0, 0) := by decide +kernel
theorem f103_4 : mFetch 103 4 = some (.istore 5, 2, 0, 0, 0, 0) := by decide +kernel
theorem f103_6 : mFetch 103 6 = some (.iload 5, 2, 0, 0, 0, 0) := by decide +kernel
theorem f103_8 : mFetch 103 8 = some (.bipush 20, 2, 0, 0, 0, 0) := by decide +kernel
theorem f103_10 : mFetch 103 10 = some (.imul, 1, 0, 0, 0, 0) := by decide +kernel
theorem f103_11 : mFetch 103 11 = some (.bipush 100, 2, 0, 0, 0, 0) := by decide +kernel
theorem f103_13 : mFetch 103 13 = some (.if_icmp .gt 55, 3, 68, 0, 0, 0) := by decide +kernel
theorem f103_16 : mFetch 103 16 = some (.aload_n 0, 1, 0, 0, 0, 0) := by decide +kernel
theorem f103_17 : mFetch 103 17 = some (.getfield 12, 3, 9, 2, 2, 1) := by decide +kernel
theorem f103_20 : mFetch 103 20 = some (.aload_n 1, 1, 0, 0, 0, 0) := by decide +kernel
theorem f103_21 : mFetch 103 21 = some (.getfield 121, 3, 7, 0, 2, 0) := by decide +kernel
theorem f103_24 : mFetch 103 24 = some (.invokevirtual 44, 3, 3, 0, 2, 0) := by decide +kernel
theorem f103_27 : mFetch 103 27 = some (.aload_n 0, 1, 0, 0, 0, 0) := by decide +kernel
theorem f103_28 : mFetch 103 28 = some (.getfield 12, 3, 9, 2, 2, 1) := by decide +kernel
theorem f103_31 : mFetch 103 31 = some (.getfield 126, 3, 0, 9, 2, 0) := by decide +kernel
theorem f103_34 : mFetch 103 34 = some (.iload_n 3, 1, 0, 0, 0, 0) := by decide +kernel
theorem f103_35 : mFetch 103 35 = some (.iload 5, 2, 0, 0, 0, 0) := by decide +kernel
theorem f103_37 : mFetch 103 37 = some (.bipush 20, 2, 0, 0, 0, 0) := by decide +kernel
theorem f103_39 : mFetch 103 39 = some (.imul, 1, 0, 0, 0, 0) := by decide +kernel
theorem f103_40 : mFetch 103 40 = some (.iastore, 1, 0, 0, 0, 0) := by decide +kernel
theorem f103_41 : mFetch 103 41 = some (.aload_n 0, 1, 0, 0, 0, 0) := by decide +kernel
theorem f103_42 : mFetch 103 42 = some (.aload_n 1, 1, 0, 0, 0, 0) := by decide +kernel
theorem f103_43 : mFetch 103 43 = some (.getfield 129, 3, 7, 2, 2, 0) := by decide +kernel
theorem f103_46 : mFetch 103 46 = some (.aload_n 2, 1, 0, 0, 0, 0) := by decide +kernel
theorem f103_47 : mFetch 103 47 = some (.invokevirtual 133, 3, 106, 0, 3, 9) := by decide +kernel
theorem f103_50 : mFetch 103 50 = some (.ifCond .eq 12, 3, 62, 0, 0, 0) := by decide +kernel
theorem f103_53 : mFetch 103 53 = some (.iload 4, 2, 0, 0, 0, 0) := by decide +kernel
theorem f103_55 : mFetch 103 55 = some (.iconst 1, 1, 0, 0, 0, 0) := by decide +kernel
theorem f103_56 : mFetch 103 56 = some (.iload 5, 2, 0, 0, 0, 0) := by decide +kernel
theorem f103_58 : mFetch 103 58 = some (.ishl, 1, 0, 0, 0, 0) := by decide +kernel
theorem f103_59 : mFetch 103 59 = some (.ior, 1, 0, 0, 0, 0) := by decide +kernel
theorem f103_60 : mFetch 103 60 = some (.istore 4, 2, 0, 0, 0, 0) := by decide +kernel
theorem f103_62 : mFetch 103 62 = some (.iinc 5 1, 3, 0, 0, 0, 0) := by decide +kernel
theorem f103_65 : mFetch 103 65 = some (.goto (-59), 3, 6, 0, 0, 0) := by decide +kernel
theorem f103_68 : mFetch 103 68 = some (.iload 4, 2, 0, 0, 0, 0) := by decide +kernel
theorem f103_70 : mFetch 103 70 = some (.ireturn, 1, 0, 0, 0, 0) := by decide +kernel
theorem b103_0 {X : (Nat → Int) × Nat} {d : Nat} {s : mSt} {Q : mQ} {a1 : Nat} {o2 : Option Nat} {x3 : Int} {l4 : Option mV} {l5 : Option mV} (h1 : isSc a1) (h_1 : Wp X d 103 6 [some (mR 53), some (mR a1), some (Sum.inr (Sum.inr (Sum.inl o2))), some (mI x3), some (mI 0), some (mI 0)] [] s Q) : Wp X d 103 0 [some (mR 53), some (mR a1), some (Sum.inr (Sum.inr (Sum.inl o2))), some (mI x3), l4, l5] [] s Q := Wp_step k103 f103_0 (Wp_step k103 f103_1 (Wp_step k103 f103_3 (Wp_step k103 f103_4 (h_1))))
theorem b103_6 {X : (Nat → Int) × Nat} {d : Nat} {s : mSt} {Q : mQ} {a1 : Nat} {o2 : Option Nat} {x3 : Int} {x4 : Int} {x5 : Int} (h1 : isSc a1) (h_1 : 100 < (w32 (x5 * 20)) → Wp X d 103 68 [some (mR 53), some (mR a1), some (Sum.inr (Sum.inr (Sum.inl o2))), some (mI x3), some (mI x4), some (mI x5)] [] s Q) (h_2 : ¬ 100 < (w32 (x5 * 20)) → Wp X d 103 16 [some (mR 53), some (mR a1), some (Sum.inr (Sum.inr (Sum.inl o2))), some (mI x3), some (mI x4), some (mI x5)] [] s Q) : Wp X d 103 6 [some (mR 53), some (mR a1), some (Sum.inr (Sum.inr (Sum.inl o2))), some (mI x3), some (mI x4), some (mI x5)] [] s Q := Wp_step k103 f103_6 (Wp_step k103 f103_8 (Wp_step k103 f103_10 (Wp_step k103 f103_11 (Wp_step k103 f103_13 ⟨h_1, h_2⟩))))
theorem b103_16 {X : (Nat → Int) × Nat} {d : Nat} {s : mSt} {Q : mQ} {a1 : Nat} {o2 : Option Nat} {x3 : Int} {x4 : Int} {x5 : Int} (h1 : isSc a1) (h_1 : Sp X d 3 [mR 54, mR (a1 + 1)] s (fun r s' => r = none ∧ Wp X (d + 1) 103 27 [some (mR 53), some (mR a1), some (Sum.inr (Sum.inr (Sum.inl o2))), some (mI x3), some (mI x4), some (mI x5)] [] s' Q)) : Wp X (d + 1) 103 16 [some (mR 53), some (mR a1), some (Sum.inr (Sum.inr (Sum.inl o2))), some (mI x3), some (mI x4), some (mI x5)] [] s Q := Wp_step k103 f103_16 (Wp_step k103 f103_17 ⟨kf_53, 54, rf_53_2, Wp_step k103 f103_20 (Wp_step k103 f103_21 ⟨(sc_k h1), (a1 + 1), (sc_r0 h1), Wp_step k103 f103_24 ⟨⟨kf_54, Nat.le_of_ble_eq_true rfl⟩, Nat.le_refl _, _, rfl, Sp_V h_1⟩⟩)⟩)
theorem b103_27 {X : (Nat → Int) × Nat} {d : Nat} {s : mSt} {Q : mQ} {a1 : Nat} {o2 : Option Nat} {x3 : Int} {x4 : Int} {x5 : Int} (h1 : isSc a1) (h_1 : 0 ≤ x3 ∧ x3 < 6) (h_2 : Sp X d 106 [mR 53, mR (a1 + 21), Sum.inr (Sum.inr (Sum.inl o2))] (uS s 58 x3.toNat (w32 (x5 * 20))) (fun r s' => ∃ v : Int, r = some (mI v) ∧ Wp X (d + 1) 103 50 [some (mR 53), some (mR a1), some (Sum.inr (Sum.inr (Sum.inl o2))), some (mI x3), some (mI x4), some (mI x5)] [mI v] s' Q)) : Wp X (d + 1) 103 27 [some (mR 53), some (mR a1), some (Sum.inr (Sum.inr (Sum.inl o2))), some (mI x3), some (mI x4), some (mI x5)] [] s Q := Wp_step k103 f103_27 (Wp_step k103 f103_28 ⟨kf_53, 54, rf_53_2, Wp_step k103 f103_31 ⟨kf_54, 58, rf_54_9, Wp_step k103 f103_34 (Wp_step k103 f103_35 (Wp_step k103 f103_37 (Wp_step k103 f103_39 (Wp_step k103 f103_40 ⟨6, af_58, h_1, Wp_step k103 f103_41 (Wp_step k103 f103_42 (Wp_step k103 f103_43 ⟨(sc_k h1), (a1 + 21), (sc_r2 h1), Wp_step k103 f103_46 (Wp_step k103 f103_47 ⟨⟨kf_53, Nat.le_of_ble_eq_true rfl⟩, Nat.le_refl _, _, rfl, Sp_E h_2⟩)⟩))⟩))))⟩⟩)
theorem b103_50 {X : (Nat → Int) × Nat} {d : Nat} {s : mSt} {Q : mQ} {a1 : Nat} {o2 : Option Nat} {x3 : Int} {x4 : Int} {x5 : Int} {xt0 : Int} (h1 : isSc a1) (h_1 : xt0 = 0 → Wp X d 103 62 [some (mR 53), some (mR a1), some (Sum.inr (Sum.inr (Sum.inl o2))), some (mI x3), some (mI x4), some (mI x5)] [] s Q) (h_2 : ¬ xt0 = 0 → Wp X d 103 53 [some (mR 53), some (mR a1), some (Sum.inr (Sum.inr (Sum.inl o2))), some (mI x3), some (mI x4), some (mI x5)] [] s Q) : Wp X d 103 50 [some (mR 53), some (mR a1), some (Sum.inr (Sum.inr (Sum.inl o2))), some (mI x3), some (mI x4), some (mI x5)] [mI xt0] s Q := Wp_step k103 f103_50 ⟨h_1, h_2⟩
theorem b103_53 {X : (Nat → Int) × Nat} {d : Nat} {s : mSt} {Q : mQ} {a1 : Nat} {o2 : Option Nat} {x3 : Int} {x4 : Int} {x5 : Int} (h1 : isSc a1) (h_1 : Wp X d 103 62 [some (mR 53), some (mR a1), some (Sum.inr (Sum.inr (Sum.inl o2))), some (mI x3), some (mI (iOr x4 (iShl 1 x5))), some (mI x5)] [] s Q) : Wp X d 103 53 [some (mR 53), some (mR a1), some (Sum.inr (Sum.inr (Sum.inl o2))), some (mI x3), some (mI x4), some (mI x5)] [] s Q := Wp_step k103 f103_53 (Wp_step k103 f103_55 (Wp_step k103 f103_56 (Wp_step k103 f103_58 (Wp_step k103 f103_59 (Wp_step k103 f103_60 (h_1))))))
theorem b103_62 {X : (Nat → Int) × Nat} {d : Nat} {s : mSt} {Q : mQ} {a1 : Nat} {o2 : Option Nat} {x3 : Int} {x4 : Int} {x5 : Int} (h1 : isSc a1) (h_1 : Wp X d 103 6 [some (mR 53), some (mR a1), some (Sum.inr (Sum.inr (Sum.inl o2))), some (mI x3), some (mI x4), some (mI (w32 (x5 + 1)))] [] s Q) : Wp X d 103 62 [some (mR 53), some (mR a1), some (Sum.inr (Sum.inr (Sum.inl o2))), some (mI x3), some (mI x4), some (mI x5)] [] s Q := Wp_step k103 f103_62 (Wp_step k103 f103_65 (h_1))
theorem b103_68 {X : (Nat → Int) × Nat} {d : Nat} {s : mSt} {Q : mQ} {a1 : Nat} {o2 : Option Nat} {x3 : Int} {x4 : Int} {x5 : Int} (h1 : isSc a1) (h_1 : Q (some (mI x4)) s) : Wp X d 103 68 [some (mR 53), some (mR a1), some (Sum.inr (Sum.inr (Sum.inl o2))), some (mI x3), some (mI x4), some (mI x5)] [] s Q := Wp_step k103 f103_68 (Wp_step k103 f103_70 ⟨⟨rfl, trivial⟩, h_1⟩)
theorem e103 {X : (Nat → Int) × Nat} {d : Nat} {s : mSt} {Q : mQ} {a1 : Nat} {o2 : Option Nat} {x3 : Int} (h : Wp X d 103 0 [some (mR 53), some (mR a1), some (Sum.inr (Sum.inr (Sum.inl o2))), some (mI x3), none, none] [] s Q) : Sp X d 103 [mR 53, mR a1, Sum.inr (Sum.inr (Sum.inl o2)), mI x3] s Q := Sp_of (show mCe 103 = 0 by decide +kernel) (by rw [show mML 103 = 6 by decide +kernel]; rfl) (Nat.le_trans (Nat.le_of_ble_eq_true (show Nat.ble (mArgs _).length 6 = true from rfl)) (show 6 ≤ mML 103 by decide +kernel)) h
-- 104 ClashDay$Trials.restsAsNoted(LClashDay$Scene;LClashDay$Rule;I)I
theorem k104 : mRk 104 = 1 := by decide +kernel
theorem f104_0 : mFetch 104 0 = some (.iconst 0, 1, 0, 0, 0, 0) := by decide +kernel
theorem f104_1 : mFetch 104 1 = some (.istore 4, 2, 0, 0, 0, 0) := by decide +kernel
theorem f104_3 : mFetch 104 3 = some (.iconst 0, 1, 0, 0, 0, 0) := by decide +kernel
theorem f104_4 : mFetch 104 4 = some (.istore 5, 2, 0, 0, 0, 0) := by decide +kernel
theorem f104_6 : mFetch 104 6 = some (.iload 5, 2, 0, 0, 0, 0) := by decide +kernel
theorem f104_8 : mFetch 104 8 = some (.iconst 3, 1, 0, 0, 0, 0) := by decide +kernel
theorem f104_9 : mFetch 104 9 = some (.if_icmp .gt 52, 3, 61, 0, 0, 0) := by decide +kernel
theorem f104_12 : mFetch 104 12 = some (.aload_n 0, 1, 0, 0, 0, 0) := by decide +kernel
theorem f104_13 : mFetch 104 13 = some (.getfield 12, 3, 9, 2, 2, 1) := by decide +kernel
theorem f104_16 : mFetch 104 16 = some (.aload_n 1, 1, 0, 0, 0, 0) := by decide +kernel
theorem f104_17 : mFetch 104 17 = some (.getfield 121, 3, 7, 0, 2, 0) := by decide +kernel
theorem f104_20 : mFetch 104 20 = some (.invokevirtual 44, 3, 3, 0, 2, 0) := by decide +kernel
theorem f104_23 : mFetch 104 23 = some (.aload_n 0, 1, 0, 0, 0, 0) := by decide +kernel
theorem f104_24 : mFetch 104 24 = some (.getfield 12, 3, 9, 2, 2, 1) := by decide +kernel
theorem f104_27 : mFetch 104 27 = some (.getfield 137, 3, 0, 10, 2, 0) := by decide +kernel
theorem f104_30 : mFetch 104 30 = some (.iload_n 3, 1, 0, 0, 0, 0) := by decide +kernel
theorem f104_31 : mFetch 104 31 = some (.iload 5, 2, 0, 0, 0, 0) := by decide +kernel
theorem f104_33 : mFetch 104 33 = some (.iastore, 1, 0, 0, 0, 0) := by decide +kernel
theorem f104_34 : mFetch 104 34 = some (.aload_n 0, 1, 0, 0, 0, 0) := by decide +kernel
theorem f104_35 : mFetch 104 35 = some (.aload_n 1, 1, 0, 0, 0, 0) := by decide +kernel
theorem f104_36 : mFetch 104 36 = some (.getfield 129, 3, 7, 2, 2, 0) := by decide +kernel
theorem f104_39 : mFetch 104 39 = some (.aload_n 2, 1, 0, 0, 0, 0) := by decide +kernel
theorem f104_40 : mFetch 104 40 = some (.invokevirtual 133, 3, 106, 0, 3, 9) := by decide +kernel
theorem f104_43 : mFetch 104 43 = some (.ifCond .eq 12, 3, 55, 0, 0, 0) := by decide +kernel
theorem f104_46 : mFetch 104 46 = some (.iload 4, 2, 0, 0, 0, 0) := by decide +kernel
theorem f104_48 : mFetch 104 48 = some (.iconst 1, 1, 0, 0, 0, 0) := by decide +kernel
theorem f104_49 : mFetch 104 49 = some (.iload 5, 2, 0, 0, 0, 0) := by decide +kernel
theorem f104_51 : mFetch 104 51 = some (.ishl, 1, 0, 0, 0, 0) := by decide +kernel
theorem f104_52 : mFetch 104 52 = some (.ior, 1, 0, 0, 0, 0) := by decide +kernel
theorem f104_53 : mFetch 104 53 = some (.istore 4, 2, 0, 0, 0, 0) := by decide +kernel
theorem f104_55 : mFetch 104 55 = some (.iinc 5 1, 3, 0, 0, 0, 0) := by decide +kernel
theorem f104_58 : mFetch 104 58 = some (.goto (-52), 3, 6, 0, 0, 0) := by decide +kernel
theorem f104_61 : mFetch 104 61 = some (.iload 4, 2, 0, 0, 0, 0) := by decide +kernel
theorem f104_63 : mFetch 104 63 = some (.ireturn, 1, 0, 0, 0, 0) := by decide +kernel
theorem b104_0 {X : (Nat → Int) × Nat} {d : Nat} {s : mSt} {Q : mQ} {a1 : Nat} {o2 : Option Nat} {x3 : Int} {l4 : Option mV} {l5 : Option mV} (h1 : isSc a1) (h_1 : Wp X d 104 6 [some (mR 53), some (mR a1), some (Sum.inr (Sum.inr (Sum.inl o2))), some (mI x3), some (mI 0), some (mI 0)] [] s Q) : Wp X d 104 0 [some (mR 53), some (mR a1), some (Sum.inr (Sum.inr (Sum.inl o2))), some (mI x3), l4, l5] [] s Q := Wp_step k104 f104_0 (Wp_step k104 f104_1 (Wp_step k104 f104_3 (Wp_step k104 f104_4 (h_1))))
theorem b104_6 {X : (Nat → Int) × Nat} {d : Nat} {s : mSt} {Q : mQ} {a1 : Nat} {o2 : Option Nat} {x3 : Int} {x4 : Int} {x5 : Int} (h1 : isSc a1) (h_1 : 3 < x5 → Wp X d 104 61 [some (mR 53), some (mR a1), some (Sum.inr (Sum.inr (Sum.inl o2))), some (mI x3), some (mI x4), some (mI x5)] [] s Q) (h_2 : ¬ 3 < x5 → Wp X d 104 12 [some (mR 53), some (mR a1), some (Sum.inr (Sum.inr (Sum.inl o2))), some (mI x3), some (mI x4), some (mI x5)] [] s Q) : Wp X d 104 6 [some (mR 53), some (mR a1), some (Sum.inr (Sum.inr (Sum.inl o2))), some (mI x3), some (mI x4), some (mI x5)] [] s Q := Wp_step k104 f104_6 (Wp_step k104 f104_8 (Wp_step k104 f104_9 ⟨h_1, h_2⟩))
theorem b104_12 {X : (Nat → Int) × Nat} {d : Nat} {s : mSt} {Q : mQ} {a1 : Nat} {o2 : Option Nat} {x3 : Int} {x4 : Int} {x5 : Int} (h1 : isSc a1) (h_1 : Sp X d 3 [mR 54, mR (a1 + 1)] s (fun r s' => r = none ∧ Wp X (d + 1) 104 23 [some (mR 53), some (mR a1), some (Sum.inr (Sum.inr (Sum.inl o2))), some (mI x3), some (mI x4), some (mI x5)] [] s' Q)) : Wp X (d + 1) 104 12 [some (mR 53), some (mR a1), some (Sum.inr (Sum.inr (Sum.inl o2))), some (mI x3), some (mI x4), some (mI x5)] [] s Q := Wp_step k104 f104_12 (Wp_step k104 f104_13 ⟨kf_53, 54, rf_53_2, Wp_step k104 f104_16 (Wp_step k104 f104_17 ⟨(sc_k h1), (a1 + 1), (sc_r0 h1), Wp_step k104 f104_20 ⟨⟨kf_54, Nat.le_of_ble_eq_true rfl⟩, Nat.le_refl _, _, rfl, Sp_V h_1⟩⟩)⟩)
theorem b104_23 {X : (Nat → Int) × Nat} {d : Nat} {s : mSt} {Q : mQ} {a1 : Nat} {o2 : Option Nat} {x3 : Int} {x4 : Int} {x5 : Int} (h1 : isSc a1) (h_1 : 0 ≤ x3 ∧ x3 < 6) (h_2 : Sp X d 106 [mR 53, mR (a1 + 21), Sum.inr (Sum.inr (Sum.inl o2))] (uS s 59 x3.toNat x5) (fun r s' => ∃ v : Int, r = some (mI v) ∧ Wp X (d + 1) 104 43 [some (mR 53), some (mR a1), some (Sum.inr (Sum.inr (Sum.inl o2))), some (mI x3), some (mI x4), some (mI x5)] [mI v] s' Q)) : Wp X (d + 1) 104 23 [some (mR 53), some (mR a1), some (Sum.inr (Sum.inr (Sum.inl o2))), some (mI x3), some (mI x4), some (mI x5)] [] s Q := Wp_step k104 f104_23 (Wp_step k104 f104_24 ⟨kf_53, 54, rf_53_2, Wp_step k104 f104_27 ⟨kf_54, 59, rf_54_10, Wp_step k104 f104_30 (Wp_step k104 f104_31 (Wp_step k104 f104_33 ⟨6, af_59, h_1, Wp_step k104 f104_34 (Wp_step k104 f104_35 (Wp_step k104 f104_36 ⟨(sc_k h1), (a1 + 21), (sc_r2 h1), Wp_step k104 f104_39 (Wp_step k104 f104_40 ⟨⟨kf_53, Nat.le_of_ble_eq_true rfl⟩, Nat.le_refl _, _, rfl, Sp_E h_2⟩)⟩))⟩))⟩⟩)
theorem b104_43 {X : (Nat → Int) × Nat} {d : Nat} {s : mSt} {Q : mQ} {a1 : Nat} {o2 : Option Nat} {x3 : Int} {x4 : Int} {x5 : Int} {xt0 : Int} (h1 : isSc a1) (h_1 : xt0 = 0 → Wp X d 104 55 [some (mR 53), some (mR a1), some (Sum.inr (Sum.inr (Sum.inl o2))), some (mI x3), some (mI x4), some (mI x5)] [] s Q) (h_2 : ¬ xt0 = 0 → Wp X d 104 46 [some (mR 53), some (mR a1), some (Sum.inr (Sum.inr (Sum.inl o2))), some (mI x3), some (mI x4), some (mI x5)] [] s Q) : Wp X d 104 43 [some (mR 53), some (mR a1), some (Sum.inr (Sum.inr (Sum.inl o2))), some (mI x3), some (mI x4), some (mI x5)] [mI xt0] s Q := Wp_step k104 f104_43 ⟨h_1, h_2⟩
theorem b104_46 {X : (Nat → Int) × Nat} {d : Nat} {s : mSt} {Q : mQ} {a1 : Nat} {o2 : Option Nat} {x3 : Int} {x4 : Int} {x5 : Int} (h1 : isSc a1) (h_1 : Wp X d 104 55 [some (mR 53), some (mR a1), some (Sum.inr (Sum.inr (Sum.inl o2))), some (mI x3), some (mI (iOr x4 (iShl 1 x5))), some (mI x5)] [] s Q) : Wp X d 104 46 [some (mR 53), some (mR a1), some (Sum.inr (Sum.inr (Sum.inl o2))), some (mI x3), some (mI x4), some (mI x5)] [] s Q := Wp_step k104 f104_46 (Wp_step k104 f104_48 (Wp_step k104 f104_49 (Wp_step k104 f104_51 (Wp_step k104 f104_52 (Wp_step k104 f104_53 (h_1))))))
theorem b104_55 {X : (Nat → Int) × Nat} {d : Nat} {s : mSt} {Q : mQ} {a1 : Nat} {o2 : Option Nat} {x3 : Int} {x4 : Int} {x5 : Int} (h1 : isSc a1) (h_1 : Wp X d 104 6 [some (mR 53), some (mR a1), some (Sum.inr (Sum.inr (Sum.inl o2))), some (mI x3), some (mI x4), some (mI (w32 (x5 + 1)))] [] s Q) : Wp X d 104 55 [some (mR 53), some (mR a1), some (Sum.inr (Sum.inr (Sum.inl o2))), some (mI x3), some (mI x4), some (mI x5)] [] s Q := Wp_step k104 f104_55 (Wp_step k104 f104_58 (h_1))
theorem b104_61 {X : (Nat → Int) × Nat} {d : Nat} {s : mSt} {Q : mQ} {a1 : Nat} {o2 : Option Nat} {x3 : Int} {x4 : Int} {x5 : Int} (h1 : isSc a1) (h_1 : Q (some (mI x4)) s) : Wp X d 104 61 [some (mR 53), some (mR a1), some (Sum.inr (Sum.inr (Sum.inl o2))), some (mI x3), some (mI x4), some (mI x5)] [] s Q := Wp_step k104 f104_61 (Wp_step k104 f104_63 ⟨⟨rfl, trivial⟩, h_1⟩)
theorem e104 {X : (Nat → Int) × Nat} {d : Nat} {s : mSt} {Q : mQ} {a1 : Nat} {o2 : Option Nat} {x3 : Int} (h : Wp X d 104 0 [some (mR 53), some (mR a1), some (Sum.inr (Sum.inr (Sum.inl o2))), some (mI x3), none, none] [] s Q) : Sp X d 104 [mR 53, mR a1, Sum.inr (Sum.inr (Sum.inl o2)), mI x3] s Q := Sp_of (show mCe 104 = 0 by decide +kernel) (by rw [show mML 104 = 6 by decide +kernel]; rfl) (Nat.le_trans (Nat.le_of_ble_eq_true (show Nat.ble (mArgs _).length 6 = true from rfl)) (show 6 ≤ mML 104 by decide +kernel)) h
-- 105 ClashDay$Trials.rulesAsNoted(LClashDay$Scene;[LClashDay$Rule;I)I
theorem k105 : mRk 105 = 1 := by decide +kernel
theorem f105_0 : mFetch 105 0 = some (.iconst 0, 1, 0, 0, 0, 0) := by decide +kernel
theorem f105_1 : mFetch 105 1 = some (.istore 4, 2, 0, 0, 0, 0) := by decide +kernel
theorem f105_3 : mFetch 105 3 = some (.iconst 0, 1, 0, 0, 0, 0) := by decide +kernel
theorem f105_4 : mFetch 105 4 = some (.istore 5, 2, 0, 0, 0, 0) := by decide +kernel
theorem f105_6 : mFetch 105 6 = some (.iload 5, 2, 0, 0, 0, 0) := by decide +kernel
theorem f105_8 : mFetch 105 8 = some (.iload_n 3, 1, 0, 0, 0, 0) := by decide +kernel
theorem f105_9 : mFetch 105 9 = some (.if_icmp .gt 62, 3, 71, 0, 0, 0) := by decide +kernel
theorem f105_12 : mFetch 105 12 = some (.iload 5, 2, 0, 0, 0, 0) := by decide +kernel
theorem f105_14 : mFetch 105 14 = some (.aload_n 2, 1, 0, 0, 0, 0) := by decide +kernel
theorem f105_15 : mFetch 105 15 = some (.arraylength, 1, 0, 0, 0, 0) := by decide +kernel
theorem f105_16 : mFetch 105 16 = some (.if_icmp .gt 55, 3, 71, 0, 0, 0) := by decide +kernel
theorem f105_19 : mFetch 105 19 = some (.aload_n 0, 1, 0, 0, 0, 0) := by decide +kernel
theorem f105_20 : mFetch 105 20 = some (.getfield 12, 3, 9, 2, 2, 1) := by decide +kernel
theorem f105_23 : mFetch 105 23 = some (.aload_n 1, 1, 0, 0, 0, 0) := by decide +kernel
theorem f105_24 : mFetch 105 24 = some (.getfield 121, 3, 7, 0, 2, 0) := by decide +kernel
theorem f105_27 : mFetch 105 27 = some (.invokevirtual 44, 3, 3, 0, 2, 0) := by decide +kernel
theorem f105_30 : mFetch 105 30 = some (.aload_n 0, 1, 0, 0, 0, 0) := by decide +kernel
theorem f105_31 : mFetch 105 31 = some (.aload_n 1, 1, 0, 0, 0, 0) := by decide +kernel
theorem f105_32 : mFetch 105 32 = some (.getfield 129, 3, 7, 2, 2, 0) := by decide +kernel
theorem f105_35 : mFetch 105 35 = some (.iload 5, 2, 0, 0, 0, 0) := by decide +kernel
theorem f105_37 : mFetch 105 37 = some (.ifCond .ne 7, 3, 44, 0, 0, 0) := by decide +kernel
theorem f105_40 : mFetch 105 40 = some (.aconst_null, 1, 0, 0, 0, 0) := by decide +kernel
theorem f105_41 : mFetch 105 41 = some (.goto 9, 3, 50, 0, 0, 0) := by decide +kernel
theorem f105_44 : mFetch 105 44 = some (.aload_n 2, 1, 0, 0, 0, 0) := by decide +kernel
theorem f105_45 : mFetch 105 45 = some (.iload 5, 2, 0, 0, 0, 0) := by decide +kernel
theorem f105_47 : mFetch 105 47 = some (.iconst 1, 1, 0, 0, 0, 0) := by decide +kernel
theorem f105_48 : mFetch 105 48 = some (.isub, 1, 0, 0, 0, 0) := by decide +kernel
theorem f105_49 : mFetch 105 49 = some (.aaload, 1, 0, 0, 0, 0) := by decide +kernel
theorem f105_50 : mFetch 105 50 = some (.invokevirtual 133, 3, 106, 0, 3, 9) := by decide +kernel
theorem f105_53 : mFetch 105 53 = some (.ifCond .eq 12, 3, 65, 0, 0, 0) := by decide +kernel
theorem f105_56 : mFetch 105 56 = some (.iload 4, 2, 0, 0, 0, 0) := by decide +kernel
theorem f105_58 : mFetch 105 58 = some (.iconst 1, 1, 0, 0, 0, 0) := by decide +kernel
theorem f105_59 : mFetch 105 59 = some (.iload 5, 2, 0, 0, 0, 0) := by decide +kernel
theorem f105_61 : mFetch 105 61 = some (.ishl, 1, 0, 0, 0, 0) := by decide +kernel
theorem f105_62 : mFetch 105 62 = some (.ior, 1, 0, 0, 0, 0) := by decide +kernel
theorem f105_63 : mFetch 105 63 = some (.istore 4, 2, 0, 0, 0, 0) := by decide +kernel
theorem f105_65 : mFetch 105 65 = some (.iinc 5 1, 3, 0, 0, 0, 0) := by decide +kernel
theorem f105_68 : mFetch 105 68 = some (.goto (-62), 3, 6, 0, 0, 0) := by decide +kernel
theorem f105_71 : mFetch 105 71 = some (.iload 4, 2, 0, 0, 0, 0) := by decide +kernel
theorem f105_73 : mFetch 105 73 = some (.ireturn, 1, 0, 0, 0, 0) := by decide +kernel
theorem b105_0 {X : (Nat → Int) × Nat} {d : Nat} {s : mSt} {Q : mQ} {a1 : Nat} {x3 : Int} {l4 : Option mV} {l5 : Option mV} (h1 : isSc a1) (h_1 : Wp X d 105 6 [some (mR 53), some (mR a1), some (mR 6), some (mI x3), some (mI 0), some (mI 0)] [] s Q) : Wp X d 105 0 [some (mR 53), some (mR a1), some (mR 6), some (mI x3), l4, l5] [] s Q := Wp_step k105 f105_0 (Wp_step k105 f105_1 (Wp_step k105 f105_3 (Wp_step k105 f105_4 (h_1))))
theorem b105_6 {X : (Nat → Int) × Nat} {d : Nat} {s : mSt} {Q : mQ} {a1 : Nat} {x3 : Int} {x4 : Int} {x5 : Int} (h1 : isSc a1) (h_1 : x3 < x5 → Wp X d 105 71 [some (mR 53), some (mR a1), some (mR 6), some (mI x3), some (mI x4), some (mI x5)] [] s Q) (h_2 : ¬ x3 < x5 → Wp X d 105 12 [some (mR 53), some (mR a1), some (mR 6), some (mI x3), some (mI x4), some (mI x5)] [] s Q) : Wp X d 105 6 [some (mR 53), some (mR a1), some (mR 6), some (mI x3), some (mI x4), some (mI x5)] [] s Q := Wp_step k105 f105_6 (Wp_step k105 f105_8 (Wp_step k105 f105_9 ⟨h_1, h_2⟩))
theorem b105_12 {X : (Nat → Int) × Nat} {d : Nat} {s : mSt} {Q : mQ} {a1 : Nat} {x3 : Int} {x4 : Int} {x5 : Int} (h1 : isSc a1) (h_1 : 6 < x5 → Wp X d 105 71 [some (mR 53), some (mR a1), some (mR 6), some (mI x3), some (mI x4), some (mI x5)] [] s Q) (h_2 : ¬ 6 < x5 → Wp X d 105 19 [some (mR 53), some (mR a1), some (mR 6), some (mI x3), some (mI x4), some (mI x5)] [] s Q) : Wp X d 105 12 [some (mR 53), some (mR a1), some (mR 6), some (mI x3), some (mI x4), some (mI x5)] [] s Q := Wp_step k105 f105_12 (Wp_step k105 f105_14 (Wp_step k105 f105_15 ⟨26, 6, af_6, ⟨by decide, by decide, by decide⟩, Wp_step k105 f105_16 ⟨h_1, h_2⟩⟩))
theorem b105_19 {X : (Nat → Int) × Nat} {d : Nat} {s : mSt} {Q : mQ} {a1 : Nat} {x3 : Int} {x4 : Int} {x5 : Int} (h1 : isSc a1) (h_1 : Sp X d 3 [mR 54, mR (a1 + 1)] s (fun r s' => r = none ∧ Wp X (d + 1) 105 30 [some (mR 53), some (mR a1), some (mR 6), some (mI x3), some (mI x4), some (mI x5)] [] s' Q)) : Wp X (d + 1) 105 19 [some (mR 53), some (mR a1), some (mR 6), some (mI x3), some (mI x4), some (mI x5)] [] s Q := Wp_step k105 f105_19 (Wp_step k105 f105_20 ⟨kf_53, 54, rf_53_2, Wp_step k105 f105_23 (Wp_step k105 f105_24 ⟨(sc_k h1), (a1 + 1), (sc_r0 h1), Wp_step k105 f105_27 ⟨⟨kf_54, Nat.le_of_ble_eq_true rfl⟩, Nat.le_refl _, _, rfl, Sp_V h_1⟩⟩)⟩)
theorem b105_30 {X : (Nat → Int) × Nat} {d : Nat} {s : mSt} {Q : mQ} {a1 : Nat} {x3 : Int} {x4 : Int} {x5 : Int} (h1 : isSc a1) (h_1 : ¬ x5 = 0 → Wp X d 105 44 [some (mR 53), some (mR a1), some (mR 6), some (mI x3), some (mI x4), some (mI x5)] [mR (a1 + 21), mR 53] s Q) (h_2 : x5 = 0 → Wp X d 105 40 [some (mR 53), some (mR a1), some (mR 6), some (mI x3), some (mI x4), some (mI x5)] [mR (a1 + 21), mR 53] s Q) : Wp X d 105 30 [some (mR 53), some (mR a1), some (mR 6), some (mI x3), some (mI x4), some (mI x5)] [] s Q := Wp_step k105 f105_30 (Wp_step k105 f105_31 (Wp_step k105 f105_32 ⟨(sc_k h1), (a1 + 21), (sc_r2 h1), Wp_step k105 f105_35 (Wp_step k105 f105_37 ⟨h_1, h_2⟩)⟩))
theorem b105_40 {X : (Nat → Int) × Nat} {d : Nat} {s : mSt} {Q : mQ} {a1 : Nat} {x3 : Int} {x4 : Int} {x5 : Int} {at1 : Nat} (h1 : isSc a1) (ht1 : isNt at1) (h_1 : Wp X d 105 50 [some (mR 53), some (mR a1), some (mR 6), some (mI x3), some (mI x4), some (mI x5)] [mN, mR at1, mR 53] s Q) : Wp X d 105 40 [some (mR 53), some (mR a1), some (mR 6), some (mI x3), some (mI x4), some (mI x5)] [mR at1, mR 53] s Q := Wp_step k105 f105_40 (Wp_step k105 f105_41 (h_1))
theorem b105_44 {X : (Nat → Int) × Nat} {d : Nat} {s : mSt} {Q : mQ} {a1 : Nat} {x3 : Int} {x4 : Int} {x5 : Int} {at1 : Nat} {r1 : Nat} (h1 : isSc a1) (ht1 : isNt at1) (hr1 : isRl r1) (h_1 : 0 ≤ (w32 (x5 - 1)) ∧ (w32 (x5 - 1)) < 6) (h_2 : s 6 (w32 (x5 - 1)).toNat = (r1 : Int)) (h_3 : Wp X d 105 50 [some (mR 53), some (mR a1), some (mR 6), some (mI x3), some (mI x4), some (mI x5)] [mR r1, mR at1, mR 53] s Q) : Wp X d 105 44 [some (mR 53), some (mR a1), some (mR 6), some (mI x3), some (mI x4), some (mI x5)] [mR at1, mR 53] s Q := Wp_step k105 f105_44 (Wp_step k105 f105_45 (Wp_step k105 f105_47 (Wp_step k105 f105_48 (Wp_step k105 f105_49 ⟨26, 6, af_6, ⟨by decide, by decide⟩, h_1, r1, h_2, h_3⟩))))
theorem b105_50 {X : (Nat → Int) × Nat} {d : Nat} {s : mSt} {Q : mQ} {a1 : Nat} {x3 : Int} {x4 : Int} {x5 : Int} {at1 : Nat} {ot2 : Option Nat} (h1 : isSc a1) (ht1 : isNt at1) (h_1 : Sp X d 106 [mR 53, mR at1, Sum.inr (Sum.inr (Sum.inl ot2))] s (fun r s' => ∃ v : Int, r = some (mI v) ∧ Wp X (d + 1) 105 53 [some (mR 53), some (mR a1), some (mR 6), some (mI x3), some (mI x4), some (mI x5)] [mI v] s' Q)) : Wp X (d + 1) 105 50 [some (mR 53), some (mR a1), some (mR 6), some (mI x3), some (mI x4), some (mI x5)] [Sum.inr (Sum.inr (Sum.inl ot2)), mR at1, mR 53] s Q := Wp_step k105 f105_50 ⟨⟨kf_53, Nat.le_of_ble_eq_true rfl⟩, Nat.le_refl _, _, rfl, Sp_E h_1⟩
theorem b105_53 {X : (Nat → Int) × Nat} {d : Nat} {s : mSt} {Q : mQ} {a1 : Nat} {x3 : Int} {x4 : Int} {x5 : Int} {xt0 : Int} (h1 : isSc a1) (h_1 : xt0 = 0 → Wp X d 105 65 [some (mR 53), some (mR a1), some (mR 6), some (mI x3), some (mI x4), some (mI x5)] [] s Q) (h_2 : ¬ xt0 = 0 → Wp X d 105 56 [some (mR 53), some (mR a1), some (mR 6), some (mI x3), some (mI x4), some (mI x5)] [] s Q) : Wp X d 105 53 [some (mR 53), some (mR a1), some (mR 6), some (mI x3), some (mI x4), some (mI x5)] [mI xt0] s Q := Wp_step k105 f105_53 ⟨h_1, h_2⟩
theorem b105_56 {X : (Nat → Int) × Nat} {d : Nat} {s : mSt} {Q : mQ} {a1 : Nat} {x3 : Int} {x4 : Int} {x5 : Int} (h1 : isSc a1) (h_1 : Wp X d 105 65 [some (mR 53), some (mR a1), some (mR 6), some (mI x3), some (mI (iOr x4 (iShl 1 x5))), some (mI x5)] [] s Q) : Wp X d 105 56 [some (mR 53), some (mR a1), some (mR 6), some (mI x3), some (mI x4), some (mI x5)] [] s Q := Wp_step k105 f105_56 (Wp_step k105 f105_58 (Wp_step k105 f105_59 (Wp_step k105 f105_61 (Wp_step k105 f105_62 (Wp_step k105 f105_63 (h_1))))))
theorem b105_65 {X : (Nat → Int) × Nat} {d : Nat} {s : mSt} {Q : mQ} {a1 : Nat} {x3 : Int} {x4 : Int} {x5 : Int} (h1 : isSc a1) (h_1 : Wp X d 105 6 [some (mR 53), some (mR a1), some (mR 6), some (mI x3), some (mI x4), some (mI (w32 (x5 + 1)))] [] s Q) : Wp X d 105 65 [some (mR 53), some (mR a1), some (mR 6), some (mI x3), some (mI x4), some (mI x5)] [] s Q := Wp_step k105 f105_65 (Wp_step k105 f105_68 (h_1))
theorem b105_71 {X : (Nat → Int) × Nat} {d : Nat} {s : mSt} {Q : mQ} {a1 : Nat} {x3 : Int} {x4 : Int} {x5 : Int} (h1 : isSc a1) (h_1 : Q (some (mI x4)) s) : Wp X d 105 71 [some (mR 53), some (mR a1), some (mR 6), some (mI x3), some (mI x4), some (mI x5)] [] s Q := Wp_step k105 f105_71 (Wp_step k105 f105_73 ⟨⟨rfl, trivial⟩, h_1⟩)
theorem e105 {X : (Nat → Int) × Nat} {d : Nat} {s : mSt} {Q : mQ} {a1 : Nat} {x3 : Int} (h : Wp X d 105 0 [some (mR 53), some (mR a1), some (mR 6), some (mI x3), none, none] [] s Q) : Sp X d 105 [mR 53, mR a1, mR 6, mI x3] s Q := Sp_of (show mCe 105 = 0 by decide +kernel) (by rw [show mML 105 = 6 by decide +kernel]; rfl) (Nat.le_trans (Nat.le_of_ble_eq_true (show Nat.ble (mArgs _).length 6 = true from rfl)) (show 6 ≤ mML 105 by decide +kernel)) h
-- 106 ClashDay$Trials.isAsNoted(LClashDay$Notes;LClashDay$Rule;)Z
theorem k106 : mRk 106 = 2 := by decide +kernel
theorem f106_0 : mFetch 106 0 = some (.aload_n 1, 1, 0, 0, 0, 0) := by decide +kernel
theorem f106_1 : mFetch 106 1 = some (.invokevirtual 140, 3, 56, 0, 1, 3) := by decide +kernel
theorem f106_4 : mFetch 106 4 = some (.istore_n 3, 1, 0, 0, 0, 0) := by decide +kernel
theorem f106_5 : mFetch 106 5 = some (.iconst 0, 1, 0, 0, 0, 0) := by decide +kernel
theorem f106_6 : mFetch 106 6 = some (.istore 4, 2, 0, 0, 0, 0) := by decide +kernel
theorem f106_8 : mFetch 106 8 = some (.iload 4, 2, 0, 0, 0, 0) := by decide +kernel
theorem f106_10 : mFetch 106 10 = some (.iload_n 3, 1, 0, 0, 0, 0) := by decide +kernel
theorem f106_11 : mFetch 106 11 = some (.if_icmp .gt 37, 3, 48, 0, 0, 0) := by decide +kernel
theorem f106_14 : mFetch 106 14 = some (.aload_n 0, 1, 0, 0, 0, 0) := by decide +kernel
theorem f106_15 : mFetch 106 15 = some (.getfield 40, 3, 9, 1, 2, 1) := by decide +kernel
theorem f106_18 : mFetch 106 18 = some (.aload_n 0, 1, 0, 0, 0, 0) := by decide +kernel
theorem f106_19 : mFetch 106 19 = some (.getfield 12, 3, 9, 2, 2, 1) := by decide +kernel
theorem f106_22 : mFetch 106 22 = some (.aload_n 2, 1, 0, 0, 0, 0) := by decide +kernel
theorem f106_23 : mFetch 106 23 = some (.invokevirtual 112, 3, 117, 0, 3, 10) := by decide +kernel
theorem f106_26 : mFetch 106 26 = some (.pop, 1, 0, 0, 0, 0) := by decide +kernel
theorem f106_27 : mFetch 106 27 = some (.aload_n 1, 1, 0, 0, 0, 0) := by decide +kernel
theorem f106_28 : mFetch 106 28 = some (.aload_n 0, 1, 0, 0, 0, 0) := by decide +kernel
theorem f106_29 : mFetch 106 29 = some (.getfield 12, 3, 9, 2, 2, 1) := by decide +kernel
theorem f106_32 : mFetch 106 32 = some (.iload 4, 2, 0, 0, 0, 0) := by decide +kernel
theorem f106_34 : mFetch 106 34 = some (.invokevirtual 146, 3, 57, 0, 3, 3) := by decide +kernel
theorem f106_37 : mFetch 106 37 = some (.ifCond .ne 5, 3, 42, 0, 0, 0) := by decide +kernel
theorem f106_40 : mFetch 106 40 = some (.iconst 0, 1, 0, 0, 0, 0) := by decide +kernel
theorem f106_41 : mFetch 106 41 = some (.ireturn, 1, 0, 0, 0, 0) := by decide +kernel
theorem f106_42 : mFetch 106 42 = some (.iinc 4 1, 3, 0, 0, 0, 0) := by decide +kernel
theorem f106_45 : mFetch 106 45 = some (.goto (-37), 3, 8, 0, 0, 0) := by decide +kernel
theorem f106_48 : mFetch 106 48 = some (.iconst 1, 1, 0, 0, 0, 0) := by decide +kernel
theorem f106_49 : mFetch 106 49 = some (.ireturn, 1, 0, 0, 0, 0) := by decide +kernel
theorem b106_0 {X : (Nat → Int) × Nat} {d : Nat} {s : mSt} {Q : mQ} {a1 : Nat} {o2 : Option Nat} {l3 : Option mV} {l4 : Option mV} (h1 : isNt a1) (h_1 : Sp X d 56 [mR a1] s (fun r s' => ∃ v : Int, r = some (mI v) ∧ Wp X (d + 1) 106 4 [some (mR 53), some (mR a1), some (Sum.inr (Sum.inr (Sum.inl o2))), l3, l4] [mI v] s' Q)) : Wp X (d + 1) 106 0 [some (mR 53), some (mR a1), some (Sum.inr (Sum.inr (Sum.inl o2))), l3, l4] [] s Q := Wp_step k106 f106_0 (Wp_step k106 f106_1 ⟨⟨(nt_k h1), Nat.le_of_ble_eq_true rfl⟩, Nat.le_refl _, _, rfl, Sp_E h_1⟩)
theorem b106_4 {X : (Nat → Int) × Nat} {d : Nat} {s : mSt} {Q : mQ} {a1 : Nat} {o2 : Option Nat} {l3 : Option mV} {l4 : Option mV} {xt0 : Int} (h1 : isNt a1) (h_1 : Wp X d 106 8 [some (mR 53), some (mR a1), some (Sum.inr (Sum.inr (Sum.inl o2))), some (mI xt0), some (mI 0)] [] s Q) : Wp X d 106 4 [some (mR 53), some (mR a1), some (Sum.inr (Sum.inr (Sum.inl o2))), l3, l4] [mI xt0] s Q := Wp_step k106 f106_4 (Wp_step k106 f106_5 (Wp_step k106 f106_6 (h_1)))
theorem b106_8 {X : (Nat → Int) × Nat} {d : Nat} {s : mSt} {Q : mQ} {a1 : Nat} {o2 : Option Nat} {x3 : Int} {x4 : Int} (h1 : isNt a1) (h_1 : x3 < x4 → Wp X d 106 48 [some (mR 53), some (mR a1), some (Sum.inr (Sum.inr (Sum.inl o2))), some (mI x3), some (mI x4)] [] s Q) (h_2 : ¬ x3 < x4 → Wp X d 106 14 [some (mR 53), some (mR a1), some (Sum.inr (Sum.inr (Sum.inl o2))), some (mI x3), some (mI x4)] [] s Q) : Wp X d 106 8 [some (mR 53), some (mR a1), some (Sum.inr (Sum.inr (Sum.inl o2))), some (mI x3), some (mI x4)] [] s Q := Wp_step k106 f106_8 (Wp_step k106 f106_10 (Wp_step k106 f106_11 ⟨h_1, h_2⟩))
theorem b106_14 {X : (Nat → Int) × Nat} {d : Nat} {s : mSt} {Q : mQ} {a1 : Nat} {o2 : Option Nat} {x3 : Int} {x4 : Int} (h1 : isNt a1) (h_1 : Sp X d 117 [mR 50, mR 54, Sum.inr (Sum.inr (Sum.inl o2))] s (fun r s' => ∃ v : Int, r = some (mI v) ∧ Wp X (d + 1) 106 26 [some (mR 53), some (mR a1), some (Sum.inr (Sum.inr (Sum.inl o2))), some (mI x3), some (mI x4)] [mI v] s' Q)) : Wp X (d + 1) 106 14 [some (mR 53), some (mR a1), some (Sum.inr (Sum.inr (Sum.inl o2))), some (mI x3), some (mI x4)] [] s Q := Wp_step k106 f106_14 (Wp_step k106 f106_15 ⟨kf_53, 50, rf_53_1, Wp_step k106 f106_18 (Wp_step k106 f106_19 ⟨kf_53, 54, rf_53_2, Wp_step k106 f106_22 (Wp_step k106 f106_23 ⟨⟨kf_50, Nat.le_of_ble_eq_true rfl⟩, Nat.le_refl _, _, rfl, Sp_E h_1⟩)⟩)⟩)
theorem b106_26 {X : (Nat → Int) × Nat} {d : Nat} {s : mSt} {Q : mQ} {a1 : Nat} {o2 : Option Nat} {x3 : Int} {x4 : Int} {xt0 : Int} (h1 : isNt a1) (h_1 : Sp X d 57 [mR a1, mR 54, mI x4] s (fun r s' => ∃ v : Int, r = some (mI v) ∧ Wp X (d + 1) 106 37 [some (mR 53), some (mR a1), some (Sum.inr (Sum.inr (Sum.inl o2))), some (mI x3), some (mI x4)] [mI v] s' Q)) : Wp X (d + 1) 106 26 [some (mR 53), some (mR a1), some (Sum.inr (Sum.inr (Sum.inl o2))), some (mI x3), some (mI x4)] [mI xt0] s Q := Wp_step k106 f106_26 (Wp_step k106 f106_27 (Wp_step k106 f106_28 (Wp_step k106 f106_29 ⟨kf_53, 54, rf_53_2, Wp_step k106 f106_32 (Wp_step k106 f106_34 ⟨⟨(nt_k h1), Nat.le_of_ble_eq_true rfl⟩, Nat.le_refl _, _, rfl, Sp_E h_1⟩)⟩)))
theorem b106_37 {X : (Nat → Int) × Nat} {d : Nat} {s : mSt} {Q : mQ} {a1 : Nat} {o2 : Option Nat} {x3 : Int} {x4 : Int} {xt0 : Int} (h1 : isNt a1) (h_1 : ¬ xt0 = 0 → Wp X d 106 42 [some (mR 53), some (mR a1), some (Sum.inr (Sum.inr (Sum.inl o2))), some (mI x3), some (mI x4)] [] s Q) (h_2 : xt0 = 0 → Wp X d 106 40 [some (mR 53), some (mR a1), some (Sum.inr (Sum.inr (Sum.inl o2))), some (mI x3), some (mI x4)] [] s Q) : Wp X d 106 37 [some (mR 53), some (mR a1), some (Sum.inr (Sum.inr (Sum.inl o2))), some (mI x3), some (mI x4)] [mI xt0] s Q := Wp_step k106 f106_37 ⟨h_1, h_2⟩
theorem b106_40 {X : (Nat → Int) × Nat} {d : Nat} {s : mSt} {Q : mQ} {a1 : Nat} {o2 : Option Nat} {x3 : Int} {x4 : Int} (h1 : isNt a1) (h_1 : Q (some (mI 0)) s) : Wp X d 106 40 [some (mR 53), some (mR a1), some (Sum.inr (Sum.inr (Sum.inl o2))), some (mI x3), some (mI x4)] [] s Q := Wp_step k106 f106_40 (Wp_step k106 f106_41 ⟨⟨rfl, (Or.inl rfl)⟩, h_1⟩)
theorem b106_42 {X : (Nat → Int) × Nat} {d : Nat} {s : mSt} {Q : mQ} {a1 : Nat} {o2 : Option Nat} {x3 : Int} {x4 : Int} (h1 : isNt a1) (h_1 : Wp X d 106 8 [some (mR 53), some (mR a1), some (Sum.inr (Sum.inr (Sum.inl o2))), some (mI x3), some (mI (w32 (x4 + 1)))] [] s Q) : Wp X d 106 42 [some (mR 53), some (mR a1), some (Sum.inr (Sum.inr (Sum.inl o2))), some (mI x3), some (mI x4)] [] s Q := Wp_step k106 f106_42 (Wp_step k106 f106_45 (h_1))
theorem b106_48 {X : (Nat → Int) × Nat} {d : Nat} {s : mSt} {Q : mQ} {a1 : Nat} {o2 : Option Nat} {x3 : Int} {x4 : Int} (h1 : isNt a1) (h_1 : Q (some (mI 1)) s) : Wp X d 106 48 [some (mR 53), some (mR a1), some (Sum.inr (Sum.inr (Sum.inl o2))), some (mI x3), some (mI x4)] [] s Q := Wp_step k106 f106_48 (Wp_step k106 f106_49 ⟨⟨rfl, (Or.inr rfl)⟩, h_1⟩)
theorem e106 {X : (Nat → Int) × Nat} {d : Nat} {s : mSt} {Q : mQ} {a1 : Nat} {o2 : Option Nat} (h : Wp X d 106 0 [some (mR 53), some (mR a1), some (Sum.inr (Sum.inr (Sum.inl o2))), none, none] [] s Q) : Sp X d 106 [mR 53, mR a1, Sum.inr (Sum.inr (Sum.inl o2))] s Q := Sp_of (show mCe 106 = 0 by decide +kernel) (by rw [show mML 106 = 5 by decide +kernel]; rfl) (Nat.le_trans (Nat.le_of_ble_eq_true (show Nat.ble (mArgs _).length 5 = true from rfl)) (show 5 ≤ mML 106 by decide +kernel)) h
-- 107 ClashDay$Trials.foresee(LClashDay$Board;[LClashDay$Rule;II)V
theorem k107 : mRk 107 = 0 := by decide +kernel
theorem f107_0 : mFetch 107 0 = some (.iconst 0, 1, 0, 0, 0, 0) := by decide +kernel
theorem f107_1 : mFetch 107 1 = some (.istore 5, 2, 0, 0, 0, 0) := by decide +kernel
theorem f107_3 : mFetch 107 3 = some (.iload 5, 2, 0, 0, 0, 0) := by decide +kernel
theorem f107_5 : mFetch 107 5 = some (.aload_n 0, 1, 0, 0, 0, 0) := by decide +kernel
theorem f107_6 : mFetch 107 6 = some (.getfield 33, 3, 9, 12, 2, 1) := by decide +kernel
theorem f107_9 : mFetch 107 9 = some (.arraylength, 1, 0, 0, 0, 0) := by decide +kernel
theorem f107_10 : mFetch 107 10 = some (.if_icmp .ge 86, 3, 96, 0, 0, 0) := by decide +kernel
theorem f107_13 : mFetch 107 13 = some (.iload_n 3, 1, 0, 0, 0, 0) := by decide +kernel
theorem f107_14 : mFetch 107 14 = some (.iload 5, 2, 0, 0, 0, 0) := by decide +kernel
theorem f107_16 : mFetch 107 16 = some (.ishr, 1, 0, 0, 0, 0) := by decide +kernel
theorem f107_17 : mFetch 107 17 = some (.iconst 1, 1, 0, 0, 0, 0) := by decide +kernel
theorem f107_18 : mFetch 107 18 = some (.iand, 1, 0, 0, 0, 0) := by decide +kernel
theorem f107_19 : mFetch 107 19 = some (.iconst 1, 1, 0, 0, 0, 0) := by decide +kernel
theorem f107_20 : mFetch 107 20 = some (.if_icmp .ne 70, 3, 90, 0, 0, 0) := by decide +kernel
theorem f107_23 : mFetch 107 23 = some (.aload_n 0, 1, 0, 0, 0, 0) := by decide +kernel
theorem f107_24 : mFetch 107 24 = some (.aload_n 1, 1, 0, 0, 0, 0) := by decide +kernel
theorem f107_25 : mFetch 107 25 = some (.iload 5, 2, 0, 0, 0, 0) := by decide +kernel
theorem f107_27 : mFetch 107 27 = some (.ifCond .eq 10, 3, 37, 0, 0, 0) := by decide +kernel
theorem f107_30 : mFetch 107 30 = some (.iload 5, 2, 0, 0, 0, 0) := by decide +kernel
theorem f107_32 : mFetch 107 32 = some (.aload_n 2, 1, 0, 0, 0, 0) := by decide +kernel
theorem f107_33 : mFetch 107 33 = some (.arraylength, 1, 0, 0, 0, 0) := by decide +kernel
theorem f107_34 : mFetch 107 34 = some (.if_icmp .le 7, 3, 41, 0, 0, 0) := by decide +kernel
theorem f107_37 : mFetch 107 37 = some (.aconst_null, 1, 0, 0, 0, 0) := by decide +kernel
theorem f107_38 : mFetch 107 38 = some (.goto 9, 3, 47, 0, 0, 0) := by decide +kernel
theorem f107_41 : mFetch 107 41 = some (.aload_n 2, 1, 0, 0, 0, 0) := by decide +kernel
theorem f107_42 : mFetch 107 42 = some (.iload 5, 2, 0, 0, 0, 0) := by decide +kernel
theorem f107_44 : mFetch 107 44 = some (.iconst 1, 1, 0, 0, 0, 0) := by decide +kernel
theorem f107_45 : mFetch 107 45 = some (.isub, 1, 0, 0, 0, 0) := by decide +kernel
theorem f107_46 : mFetch 107 46 = some (.aaload, 1, 0, 0, 0, 0) := by decide +kernel
theorem f107_47 : mFetch 107 47 = some (.iload 4, 2, 0, 0, 0, 0) := by decide +kernel
theorem f107_49 : mFetch 107 49 = some (.iconst 1, 1, 0, 0, 0, 0) := by decide +kernel
theorem f107_50 : mFetch 107 50 = some (.iadd, 1, 0, 0, 0, 0) := by decide +kernel
theorem f107_51 : mFetch 107 51 = some (.invokevirtual 149, 3, 101, 0, 4, 9) := by decide +kernel
theorem f107_54 : mFetch 107 54 = some (.pop, 1, 0, 0, 0, 0) := by decide +kernel
theorem f107_55 : mFetch 107 55 = some (.iconst 0, 1, 0, 0, 0, 0) := by decide +kernel
theorem f107_56 : mFetch 107 56 = some (.istore 6, 2, 0, 0, 0, 0) := by decide +kernel
theorem f107_58 : mFetch 107 58 = some (.iload 6, 2, 0, 0, 0, 0) := by decide +kernel
theorem f107_60 : mFetch 107 60 = some (.bipush 30, 2, 0, 0, 0, 0) := by decide +kernel
theorem f107_62 : mFetch 107 62 = some (.if_icmp .ge 28, 3, 90, 0, 0, 0) := by decide +kernel
theorem f107_65 : mFetch 107 65 = some (.aload_n 0, 1, 0, 0, 0, 0) := by decide +kernel
theorem f107_66 : mFetch 107 66 = some (.getfield 33, 3, 9, 12, 2, 1) := by decide +kernel
theorem f107_69 : mFetch 107 69 = some (.iload 5, 2, 0, 0, 0, 0) := by decide +kernel
theorem f107_71 : mFetch 107 71 = some (.aaload, 1, 0, 0, 0, 0) := by decide +kernel
theorem f107_72 : mFetch 107 72 = some (.iload 6, 2, 0, 0, 0, 0) := by decide +kernel
theorem f107_74 : mFetch 107 74 = some (.aload_n 0, 1, 0, 0, 0, 0) := by decide +kernel
theorem f107_75 : mFetch 107 75 = some (.getfield 12, 3, 9, 2, 2, 1) := by decide +kernel
theorem f107_78 : mFetch 107 78 = some (.iload 6, 2, 0, 0, 0, 0) := by decide +kernel
theorem f107_80 : mFetch 107 80 = some (.invokevirtual 153, 3, 17, 0, 2, 0) := by decide +kernel
theorem f107_83 : mFetch 107 83 = some (.iastore, 1, 0, 0, 0, 0) := by decide +kernel
theorem f107_84 : mFetch 107 84 = some (.iinc 6 1, 3, 0, 0, 0, 0) := by decide +kernel
theorem f107_87 : mFetch 107 87 = some (.goto (-29), 3, 58, 0, 0, 0) := by decide +kernel
theorem f107_90 : mFetch 107 90 = some (.iinc 5 1, 3, 0, 0, 0, 0) := by decide +kernel
theorem f107_93 : mFetch 107 93 = some (.goto (-90), 3, 3, 0, 0, 0) := by decide +kernel
theorem f107_96 : mFetch 107 96 = some (.return_, 1, 0, 0, 0, 0) := by decide +kernel
theorem b107_0 {X : (Nat → Int) × Nat} {d : Nat} {s : mSt} {Q : mQ} {a1 : Nat} {x3 : Int} {x4 : Int} {l5 : Option mV} {l6 : Option mV} (h1 : isBd a1) (h_1 : Wp X d 107 3 [some (mR 53), some (mR a1), some (mR 6), some (mI x3), some (mI x4), some (mI 0), l6] [] s Q) : Wp X d 107 0 [some (mR 53), some (mR a1), some (mR 6), some (mI x3), some (mI x4), l5, l6] [] s Q := Wp_step k107 f107_0 (Wp_step k107 f107_1 (h_1))
theorem b107_3 {X : (Nat → Int) × Nat} {d : Nat} {s : mSt} {Q : mQ} {a1 : Nat} {x3 : Int} {x4 : Int} {x5 : Int} {l6 : Option mV} (h1 : isBd a1) (h_1 : 7 ≤ x5 → Wp X d 107 96 [some (mR 53), some (mR a1), some (mR 6), some (mI x3), some (mI x4), some (mI x5), l6] [] s Q) (h_2 : ¬ 7 ≤ x5 → Wp X d 107 13 [some (mR 53), some (mR a1), some (mR 6), some (mI x3), some (mI x4), some (mI x5), l6] [] s Q) : Wp X d 107 3 [some (mR 53), some (mR a1), some (mR 6), some (mI x3), some (mI x4), some (mI x5), l6] [] s Q := Wp_step k107 f107_3 (Wp_step k107 f107_5 (Wp_step k107 f107_6 ⟨kf_53, 68, rf_53_12, Wp_step k107 f107_9 ⟨28, 7, af_68, ⟨by decide, by decide, by decide⟩, Wp_step k107 f107_10 ⟨h_1, h_2⟩⟩⟩))
theorem b107_13 {X : (Nat → Int) × Nat} {d : Nat} {s : mSt} {Q : mQ} {a1 : Nat} {x3 : Int} {x4 : Int} {x5 : Int} {l6 : Option mV} (h1 : isBd a1) (h_1 : ¬ (iAnd (iShr x3 x5) 1) = 1 → Wp X d 107 90 [some (mR 53), some (mR a1), some (mR 6), some (mI x3), some (mI x4), some (mI x5), l6] [] s Q) (h_2 : (iAnd (iShr x3 x5) 1) = 1 → Wp X d 107 23 [some (mR 53), some (mR a1), some (mR 6), some (mI x3), some (mI x4), some (mI x5), l6] [] s Q) : Wp X d 107 13 [some (mR 53), some (mR a1), some (mR 6), some (mI x3), some (mI x4), some (mI x5), l6] [] s Q := Wp_step k107 f107_13 (Wp_step k107 f107_14 (Wp_step k107 f107_16 (Wp_step k107 f107_17 (Wp_step k107 f107_18 (Wp_step k107 f107_19 (Wp_step k107 f107_20 ⟨h_1, h_2⟩))))))
theorem b107_23 {X : (Nat → Int) × Nat} {d : Nat} {s : mSt} {Q : mQ} {a1 : Nat} {x3 : Int} {x4 : Int} {x5 : Int} {l6 : Option mV} (h1 : isBd a1) (h_1 : x5 = 0 → Wp X d 107 37 [some (mR 53), some (mR a1), some (mR 6), some (mI x3), some (mI x4), some (mI x5), l6] [mR a1, mR 53] s Q) (h_2 : ¬ x5 = 0 → Wp X d 107 30 [some (mR 53), some (mR a1), some (mR 6), some (mI x3), some (mI x4), some (mI x5), l6] [mR a1, mR 53] s Q) : Wp X d 107 23 [some (mR 53), some (mR a1), some (mR 6), some (mI x3), some (mI x4), some (mI x5), l6] [] s Q := Wp_step k107 f107_23 (Wp_step k107 f107_24 (Wp_step k107 f107_25 (Wp_step k107 f107_27 ⟨h_1, h_2⟩)))
theorem b107_30 {X : (Nat → Int) × Nat} {d : Nat} {s : mSt} {Q : mQ} {a1 : Nat} {x3 : Int} {x4 : Int} {x5 : Int} {l6 : Option mV} {at1 : Nat} (h1 : isBd a1) (ht1 : isBd at1) (h_1 : x5 ≤ 6 → Wp X d 107 41 [some (mR 53), some (mR a1), some (mR 6), some (mI x3), some (mI x4), some (mI x5), l6] [mR at1, mR 53] s Q) (h_2 : ¬ x5 ≤ 6 → Wp X d 107 37 [some (mR 53), some (mR a1), some (mR 6), some (mI x3), some (mI x4), some (mI x5), l6] [mR at1, mR 53] s Q) : Wp X d 107 30 [some (mR 53), some (mR a1), some (mR 6), some (mI x3), some (mI x4), some (mI x5), l6] [mR at1, mR 53] s Q := Wp_step k107 f107_30 (Wp_step k107 f107_32 (Wp_step k107 f107_33 ⟨26, 6, af_6, ⟨by decide, by decide, by decide⟩, Wp_step k107 f107_34 ⟨h_1, h_2⟩⟩))
theorem b107_37 {X : (Nat → Int) × Nat} {d : Nat} {s : mSt} {Q : mQ} {a1 : Nat} {x3 : Int} {x4 : Int} {x5 : Int} {l6 : Option mV} {at1 : Nat} (h1 : isBd a1) (ht1 : isBd at1) (h_1 : Wp X d 107 47 [some (mR 53), some (mR a1), some (mR 6), some (mI x3), some (mI x4), some (mI x5), l6] [mN, mR at1, mR 53] s Q) : Wp X d 107 37 [some (mR 53), some (mR a1), some (mR 6), some (mI x3), some (mI x4), some (mI x5), l6] [mR at1, mR 53] s Q := Wp_step k107 f107_37 (Wp_step k107 f107_38 (h_1))
theorem b107_41 {X : (Nat → Int) × Nat} {d : Nat} {s : mSt} {Q : mQ} {a1 : Nat} {x3 : Int} {x4 : Int} {x5 : Int} {l6 : Option mV} {at1 : Nat} {r1 : Nat} (h1 : isBd a1) (ht1 : isBd at1) (hr1 : isRl r1) (h_1 : 0 ≤ (w32 (x5 - 1)) ∧ (w32 (x5 - 1)) < 6) (h_2 : s 6 (w32 (x5 - 1)).toNat = (r1 : Int)) (h_3 : Wp X d 107 47 [some (mR 53), some (mR a1), some (mR 6), some (mI x3), some (mI x4), some (mI x5), l6] [mR r1, mR at1, mR 53] s Q) : Wp X d 107 41 [some (mR 53), some (mR a1), some (mR 6), some (mI x3), some (mI x4), some (mI x5), l6] [mR at1, mR 53] s Q := Wp_step k107 f107_41 (Wp_step k107 f107_42 (Wp_step k107 f107_44 (Wp_step k107 f107_45 (Wp_step k107 f107_46 ⟨26, 6, af_6, ⟨by decide, by decide⟩, h_1, r1, h_2, h_3⟩))))
theorem b107_47 {X : (Nat → Int) × Nat} {d : Nat} {s : mSt} {Q : mQ} {a1 : Nat} {x3 : Int} {x4 : Int} {x5 : Int} {l6 : Option mV} {at1 : Nat} {ot2 : Option Nat} (h1 : isBd a1) (ht1 : isBd at1) (h_1 : Sp X d 101 [mR 53, mR at1, Sum.inr (Sum.inr (Sum.inl ot2)), mI (w32 (x4 + 1))] s (fun r s' => r = some (mR 54) ∧ Wp X (d + 1) 107 54 [some (mR 53), some (mR a1), some (mR 6), some (mI x3), some (mI x4), some (mI x5), l6] [mR 54] s' Q)) : Wp X (d + 1) 107 47 [some (mR 53), some (mR a1), some (mR 6), some (mI x3), some (mI x4), some (mI x5), l6] [Sum.inr (Sum.inr (Sum.inl ot2)), mR at1, mR 53] s Q := Wp_step k107 f107_47 (Wp_step k107 f107_49 (Wp_step k107 f107_50 (Wp_step k107 f107_51 ⟨⟨kf_53, Nat.le_of_ble_eq_true rfl⟩, Nat.le_refl _, _, rfl, Sp_B h_1⟩)))
theorem b107_54 {X : (Nat → Int) × Nat} {d : Nat} {s : mSt} {Q : mQ} {a1 : Nat} {x3 : Int} {x4 : Int} {x5 : Int} {l6 : Option mV} (h1 : isBd a1) (h_1 : Wp X d 107 58 [some (mR 53), some (mR a1), some (mR 6), some (mI x3), some (mI x4), some (mI x5), some (mI 0)] [] s Q) : Wp X d 107 54 [some (mR 53), some (mR a1), some (mR 6), some (mI x3), some (mI x4), some (mI x5), l6] [mR 54] s Q := Wp_step k107 f107_54 (Wp_step k107 f107_55 (Wp_step k107 f107_56 (h_1)))
theorem b107_58 {X : (Nat → Int) × Nat} {d : Nat} {s : mSt} {Q : mQ} {a1 : Nat} {x3 : Int} {x4 : Int} {x5 : Int} {x6 : Int} (h1 : isBd a1) (h_1 : 30 ≤ x6 → Wp X d 107 90 [some (mR 53), some (mR a1), some (mR 6), some (mI x3), some (mI x4), some (mI x5), some (mI x6)] [] s Q) (h_2 : ¬ 30 ≤ x6 → Wp X d 107 65 [some (mR 53), some (mR a1), some (mR 6), some (mI x3), some (mI x4), some (mI x5), some (mI x6)] [] s Q) : Wp X d 107 58 [some (mR 53), some (mR a1), some (mR 6), some (mI x3), some (mI x4), some (mI x5), some (mI x6)] [] s Q := Wp_step k107 f107_58 (Wp_step k107 f107_60 (Wp_step k107 f107_62 ⟨h_1, h_2⟩))
theorem b107_65 {X : (Nat → Int) × Nat} {d : Nat} {s : mSt} {Q : mQ} {a1 : Nat} {x3 : Int} {x4 : Int} {x5 : Int} {x6 : Int} {r1 : Nat} (h1 : isBd a1) (hr1 : aS S0 r1 22 30) (h_1 : 0 ≤ x5 ∧ x5 < 7) (h_2 : s 68 x5.toNat = (r1 : Int)) (h_3 : Sp X d 17 [mR 54, mI x6] s (fun r s' => ∃ v : Int, r = some (mI v) ∧ Wp X (d + 1) 107 83 [some (mR 53), some (mR a1), some (mR 6), some (mI x3), some (mI x4), some (mI x5), some (mI x6)] [mI v, mI x6, mR r1] s' Q)) : Wp X (d + 1) 107 65 [some (mR 53), some (mR a1), some (mR 6), some (mI x3), some (mI x4), some (mI x5), some (mI x6)] [] s Q := Wp_step k107 f107_65 (Wp_step k107 f107_66 ⟨kf_53, 68, rf_53_12, Wp_step k107 f107_69 (Wp_step k107 f107_71 ⟨28, 7, af_68, ⟨by decide, by decide⟩, h_1, r1, h_2, Wp_step k107 f107_72 (Wp_step k107 f107_74 (Wp_step k107 f107_75 ⟨kf_53, 54, rf_53_2, Wp_step k107 f107_78 (Wp_step k107 f107_80 ⟨⟨kf_54, Nat.le_of_ble_eq_true rfl⟩, Nat.le_refl _, _, rfl, Sp_E h_3⟩)⟩))⟩)⟩)
theorem b107_83 {X : (Nat → Int) × Nat} {d : Nat} {s : mSt} {Q : mQ} {a1 : Nat} {x3 : Int} {x4 : Int} {x5 : Int} {x6 : Int} {at0 : Nat} {xt1 : Int} {xt2 : Int} (h1 : isBd a1) (ht0 : aS S0 at0 22 30) (h_1 : 0 ≤ xt1 ∧ xt1 < 30) (h_2 : Wp X d 107 58 [some (mR 53), some (mR a1), some (mR 6), some (mI x3), some (mI x4), some (mI x5), some (mI (w32 (x6 + 1)))] [] (uS s at0 xt1.toNat xt2) Q) : Wp X d 107 83 [some (mR 53), some (mR a1), some (mR 6), some (mI x3), some (mI x4), some (mI x5), some (mI x6)] [mI xt2, mI xt1, mR at0] s Q := Wp_step k107 f107_83 ⟨30, ht0, h_1, Wp_step k107 f107_84 (Wp_step k107 f107_87 (h_2))⟩
theorem b107_90 {X : (Nat → Int) × Nat} {d : Nat} {s : mSt} {Q : mQ} {a1 : Nat} {x3 : Int} {x4 : Int} {x5 : Int} {l6 : Option mV} (h1 : isBd a1) (h_1 : Wp X d 107 3 [some (mR 53), some (mR a1), some (mR 6), some (mI x3), some (mI x4), some (mI (w32 (x5 + 1))), l6] [] s Q) : Wp X d 107 90 [some (mR 53), some (mR a1), some (mR 6), some (mI x3), some (mI x4), some (mI x5), l6] [] s Q := Wp_step k107 f107_90 (Wp_step k107 f107_93 (h_1))
theorem b107_96 {X : (Nat → Int) × Nat} {d : Nat} {s : mSt} {Q : mQ} {a1 : Nat} {x3 : Int} {x4 : Int} {x5 : Int} {l6 : Option mV} (h1 : isBd a1) (h_1 : Q none s) : Wp X d 107 96 [some (mR 53), some (mR a1), some (mR 6), some (mI x3), some (mI x4), some (mI x5), l6] [] s Q := Wp_step k107 f107_96 ⟨⟨rfl, Or.inl rfl⟩, h_1⟩
theorem e107 {X : (Nat → Int) × Nat} {d : Nat} {s : mSt} {Q : mQ} {a1 : Nat} {x3 : Int} {x4 : Int} (h : Wp X d 107 0 [some (mR 53), some (mR a1), some (mR 6), some (mI x3), some (mI x4), none, none] [] s Q) : Sp X d 107 [mR 53, mR a1, mR 6, mI x3, mI x4] s Q := Sp_of (show mCe 107 = 0 by decide +kernel) (by rw [show mML 107 = 7 by decide +kernel]; rfl) (Nat.le_trans (Nat.le_of_ble_eq_true (show Nat.ble (mArgs _).length 7 = true from rfl)) (show 7 ≤ mML 107 by decide +kernel)) h
-- 108 ClashDay$Trials.slotThatParts(I)I
theorem k108 : mRk 108 = 1 := by decide +kernel
theorem f108_0 : mFetch 108 0 = some (.iconst 0, 1, 0, 0, 0, 0) := by decide +kernel
theorem f108_1 : mFetch 108 1 = some (.istore_n 2, 1, 0, 0, 0, 0) := by decide +kernel
theorem f108_2 : mFetch 108 2 = some (.iconst 1, 1, 0, 0, 0, 0) := by decide +kernel
theorem f108_3 : mFetch 108 3 = some (.istore_n 3, 1, 0, 0, 0, 0) := by decide +kernel
theorem f108_4 : mFetch 108 4 = some (.iload_n 3, 1, 0, 0, 0, 0) := by decide +kernel
theorem f108_5 : mFetch 108 5 = some (.bipush 30, 2, 0, 0, 0, 0) := by decide +kernel
theorem f108_7 : mFetch 108 7 = some (.if_icmp .ge 26, 3, 33, 0, 0, 0) := by decide +kernel
theorem f108_10 : mFetch 108 10 = some (.aload_n 0, 1, 0, 0, 0, 0) := by decide +kernel
theorem f108_11 : mFetch 108 11 = some (.iload_n 1, 1, 0, 0, 0, 0) := by decide +kernel
theorem f108_12 : mFetch 108 12 = some (.iload_n 3, 1, 0, 0, 0, 0) := by decide +kernel
theorem f108_13 : mFetch 108 13 = some (.invokevirtual 156, 3, 109, 0, 3, 9) := by decide +kernel
theorem f108_16 : mFetch 108 16 = some (.aload_n 0, 1, 0, 0, 0, 0) := by decide +kernel
theorem f108_17 : mFetch 108 17 = some (.iload_n 1, 1, 0, 0, 0, 0) := by decide +kernel
theorem f108_18 : mFetch 108 18 = some (.iload_n 2, 1, 0, 0, 0, 0) := by decide +kernel
theorem f108_19 : mFetch 108 19 = some (.invokevirtual 156, 3, 109, 0, 3, 9) := by decide +kernel
theorem f108_22 : mFetch 108 22 = some (.if_icmp .ge 5, 3, 27, 0, 0, 0) := by decide +kernel
theorem f108_25 : mFetch 108 25 = some (.iload_n 3, 1, 0, 0, 0, 0) := by decide +kernel
theorem f108_26 : mFetch 108 26 = some (.istore_n 2, 1, 0, 0, 0, 0) := by decide +kernel
theorem f108_27 : mFetch 108 27 = some (.iinc 3 1, 3, 0, 0, 0, 0) := by decide +kernel
theorem f108_30 : mFetch 108 30 = some (.goto (-26), 3, 4, 0, 0, 0) := by decide +kernel
theorem f108_33 : mFetch 108 33 = some (.iload_n 2, 1, 0, 0, 0, 0) := by decide +kernel
theorem f108_34 : mFetch 108 34 = some (.ireturn, 1, 0, 0, 0, 0) := by decide +kernel
theorem b108_0 {X : (Nat → Int) × Nat} {d : Nat} {s : mSt} {Q : mQ} {x1 : Int} {l2 : Option mV} {l3 : Option mV} (h_1 : Wp X d 108 4 [some (mR 53), some (mI x1), some (mI 0), some (mI 1)] [] s Q) : Wp X d 108 0 [some (mR 53), some (mI x1), l2, l3] [] s Q := Wp_step k108 f108_0 (Wp_step k108 f108_1 (Wp_step k108 f108_2 (Wp_step k108 f108_3 (h_1))))
theorem b108_4 {X : (Nat → Int) × Nat} {d : Nat} {s : mSt} {Q : mQ} {x1 : Int} {x2 : Int} {x3 : Int} (h_1 : 30 ≤ x3 → Wp X d 108 33 [some (mR 53), some (mI x1), some (mI x2), some (mI x3)] [] s Q) (h_2 : ¬ 30 ≤ x3 → Wp X d 108 10 [some (mR 53), some (mI x1), some (mI x2), some (mI x3)] [] s Q) : Wp X d 108 4 [some (mR 53), some (mI x1), some (mI x2), some (mI x3)] [] s Q := Wp_step k108 f108_4 (Wp_step k108 f108_5 (Wp_step k108 f108_7 ⟨h_1, h_2⟩))
theorem b108_10 {X : (Nat → Int) × Nat} {d : Nat} {s : mSt} {Q : mQ} {x1 : Int} {x2 : Int} {x3 : Int} (h_1 : Sp X d 109 [mR 53, mI x1, mI x3] s (fun r s' => ∃ v : Int, r = some (mI v) ∧ Wp X (d + 1) 108 16 [some (mR 53), some (mI x1), some (mI x2), some (mI x3)] [mI v] s' Q)) : Wp X (d + 1) 108 10 [some (mR 53), some (mI x1), some (mI x2), some (mI x3)] [] s Q := Wp_step k108 f108_10 (Wp_step k108 f108_11 (Wp_step k108 f108_12 (Wp_step k108 f108_13 ⟨⟨kf_53, Nat.le_of_ble_eq_true rfl⟩, Nat.le_refl _, _, rfl, Sp_E h_1⟩)))
theorem b108_16 {X : (Nat → Int) × Nat} {d : Nat} {s : mSt} {Q : mQ} {x1 : Int} {x2 : Int} {x3 : Int} {xt0 : Int} (h_1 : Sp X d 109 [mR 53, mI x1, mI x2] s (fun r s' => ∃ v : Int, r = some (mI v) ∧ Wp X (d + 1) 108 22 [some (mR 53), some (mI x1), some (mI x2), some (mI x3)] [mI v, mI xt0] s' Q)) : Wp X (d + 1) 108 16 [some (mR 53), some (mI x1), some (mI x2), some (mI x3)] [mI xt0] s Q := Wp_step k108 f108_16 (Wp_step k108 f108_17 (Wp_step k108 f108_18 (Wp_step k108 f108_19 ⟨⟨kf_53, Nat.le_of_ble_eq_true rfl⟩, Nat.le_refl _, _, rfl, Sp_E h_1⟩)))
theorem b108_22 {X : (Nat → Int) × Nat} {d : Nat} {s : mSt} {Q : mQ} {x1 : Int} {x2 : Int} {x3 : Int} {xt0 : Int} {xt1 : Int} (h_1 : xt1 ≤ xt0 → Wp X d 108 27 [some (mR 53), some (mI x1), some (mI x2), some (mI x3)] [] s Q) (h_2 : ¬ xt1 ≤ xt0 → Wp X d 108 25 [some (mR 53), some (mI x1), some (mI x2), some (mI x3)] [] s Q) : Wp X d 108 22 [some (mR 53), some (mI x1), some (mI x2), some (mI x3)] [mI xt1, mI xt0] s Q := Wp_step k108 f108_22 ⟨h_1, h_2⟩
theorem b108_25 {X : (Nat → Int) × Nat} {d : Nat} {s : mSt} {Q : mQ} {x1 : Int} {x2 : Int} {x3 : Int} (h_1 : Wp X d 108 27 [some (mR 53), some (mI x1), some (mI x3), some (mI x3)] [] s Q) : Wp X d 108 25 [some (mR 53), some (mI x1), some (mI x2), some (mI x3)] [] s Q := Wp_step k108 f108_25 (Wp_step k108 f108_26 (h_1))
theorem b108_27 {X : (Nat → Int) × Nat} {d : Nat} {s : mSt} {Q : mQ} {x1 : Int} {x2 : Int} {x3 : Int} (h_1 : Wp X d 108 4 [some (mR 53), some (mI x1), some (mI x2), some (mI (w32 (x3 + 1)))] [] s Q) : Wp X d 108 27 [some (mR 53), some (mI x1), some (mI x2), some (mI x3)] [] s Q := Wp_step k108 f108_27 (Wp_step k108 f108_30 (h_1))
theorem b108_33 {X : (Nat → Int) × Nat} {d : Nat} {s : mSt} {Q : mQ} {x1 : Int} {x2 : Int} {x3 : Int} (h_1 : Q (some (mI x2)) s) : Wp X d 108 33 [some (mR 53), some (mI x1), some (mI x2), some (mI x3)] [] s Q := Wp_step k108 f108_33 (Wp_step k108 f108_34 ⟨⟨rfl, trivial⟩, h_1⟩)
theorem e108 {X : (Nat → Int) × Nat} {d : Nat} {s : mSt} {Q : mQ} {x1 : Int} (h : Wp X d 108 0 [some (mR 53), some (mI x1), none, none] [] s Q) : Sp X d 108 [mR 53, mI x1] s Q := Sp_of (show mCe 108 = 0 by decide +kernel) (by rw [show mML 108 = 4 by decide +kernel]; rfl) (Nat.le_trans (Nat.le_of_ble_eq_true (show Nat.ble (mArgs _).length 4 = true from rfl)) (show 4 ≤ mML 108 by decide +kernel)) h
-- 109 ClashDay$Trials.mostAlike(II)I
theorem k109 : mRk 109 = 1 := by decide +kernel
theorem f109_0 : mFetch 109 0 = some (.iconst 0, 1, 0, 0, 0, 0) := by decide +kernel
theorem f109_1 : mFetch 109 1 = some (.istore_n 3, 1, 0, 0, 0, 0) := by decide +kernel
theorem f109_2 : mFetch 109 2 = some (.iconst 0, 1, 0, 0, 0, 0) := by decide +kernel
theorem f109_3 : mFetch 109 3 = some (.istore 4, 2, 0, 0, 0, 0) := by decide +kernel
theorem f109_5 : mFetch 109 5 = some (.iload 4, 2, 0, 0, 0, 0) := by decide +kernel
theorem f109_7 : mFetch 109 7 = some (.aload_n 0, 1, 0, 0, 0, 0) := by decide +kernel
theorem f109_8 : mFetch 109 8 = some (.getfield 33, 3, 9, 12, 2, 1) := by decide +kernel
theorem f109_11 : mFetch 109 11 = some (.arraylength, 1, 0, 0, 0, 0) := by decide +kernel
theorem f109_12 : mFetch 109 12 = some (.if_icmp .ge 94, 3, 106, 0, 0, 0) := by decide +kernel
theorem f109_15 : mFetch 109 15 = some (.iconst 0, 1, 0, 0, 0, 0) := by decide +kernel
theorem f109_16 : mFetch 109 16 = some (.istore 5, 2, 0, 0, 0, 0) := by decide +kernel
theorem f109_18 : mFetch 109 18 = some (.iconst 0, 1, 0, 0, 0, 0) := by decide +kernel
theorem f109_19 : mFetch 109 19 = some (.istore 6, 2, 0, 0, 0, 0) := by decide +kernel
theorem f109_21 : mFetch 109 21 = some (.iload 6, 2, 0, 0, 0, 0) := by decide +kernel
theorem f109_23 : mFetch 109 23 = some (.aload_n 0, 1, 0, 0, 0, 0) := by decide +kernel
theorem f109_24 : mFetch 109 24 = some (.getfield 33, 3, 9, 12, 2, 1) := by decide +kernel
theorem f109_27 : mFetch 109 27 = some (.arraylength, 1, 0, 0, 0, 0) := by decide +kernel
theorem f109_28 : mFetch 109 28 = some (.if_icmp .ge 65, 3, 93, 0, 0, 0) := by decide +kernel
theorem f109_31 : mFetch 109 31 = some (.iload_n 1, 1, 0, 0, 0, 0) := by decide +kernel
theorem f109_32 : mFetch 109 32 = some (.iload 4, 2, 0, 0, 0, 0) := by decide +kernel
theorem f109_34 : mFetch 109 34 = some (.ishr, 1, 0, 0, 0, 0) := by decide +kernel
theorem f109_35 : mFetch 109 35 = some (.iconst 1, 1, 0, 0, 0, 0) := by decide +kernel
theorem f109_36 : mFetch 109 36 = some (.iand, 1, 0, 0, 0, 0) := by decide +kernel
theorem f109_37 : mFetch 109 37 = some (.iconst 1, 1, 0, 0, 0, 0) := by decide +kernel
theorem f109_38 : mFetch 109 38 = some (.if_icmp .ne 17, 3, 55, 0, 0, 0) := by decide +kernel
theorem f109_41 : mFetch 109 41 = some (.iload_n 1, 1, 0, 0, 0, 0) := by decide +kernel
theorem f109_42 : mFetch 109 42 = some (.iload 6, 2, 0, 0, 0, 0) := by decide +kernel
theorem f109_44 : mFetch 109 44 = some (.ishr, 1, 0, 0, 0, 0) := by decide +kernel
theorem f109_45 : mFetch 109 45 = some (.iconst 1, 1, 0, 0, 0, 0) := by decide +kernel
theorem f109_46 : mFetch 109 46 = some (.iand, 1, 0, 0, 0, 0) := by decide +kernel
theorem f109_47 : mFetch 109 47 = some (.iconst 1, 1, 0, 0, 0, 0) := by decide +kernel
theorem f109_48 : mFetch 109 48 = some (.if_icmp .ne 7, 3, 55, 0, 0, 0) := by decide +kernel
theorem f109_51 : mFetch 109 51 = some (.iconst 1, 1, 0, 0, 0, 0) := by decide +kernel
theorem f109_52 : mFetch 109 52 = some (.goto 4, 3, 56, 0, 0, 0) := by decide +kernel
theorem f109_55 : mFetch 109 55 = some (.iconst 0, 1, 0, 0, 0, 0) := by decide +kernel
theorem f109_56 : mFetch 109 56 = some (.istore 7, 2, 0, 0, 0, 0) := by decide +kernel
theorem f109_58 : mFetch 109 58 = some (.iload 7, 2, 0, 0, 0, 0) := by decide +kernel
theorem f109_60 : mFetch 109 60 = some (.ifCond .eq 27, 3, 87, 0, 0, 0) := by decide +kernel
theorem f109_63 : mFetch 109 63 = some (.aload_n 0, 1, 0, 0, 0, 0) := by decide +kernel
theorem f109_64 : mFetch 109 64 = some (.getfield 33, 3, 9, 12, 2, 1) := by decide +kernel
theorem f109_67 : mFetch 109 67 = some (.iload 4, 2, 0, 0, 0, 0) := by decide +kernel
theorem f109_69 : mFetch 109 69 = some (.aaload, 1, 0, 0, 0, 0) := by decide +kernel
theorem f109_70 : mFetch 109 70 = some (.iload_n 2, 1, 0, 0, 0, 0) := by decide +kernel
theorem f109_71 : mFetch 109 71 = some (.iaload, 1, 0, 0, 0, 0) := by decide +kernel
theorem f109_72 : mFetch 109 72 = some (.aload_n 0, 1, 0, 0, 0, 0) := by decide +kernel
theorem f109_73 : mFetch 109 73 = some (.getfield 33, 3, 9, 12, 2, 1) := by decide +kernel
theorem f109_76 : mFetch 109 76 = some (.iload 6, 2, 0, 0, 0, 0) := by decide +kernel
theorem f109_78 : mFetch 109 78 = some (.aaload, 1, 0, 0, 0, 0) := by decide +kernel
theorem f109_79 : mFetch 109 79 = some (.iload_n 2, 1, 0, 0, 0, 0) := by decide +kernel
theorem f109_80 : mFetch 109 80 = some (.iaload, 1, 0, 0, 0, 0) := by decide +kernel
theorem f109_81 : mFetch 109 81 = some (.if_icmp .ne 6, 3, 87, 0, 0, 0) := by decide +kernel
theorem f109_84 : mFetch 109 84 = some (.iinc 5 1, 3, 0, 0, 0, 0) := by decide +kernel
theorem f109_87 : mFetch 109 87 = some (.iinc 6 1, 3, 0, 0, 0, 0) := by decide +kernel
theorem f109_90 : mFetch 109 90 = some (.goto (-69), 3, 21, 0, 0, 0) := by decide +kernel
theorem f109_93 : mFetch 109 93 = some (.iload_n 3, 1, 0, 0, 0, 0) := by decide +kernel
theorem f109_94 : mFetch 109 94 = some (.iload 5, 2, 0, 0, 0, 0) := by decide +kernel
theorem f109_96 : mFetch 109 96 = some (.invokestatic 160, 3, (-5), 0, 0, 0) := by decide +kernel
theorem f109_99 : mFetch 109 99 = some (.istore_n 3, 1, 0, 0, 0, 0) := by decide +kernel
theorem f109_100 : mFetch 109 100 = some (.iinc 4 1, 3, 0, 0, 0, 0) := by decide +kernel
theorem f109_103 : mFetch 109 103 = some (.goto (-98), 3, 5, 0, 0, 0) := by decide +kernel
theorem f109_106 : mFetch 109 106 = some (.iload_n 3, 1, 0, 0, 0, 0) := by decide +kernel
theorem f109_107 : mFetch 109 107 = some (.ireturn, 1, 0, 0, 0, 0) := by decide +kernel
theorem b109_0 {X : (Nat → Int) × Nat} {d : Nat} {s : mSt} {Q : mQ} {x1 : Int} {x2 : Int} {l3 : Option mV} {l4 : Option mV} {l5 : Option mV} {l6 : Option mV} {l7 : Option mV} (h_1 : Wp X d 109 5 [some (mR 53), some (mI x1), some (mI x2), some (mI 0), some (mI 0), l5, l6, l7] [] s Q) : Wp X d 109 0 [some (mR 53), some (mI x1), some (mI x2), l3, l4, l5, l6, l7] [] s Q := Wp_step k109 f109_0 (Wp_step k109 f109_1 (Wp_step k109 f109_2 (Wp_step k109 f109_3 (h_1))))
theorem b109_5 {X : (Nat → Int) × Nat} {d : Nat} {s : mSt} {Q : mQ} {x1 : Int} {x2 : Int} {x3 : Int} {x4 : Int} {l5 : Option mV} {l6 : Option mV} {l7 : Option mV} (h_1 : 7 ≤ x4 → Wp X d 109 106 [some (mR 53), some (mI x1), some (mI x2), some (mI x3), some (mI x4), l5, l6, l7] [] s Q) (h_2 : ¬ 7 ≤ x4 → Wp X d 109 15 [some (mR 53), some (mI x1), some (mI x2), some (mI x3), some (mI x4), l5, l6, l7] [] s Q) : Wp X d 109 5 [some (mR 53), some (mI x1), some (mI x2), some (mI x3), some (mI x4), l5, l6, l7] [] s Q := Wp_step k109 f109_5 (Wp_step k109 f109_7 (Wp_step k109 f109_8 ⟨kf_53, 68, rf_53_12, Wp_step k109 f109_11 ⟨28, 7, af_68, ⟨by decide, by decide, by decide⟩, Wp_step k109 f109_12 ⟨h_1, h_2⟩⟩⟩))
theorem b109_15 {X : (Nat → Int) × Nat} {d : Nat} {s : mSt} {Q : mQ} {x1 : Int} {x2 : Int} {x3 : Int} {x4 : Int} {l5 : Option mV} {l6 : Option mV} {l7 : Option mV} (h_1 : Wp X d 109 21 [some (mR 53), some (mI x1), some (mI x2), some (mI x3), some (mI x4), some (mI 0), some (mI 0), l7] [] s Q) : Wp X d 109 15 [some (mR 53), some (mI x1), some (mI x2), some (mI x3), some (mI x4), l5, l6, l7] [] s Q := Wp_step k109 f109_15 (Wp_step k109 f109_16 (Wp_step k109 f109_18 (Wp_step k109 f109_19 (h_1))))
theorem b109_21 {X : (Nat → Int) × Nat} {d : Nat} {s : mSt} {Q : mQ} {x1 : Int} {x2 : Int} {x3 : Int} {x4 : Int} {x5 : Int} {x6 : Int} {l7 : Option mV} (h_1 : 7 ≤ x6 → Wp X d 109 93 [some (mR 53), some (mI x1), some (mI x2), some (mI x3), some (mI x4), some (mI x5), some (mI x6), l7] [] s Q) (h_2 : ¬ 7 ≤ x6 → Wp X d 109 31 [some (mR 53), some (mI x1), some (mI x2), some (mI x3), some (mI x4), some (mI x5), some (mI x6), l7] [] s Q) : Wp X d 109 21 [some (mR 53), some (mI x1), some (mI x2), some (mI x3), some (mI x4), some (mI x5), some (mI x6), l7] [] s Q := Wp_step k109 f109_21 (Wp_step k109 f109_23 (Wp_step k109 f109_24 ⟨kf_53, 68, rf_53_12, Wp_step k109 f109_27 ⟨28, 7, af_68, ⟨by decide, by decide, by decide⟩, Wp_step k109 f109_28 ⟨h_1, h_2⟩⟩⟩))
theorem b109_31 {X : (Nat → Int) × Nat} {d : Nat} {s : mSt} {Q : mQ} {x1 : Int} {x2 : Int} {x3 : Int} {x4 : Int} {x5 : Int} {x6 : Int} {l7 : Option mV} (h_1 : ¬ (iAnd (iShr x1 x4) 1) = 1 → Wp X d 109 55 [some (mR 53), some (mI x1), some (mI x2), some (mI x3), some (mI x4), some (mI x5), some (mI x6), l7] [] s Q) (h_2 : (iAnd (iShr x1 x4) 1) = 1 → Wp X d 109 41 [some (mR 53), some (mI x1), some (mI x2), some (mI x3), some (mI x4), some (mI x5), some (mI x6), l7] [] s Q) : Wp X d 109 31 [some (mR 53), some (mI x1), some (mI x2), some (mI x3), some (mI x4), some (mI x5), some (mI x6), l7] [] s Q := Wp_step k109 f109_31 (Wp_step k109 f109_32 (Wp_step k109 f109_34 (Wp_step k109 f109_35 (Wp_step k109 f109_36 (Wp_step k109 f109_37 (Wp_step k109 f109_38 ⟨h_1, h_2⟩))))))
theorem b109_41 {X : (Nat → Int) × Nat} {d : Nat} {s : mSt} {Q : mQ} {x1 : Int} {x2 : Int} {x3 : Int} {x4 : Int} {x5 : Int} {x6 : Int} {l7 : Option mV} (h_1 : ¬ (iAnd (iShr x1 x6) 1) = 1 → Wp X d 109 55 [some (mR 53), some (mI x1), some (mI x2), some (mI x3), some (mI x4), some (mI x5), some (mI x6), l7] [] s Q) (h_2 : (iAnd (iShr x1 x6) 1) = 1 → Wp X d 109 51 [some (mR 53), some (mI x1), some (mI x2), some (mI x3), some (mI x4), some (mI x5), some (mI x6), l7] [] s Q) : Wp X d 109 41 [some (mR 53), some (mI x1), some (mI x2), some (mI x3), some (mI x4), some (mI x5), some (mI x6), l7] [] s Q := Wp_step k109 f109_41 (Wp_step k109 f109_42 (Wp_step k109 f109_44 (Wp_step k109 f109_45 (Wp_step k109 f109_46 (Wp_step k109 f109_47 (Wp_step k109 f109_48 ⟨h_1, h_2⟩))))))
theorem b109_51 {X : (Nat → Int) × Nat} {d : Nat} {s : mSt} {Q : mQ} {x1 : Int} {x2 : Int} {x3 : Int} {x4 : Int} {x5 : Int} {x6 : Int} {l7 : Option mV} (h_1 : Wp X d 109 56 [some (mR 53), some (mI x1), some (mI x2), some (mI x3), some (mI x4), some (mI x5), some (mI x6), l7] [mI 1] s Q) : Wp X d 109 51 [some (mR 53), some (mI x1), some (mI x2), some (mI x3), some (mI x4), some (mI x5), some (mI x6), l7] [] s Q := Wp_step k109 f109_51 (Wp_step k109 f109_52 (h_1))
theorem b109_55 {X : (Nat → Int) × Nat} {d : Nat} {s : mSt} {Q : mQ} {x1 : Int} {x2 : Int} {x3 : Int} {x4 : Int} {x5 : Int} {x6 : Int} {l7 : Option mV} (h_1 : Wp X d 109 56 [some (mR 53), some (mI x1), some (mI x2), some (mI x3), some (mI x4), some (mI x5), some (mI x6), l7] [mI 0] s Q) : Wp X d 109 55 [some (mR 53), some (mI x1), some (mI x2), some (mI x3), some (mI x4), some (mI x5), some (mI x6), l7] [] s Q := Wp_step k109 f109_55 (h_1)
theorem b109_56 {X : (Nat → Int) × Nat} {d : Nat} {s : mSt} {Q : mQ} {x1 : Int} {x2 : Int} {x3 : Int} {x4 : Int} {x5 : Int} {x6 : Int} {l7 : Option mV} {xt0 : Int} (h_1 : xt0 = 0 → Wp X d 109 87 [some (mR 53), some (mI x1), some (mI x2), some (mI x3), some (mI x4), some (mI x5), some (mI x6), some (mI xt0)] [] s Q) (h_2 : ¬ xt0 = 0 → Wp X d 109 63 [some (mR 53), some (mI x1), some (mI x2), some (mI x3), some (mI x4), some (mI x5), some (mI x6), some (mI xt0)] [] s Q) : Wp X d 109 56 [some (mR 53), some (mI x1), some (mI x2), some (mI x3), some (mI x4), some (mI x5), some (mI x6), l7] [mI xt0] s Q := Wp_step k109 f109_56 (Wp_step k109 f109_58 (Wp_step k109 f109_60 ⟨h_1, h_2⟩))
theorem b109_63 {X : (Nat → Int) × Nat} {d : Nat} {s : mSt} {Q : mQ} {x1 : Int} {x2 : Int} {x3 : Int} {x4 : Int} {x5 : Int} {x6 : Int} {x7 : Int} {r1 : Nat} {r2 : Nat} (hr1 : aS S0 r1 22 30) (hr2 : aS S0 r2 22 30) (h_1 : 0 ≤ x4 ∧ x4 < 7) (h_2 : s 68 x4.toNat = (r1 : Int)) (h_3 : 0 ≤ x2 ∧ x2 < 30) (h_4 : 0 ≤ x6 ∧ x6 < 7) (h_5 : s 68 x6.toNat = (r2 : Int)) (h_6 : 0 ≤ x2 ∧ x2 < 30) (h_7 : ¬ (s r1 x2.toNat) = (s r2 x2.toNat) → Wp X d 109 87 [some (mR 53), some (mI x1), some (mI x2), some (mI x3), some (mI x4), some (mI x5), some (mI x6), some (mI x7)] [] s Q) (h_8 : (s r1 x2.toNat) = (s r2 x2.toNat) → Wp X d 109 84 [some (mR 53), some (mI x1), some (mI x2), some (mI x3), some (mI x4), some (mI x5), some (mI x6), some (mI x7)] [] s Q) : Wp X d 109 63 [some (mR 53), some (mI x1), some (mI x2), some (mI x3), some (mI x4), some (mI x5), some (mI x6), some (mI x7)] [] s Q := Wp_step k109 f109_63 (Wp_step k109 f109_64 ⟨kf_53, 68, rf_53_12, Wp_step k109 f109_67 (Wp_step k109 f109_69 ⟨28, 7, af_68, ⟨by decide, by decide⟩, h_1, r1, h_2, Wp_step k109 f109_70 (Wp_step k109 f109_71 ⟨30, hr1, h_3, Wp_step k109 f109_72 (Wp_step k109 f109_73 ⟨kf_53, 68, rf_53_12, Wp_step k109 f109_76 (Wp_step k109 f109_78 ⟨28, 7, af_68, ⟨by decide, by decide⟩, h_4, r2, h_5, Wp_step k109 f109_79 (Wp_step k109 f109_80 ⟨30, hr2, h_6, Wp_step k109 f109_81 ⟨h_7, h_8⟩⟩)⟩)⟩)⟩)⟩)⟩)
theorem b109_84 {X : (Nat → Int) × Nat} {d : Nat} {s : mSt} {Q : mQ} {x1 : Int} {x2 : Int} {x3 : Int} {x4 : Int} {x5 : Int} {x6 : Int} {x7 : Int} (h_1 : Wp X d 109 87 [some (mR 53), some (mI x1), some (mI x2), some (mI x3), some (mI x4), some (mI (w32 (x5 + 1))), some (mI x6), some (mI x7)] [] s Q) : Wp X d 109 84 [some (mR 53), some (mI x1), some (mI x2), some (mI x3), some (mI x4), some (mI x5), some (mI x6), some (mI x7)] [] s Q := Wp_step k109 f109_84 (h_1)
theorem b109_87 {X : (Nat → Int) × Nat} {d : Nat} {s : mSt} {Q : mQ} {x1 : Int} {x2 : Int} {x3 : Int} {x4 : Int} {x5 : Int} {x6 : Int} {x7 : Int} (h_1 : Wp X d 109 21 [some (mR 53), some (mI x1), some (mI x2), some (mI x3), some (mI x4), some (mI x5), some (mI (w32 (x6 + 1))), some (mI x7)] [] s Q) : Wp X d 109 87 [some (mR 53), some (mI x1), some (mI x2), some (mI x3), some (mI x4), some (mI x5), some (mI x6), some (mI x7)] [] s Q := Wp_step k109 f109_87 (Wp_step k109 f109_90 (h_1))
theorem b109_93 {X : (Nat → Int) × Nat} {d : Nat} {s : mSt} {Q : mQ} {x1 : Int} {x2 : Int} {x3 : Int} {x4 : Int} {x5 : Int} {x6 : Int} {l7 : Option mV} (h_1 : Wp X (d + 1) 109 5 [some (mR 53), some (mI x1), some (mI x2), some (mI (iMax x3 x5)), some (mI (w32 (x4 + 1))), some (mI x5), some (mI x6), l7] [] s Q) : Wp X (d + 1) 109 93 [some (mR 53), some (mI x1), some (mI x2), some (mI x3), some (mI x4), some (mI x5), some (mI x6), l7] [] s Q := Wp_step k109 f109_93 (Wp_step k109 f109_94 (Wp_step k109 f109_96 ⟨⟨Nat.succ_pos _, Nat.le_of_ble_eq_true rfl⟩, Wp_step k109 f109_99 (Wp_step k109 f109_100 (Wp_step k109 f109_103 (h_1)))⟩))
theorem b109_106 {X : (Nat → Int) × Nat} {d : Nat} {s : mSt} {Q : mQ} {x1 : Int} {x2 : Int} {x3 : Int} {x4 : Int} {l5 : Option mV} {l6 : Option mV} {l7 : Option mV} (h_1 : Q (some (mI x3)) s) : Wp X d 109 106 [some (mR 53), some (mI x1), some (mI x2), some (mI x3), some (mI x4), l5, l6, l7] [] s Q := Wp_step k109 f109_106 (Wp_step k109 f109_107 ⟨⟨rfl, trivial⟩, h_1⟩)
theorem e109 {X : (Nat → Int) × Nat} {d : Nat} {s : mSt} {Q : mQ} {x1 : Int} {x2 : Int} (h : Wp X d 109 0 [some (mR 53), some (mI x1), some (mI x2), none, none, none, none, none] [] s Q) : Sp X d 109 [mR 53, mI x1, mI x2] s Q := Sp_of (show mCe 109 = 0 by decide +kernel) (by rw [show mML 109 = 8 by decide +kernel]; rfl) (Nat.le_trans (Nat.le_of_ble_eq_true (show Nat.ble (mArgs _).length 8 = true from rfl)) (show 8 ≤ mML 109 by decide +kernel)) h
-- 110 ClashDay$Trials.settledTwos(LClashDay$Board;II)I
theorem k110 : mRk 110 = 1 := by decide +kernel
theorem f110_0 : mFetch 110 0 = some (.iconst 0, 1, 0, 0, 0, 0) := by decide +kernel
theorem f110_1 : mFetch 110 1 = some (.istore 4, 2, 0, 0, 0, 0) := by decide +kernel
theorem f110_3 : mFetch 110 3 = some (.iload 4, 2, 0, 0, 0, 0) := by decide +kernel
theorem f110_5 : mFetch 110 5 = some (.bipush 16, 2, 0, 0, 0, 0) := by decide +kernel
theorem f110_7 : mFetch 110 7 = some (.if_icmp .ge 67, 3, 74, 0, 0, 0) := by decide +kernel
theorem f110_10 : mFetch 110 10 = some (.aload_n 0, 1, 0, 0, 0, 0) := by decide +kernel
theorem f110_11 : mFetch 110 11 = some (.getfield 12, 3, 9, 2, 2, 1) := by decide +kernel
theorem f110_14 : mFetch 110 14 = some (.aload_n 1, 1, 0, 0, 0, 0) := by decide +kernel
theorem f110_15 : mFetch 110 15 = some (.invokevirtual 44, 3, 3, 0, 2, 0) := by decide +kernel
theorem f110_18 : mFetch 110 18 = some (.aload_n 0, 1, 0, 0, 0, 0) := by decide +kernel
theorem f110_19 : mFetch 110 19 = some (.getfield 12, 3, 9, 2, 2, 1) := by decide +kernel
theorem f110_22 : mFetch 110 22 = some (.getfield 137, 3, 0, 10, 2, 0) := by decide +kernel
theorem f110_25 : mFetch 110 25 = some (.iload_n 2, 1, 0, 0, 0, 0) := by decide +kernel
theorem f110_26 : mFetch 110 26 = some (.iload 4, 2, 0, 0, 0, 0) := by decide +kernel
theorem f110_28 : mFetch 110 28 = some (.iconst 4, 1, 0, 0, 0, 0) := by decide +kernel
theorem f110_29 : mFetch 110 29 = some (.idiv, 1, 0, 0, 0, 0) := by decide +kernel
theorem f110_30 : mFetch 110 30 = some (.iastore, 1, 0, 0, 0, 0) := by decide +kernel
theorem f110_31 : mFetch 110 31 = some (.aload_n 0, 1, 0, 0, 0, 0) := by decide +kernel
theorem f110_32 : mFetch 110 32 = some (.getfield 12, 3, 9, 2, 2, 1) := by decide +kernel
theorem f110_35 : mFetch 110 35 = some (.getfield 137, 3, 0, 10, 2, 0) := by decide +kernel
theorem f110_38 : mFetch 110 38 = some (.iload_n 3, 1, 0, 0, 0, 0) := by decide +kernel
theorem f110_39 : mFetch 110 39 = some (.iload 4, 2, 0, 0, 0, 0) := by decide +kernel
theorem f110_41 : mFetch 110 41 = some (.iconst 4, 1, 0, 0, 0, 0) := by decide +kernel
theorem f110_42 : mFetch 110 42 = some (.irem, 1, 0, 0, 0, 0) := by decide +kernel
theorem f110_43 : mFetch 110 43 = some (.iastore, 1, 0, 0, 0, 0) := by decide +kernel
theorem f110_44 : mFetch 110 44 = some (.aload_n 0, 1, 0, 0, 0, 0) := by decide +kernel
theorem f110_45 : mFetch 110 45 = some (.getfield 25, 3, 9, 10, 2, 1) := by decide +kernel
theorem f110_48 : mFetch 110 48 = some (.iload 4, 2, 0, 0, 0, 0) := by decide +kernel
theorem f110_50 : mFetch 110 50 = some (.aload_n 0, 1, 0, 0, 0, 0) := by decide +kernel
theorem f110_51 : mFetch 110 51 = some (.iload_n 2, 1, 0, 0, 0, 0) := by decide +kernel
theorem f110_52 : mFetch 110 52 = some (.invokevirtual 165, 3, 111, 0, 2, 9) := by decide +kernel
theorem f110_55 : mFetch 110 55 = some (.iastore, 1, 0, 0, 0, 0) := by decide +kernel
theorem f110_56 : mFetch 110 56 = some (.aload_n 0, 1, 0, 0, 0, 0) := by decide +kernel
theorem f110_57 : mFetch 110 57 = some (.getfield 28, 3, 9, 11, 2, 1) := by decide +kernel
theorem f110_60 : mFetch 110 60 = some (.iload 4, 2, 0, 0, 0, 0) := by decide +kernel
theorem f110_62 : mFetch 110 62 = some (.aload_n 0, 1, 0, 0, 0, 0) := by decide +kernel
theorem f110_63 : mFetch 110 63 = some (.iload_n 3, 1, 0, 0, 0, 0) := by decide +kernel
theorem f110_64 : mFetch 110 64 = some (.invokevirtual 165, 3, 111, 0, 2, 9) := by decide +kernel
theorem f110_67 : mFetch 110 67 = some (.iastore, 1, 0, 0, 0, 0) := by decide +kernel
theorem f110_68 : mFetch 110 68 = some (.iinc 4 1, 3, 0, 0, 0, 0) := by decide +kernel
theorem f110_71 : mFetch 110 71 = some (.goto (-68), 3, 3, 0, 0, 0) := by decide +kernel
theorem f110_74 : mFetch 110 74 = some (.iconst 0, 1, 0, 0, 0, 0) := by decide +kernel
theorem f110_75 : mFetch 110 75 = some (.istore 4, 2, 0, 0, 0, 0) := by decide +kernel
theorem f110_77 : mFetch 110 77 = some (.iconst 0, 1, 0, 0, 0, 0) := by decide +kernel
theorem f110_78 : mFetch 110 78 = some (.istore 5, 2, 0, 0, 0, 0) := by decide +kernel
theorem f110_80 : mFetch 110 80 = some (.iload 5, 2, 0, 0, 0, 0) := by decide +kernel
theorem f110_82 : mFetch 110 82 = some (.bipush 16, 2, 0, 0, 0, 0) := by decide +kernel
theorem f110_84 : mFetch 110 84 = some (.if_icmp .ge 27, 3, 111, 0, 0, 0) := by decide +kernel
theorem f110_87 : mFetch 110 87 = some (.aload_n 0, 1, 0, 0, 0, 0) := by decide +kernel
theorem f110_88 : mFetch 110 88 = some (.iload 5, 2, 0, 0, 0, 0) := by decide +kernel
theorem f110_90 : mFetch 110 90 = some (.invokevirtual 168, 3, 112, 0, 2, 9) := by decide +kernel
theorem f110_93 : mFetch 110 93 = some (.ifCond .eq 12, 3, 105, 0, 0, 0) := by decide +kernel
theorem f110_96 : mFetch 110 96 = some (.iload 4, 2, 0, 0, 0, 0) := by decide +kernel
theorem f110_98 : mFetch 110 98 = some (.iconst 1, 1, 0, 0, 0, 0) := by decide +kernel
theorem f110_99 : mFetch 110 99 = some (.iload 5, 2, 0, 0, 0, 0) := by decide +kernel
theorem f110_101 : mFetch 110 101 = some (.ishl, 1, 0, 0, 0, 0) := by decide +kernel
theorem f110_102 : mFetch 110 102 = some (.ior, 1, 0, 0, 0, 0) := by decide +kernel
theorem f110_103 : mFetch 110 103 = some (.istore 4, 2, 0, 0, 0, 0) := by decide +kernel
theorem f110_105 : mFetch 110 105 = some (.iinc 5 1, 3, 0, 0, 0, 0) := by decide +kernel
theorem f110_108 : mFetch 110 108 = some (.goto (-28), 3, 80, 0, 0, 0) := by decide +kernel
theorem f110_111 : mFetch 110 111 = some (.iload 4, 2, 0, 0, 0, 0) := by decide +kernel
theorem f110_113 : mFetch 110 113 = some (.ireturn, 1, 0, 0, 0, 0) := by decide +kernel
theorem b110_0 {X : (Nat → Int) × Nat} {d : Nat} {s : mSt} {Q : mQ} {a1 : Nat} {x2 : Int} {x3 : Int} {l4 : Option mV} {l5 : Option mV} (h1 : isBd a1) (h_1 : Wp X d 110 3 [some (mR 53), some (mR a1), some (mI x2), some (mI x3), some (mI 0), l5] [] s Q) : Wp X d 110 0 [some (mR 53), some (mR a1), some (mI x2), some (mI x3), l4, l5] [] s Q := Wp_step k110 f110_0 (Wp_step k110 f110_1 (h_1))
theorem b110_3 {X : (Nat → Int) × Nat} {d : Nat} {s : mSt} {Q : mQ} {a1 : Nat} {x2 : Int} {x3 : Int} {x4 : Int} {l5 : Option mV} (h1 : isBd a1) (h_1 : 16 ≤ x4 → Wp X d 110 74 [some (mR 53), some (mR a1), some (mI x2), some (mI x3), some (mI x4), l5] [] s Q) (h_2 : ¬ 16 ≤ x4 → Wp X d 110 10 [some (mR 53), some (mR a1), some (mI x2), some (mI x3), some (mI x4), l5] [] s Q) : Wp X d 110 3 [some (mR 53), some (mR a1), some (mI x2), some (mI x3), some (mI x4), l5] [] s Q := Wp_step k110 f110_3 (Wp_step k110 f110_5 (Wp_step k110 f110_7 ⟨h_1, h_2⟩))
theorem b110_10 {X : (Nat → Int) × Nat} {d : Nat} {s : mSt} {Q : mQ} {a1 : Nat} {x2 : Int} {x3 : Int} {x4 : Int} {l5 : Option mV} (h1 : isBd a1) (h_1 : Sp X d 3 [mR 54, mR a1] s (fun r s' => r = none ∧ Wp X (d + 1) 110 18 [some (mR 53), some (mR a1), some (mI x2), some (mI x3), some (mI x4), l5] [] s' Q)) : Wp X (d + 1) 110 10 [some (mR 53), some (mR a1), some (mI x2), some (mI x3), some (mI x4), l5] [] s Q := Wp_step k110 f110_10 (Wp_step k110 f110_11 ⟨kf_53, 54, rf_53_2, Wp_step k110 f110_14 (Wp_step k110 f110_15 ⟨⟨kf_54, Nat.le_of_ble_eq_true rfl⟩, Nat.le_refl _, _, rfl, Sp_V h_1⟩)⟩)
theorem b110_18 {X : (Nat → Int) × Nat} {d : Nat} {s : mSt} {Q : mQ} {a1 : Nat} {x2 : Int} {x3 : Int} {x4 : Int} {l5 : Option mV} (h1 : isBd a1) (h_1 : 0 ≤ x2 ∧ x2 < 6) (h_2 : 0 ≤ x3 ∧ x3 < 6) (h_3 : Sp X d 111 [mR 53, mI x2] (uS (uS s 59 x2.toNat (w32 (Int.tdiv x4 4))) 59 x3.toNat (Int.tmod x4 4)) (fun r s' => ∃ v : Int, r = some (mI v) ∧ Wp X (d + 1) 110 55 [some (mR 53), some (mR a1), some (mI x2), some (mI x3), some (mI x4), l5] [mI v, mI x4, mR 66] s' Q)) : Wp X (d + 1) 110 18 [some (mR 53), some (mR a1), some (mI x2), some (mI x3), some (mI x4), l5] [] s Q := Wp_step k110 f110_18 (Wp_step k110 f110_19 ⟨kf_53, 54, rf_53_2, Wp_step k110 f110_22 ⟨kf_54, 59, rf_54_10, Wp_step k110 f110_25 (Wp_step k110 f110_26 (Wp_step k110 f110_28 (Wp_step k110 f110_29 ⟨(by decide), Wp_step k110 f110_30 ⟨6, af_59, h_1, Wp_step k110 f110_31 (Wp_step k110 f110_32 ⟨kf_53, 54, rf_53_2, Wp_step k110 f110_35 ⟨kf_54, 59, rf_54_10, Wp_step k110 f110_38 (Wp_step k110 f110_39 (Wp_step k110 f110_41 (Wp_step k110 f110_42 ⟨(by decide), Wp_step k110 f110_43 ⟨6, af_59, h_2, Wp_step k110 f110_44 (Wp_step k110 f110_45 ⟨kf_53, 66, rf_53_10, Wp_step k110 f110_48 (Wp_step k110 f110_50 (Wp_step k110 f110_51 (Wp_step k110 f110_52 ⟨⟨kf_53, Nat.le_of_ble_eq_true rfl⟩, Nat.le_refl _, _, rfl, Sp_E h_3⟩)))⟩)⟩⟩)))⟩⟩)⟩⟩)))⟩⟩)
theorem b110_55 {X : (Nat → Int) × Nat} {d : Nat} {s : mSt} {Q : mQ} {a1 : Nat} {x2 : Int} {x3 : Int} {x4 : Int} {l5 : Option mV} {xt1 : Int} {xt2 : Int} (h1 : isBd a1) (h_1 : 0 ≤ xt1 ∧ xt1 < 16) (h_2 : Sp X d 111 [mR 53, mI x3] (uS s 66 xt1.toNat xt2) (fun r s' => ∃ v : Int, r = some (mI v) ∧ Wp X (d + 1) 110 67 [some (mR 53), some (mR a1), some (mI x2), some (mI x3), some (mI x4), l5] [mI v, mI x4, mR 67] s' Q)) : Wp X (d + 1) 110 55 [some (mR 53), some (mR a1), some (mI x2), some (mI x3), some (mI x4), l5] [mI xt2, mI xt1, mR 66] s Q := Wp_step k110 f110_55 ⟨16, af_66, h_1, Wp_step k110 f110_56 (Wp_step k110 f110_57 ⟨kf_53, 67, rf_53_11, Wp_step k110 f110_60 (Wp_step k110 f110_62 (Wp_step k110 f110_63 (Wp_step k110 f110_64 ⟨⟨kf_53, Nat.le_of_ble_eq_true rfl⟩, Nat.le_refl _, _, rfl, Sp_E h_2⟩)))⟩)⟩
theorem b110_67 {X : (Nat → Int) × Nat} {d : Nat} {s : mSt} {Q : mQ} {a1 : Nat} {x2 : Int} {x3 : Int} {x4 : Int} {l5 : Option mV} {xt1 : Int} {xt2 : Int} (h1 : isBd a1) (h_1 : 0 ≤ xt1 ∧ xt1 < 16) (h_2 : Wp X d 110 3 [some (mR 53), some (mR a1), some (mI x2), some (mI x3), some (mI (w32 (x4 + 1))), l5] [] (uS s 67 xt1.toNat xt2) Q) : Wp X d 110 67 [some (mR 53), some (mR a1), some (mI x2), some (mI x3), some (mI x4), l5] [mI xt2, mI xt1, mR 67] s Q := Wp_step k110 f110_67 ⟨16, af_67, h_1, Wp_step k110 f110_68 (Wp_step k110 f110_71 (h_2))⟩
theorem b110_74 {X : (Nat → Int) × Nat} {d : Nat} {s : mSt} {Q : mQ} {a1 : Nat} {x2 : Int} {x3 : Int} {x4 : Int} {l5 : Option mV} (h1 : isBd a1) (h_1 : Wp X d 110 80 [some (mR 53), some (mR a1), some (mI x2), some (mI x3), some (mI 0), some (mI 0)] [] s Q) : Wp X d 110 74 [some (mR 53), some (mR a1), some (mI x2), some (mI x3), some (mI x4), l5] [] s Q := Wp_step k110 f110_74 (Wp_step k110 f110_75 (Wp_step k110 f110_77 (Wp_step k110 f110_78 (h_1))))
theorem b110_80 {X : (Nat → Int) × Nat} {d : Nat} {s : mSt} {Q : mQ} {a1 : Nat} {x2 : Int} {x3 : Int} {x4 : Int} {x5 : Int} (h1 : isBd a1) (h_1 : 16 ≤ x5 → Wp X d 110 111 [some (mR 53), some (mR a1), some (mI x2), some (mI x3), some (mI x4), some (mI x5)] [] s Q) (h_2 : ¬ 16 ≤ x5 → Wp X d 110 87 [some (mR 53), some (mR a1), some (mI x2), some (mI x3), some (mI x4), some (mI x5)] [] s Q) : Wp X d 110 80 [some (mR 53), some (mR a1), some (mI x2), some (mI x3), some (mI x4), some (mI x5)] [] s Q := Wp_step k110 f110_80 (Wp_step k110 f110_82 (Wp_step k110 f110_84 ⟨h_1, h_2⟩))
theorem b110_87 {X : (Nat → Int) × Nat} {d : Nat} {s : mSt} {Q : mQ} {a1 : Nat} {x2 : Int} {x3 : Int} {x4 : Int} {x5 : Int} (h1 : isBd a1) (h_1 : Sp X d 112 [mR 53, mI x5] s (fun r s' => ∃ v : Int, r = some (mI v) ∧ Wp X (d + 1) 110 93 [some (mR 53), some (mR a1), some (mI x2), some (mI x3), some (mI x4), some (mI x5)] [mI v] s' Q)) : Wp X (d + 1) 110 87 [some (mR 53), some (mR a1), some (mI x2), some (mI x3), some (mI x4), some (mI x5)] [] s Q := Wp_step k110 f110_87 (Wp_step k110 f110_88 (Wp_step k110 f110_90 ⟨⟨kf_53, Nat.le_of_ble_eq_true rfl⟩, Nat.le_refl _, _, rfl, Sp_E h_1⟩))
theorem b110_93 {X : (Nat → Int) × Nat} {d : Nat} {s : mSt} {Q : mQ} {a1 : Nat} {x2 : Int} {x3 : Int} {x4 : Int} {x5 : Int} {xt0 : Int} (h1 : isBd a1) (h_1 : xt0 = 0 → Wp X d 110 105 [some (mR 53), some (mR a1), some (mI x2), some (mI x3), some (mI x4), some (mI x5)] [] s Q) (h_2 : ¬ xt0 = 0 → Wp X d 110 96 [some (mR 53), some (mR a1), some (mI x2), some (mI x3), some (mI x4), some (mI x5)] [] s Q) : Wp X d 110 93 [some (mR 53), some (mR a1), some (mI x2), some (mI x3), some (mI x4), some (mI x5)] [mI xt0] s Q := Wp_step k110 f110_93 ⟨h_1, h_2⟩
theorem b110_96 {X : (Nat → Int) × Nat} {d : Nat} {s : mSt} {Q : mQ} {a1 : Nat} {x2 : Int} {x3 : Int} {x4 : Int} {x5 : Int} (h1 : isBd a1) (h_1 : Wp X d 110 105 [some (mR 53), some (mR a1), some (mI x2), some (mI x3), some (mI (iOr x4 (iShl 1 x5))), some (mI x5)] [] s Q) : Wp X d 110 96 [some (mR 53), some (mR a1), some (mI x2), some (mI x3), some (mI x4), some (mI x5)] [] s Q := Wp_step k110 f110_96 (Wp_step k110 f110_98 (Wp_step k110 f110_99 (Wp_step k110 f110_101 (Wp_step k110 f110_102 (Wp_step k110 f110_103 (h_1))))))
theorem b110_105 {X : (Nat → Int) × Nat} {d : Nat} {s : mSt} {Q : mQ} {a1 : Nat} {x2 : Int} {x3 : Int} {x4 : Int} {x5 : Int} (h1 : isBd a1) (h_1 : Wp X d 110 80 [some (mR 53), some (mR a1), some (mI x2), some (mI x3), some (mI x4), some (mI (w32 (x5 + 1)))] [] s Q) : Wp X d 110 105 [some (mR 53), some (mR a1), some (mI x2), some (mI x3), some (mI x4), some (mI x5)] [] s Q := Wp_step k110 f110_105 (Wp_step k110 f110_108 (h_1))
theorem b110_111 {X : (Nat → Int) × Nat} {d : Nat} {s : mSt} {Q : mQ} {a1 : Nat} {x2 : Int} {x3 : Int} {x4 : Int} {x5 : Int} (h1 : isBd a1) (h_1 : Q (some (mI x4)) s) : Wp X d 110 111 [some (mR 53), some (mR a1), some (mI x2), some (mI x3), some (mI x4), some (mI x5)] [] s Q := Wp_step k110 f110_111 (Wp_step k110 f110_113 ⟨⟨rfl, trivial⟩, h_1⟩)
theorem e110 {X : (Nat → Int) × Nat} {d : Nat} {s : mSt} {Q : mQ} {a1 : Nat} {x2 : Int} {x3 : Int} (h : Wp X d 110 0 [some (mR 53), some (mR a1), some (mI x2), some (mI x3), none, none] [] s Q) : Sp X d 110 [mR 53, mR a1, mI x2, mI x3] s Q := Sp_of (show mCe 110 = 0 by decide +kernel) (by rw [show mML 110 = 6 by decide +kernel]; rfl) (Nat.le_trans (Nat.le_of_ble_eq_true (show Nat.ble (mArgs _).length 6 = true from rfl)) (show 6 ≤ mML 110 by decide +kernel)) h
-- 111 ClashDay$Trials.gainOf(I)I
theorem k111 : mRk 111 = 1 := by decide +kernel
theorem f111_0 : mFetch 111 0 = some (.aload_n 0, 1, 0, 0, 0, 0) := by decide +kernel
theorem f111_1 : mFetch 111 1 = some (.getfield 36, 3, 9, 0, 2, 1) := by decide +kernel
theorem f111_4 : mFetch 111 4 = some (.aload_n 0, 1, 0, 0, 0, 0) := by decide +kernel
theorem f111_5 : mFetch 111 5 = some (.getfield 12, 3, 9, 2, 2, 1) := by decide +kernel
theorem f111_8 : mFetch 111 8 = some (.iload_n 1, 1, 0, 0, 0, 0) := by decide +kernel
theorem f111_9 : mFetch 111 9 = some (.invokevirtual 78, 3, 60, 0, 3, 4) := by decide +kernel
theorem f111_12 : mFetch 111 12 = some (.ifCond .eq 28, 3, 40, 0, 0, 0) := by decide +kernel
theorem f111_15 : mFetch 111 15 = some (.bipush 30, 2, 0, 0, 0, 0) := by decide +kernel
theorem f111_17 : mFetch 111 17 = some (.aload_n 0, 1, 0, 0, 0, 0) := by decide +kernel
theorem f111_18 : mFetch 111 18 = some (.getfield 36, 3, 9, 0, 2, 1) := by decide +kernel
theorem f111_21 : mFetch 111 21 = some (.getfield 171, 3, 4, 10, 0, 0) := by decide +kernel
theorem f111_24 : mFetch 111 24 = some (.isub, 1, 0, 0, 0, 0) := by decide +kernel
theorem f111_25 : mFetch 111 25 = some (.iconst 2, 1, 0, 0, 0, 0) := by decide +kernel
theorem f111_26 : mFetch 111 26 = some (.aload_n 0, 1, 0, 0, 0, 0) := by decide +kernel
theorem f111_27 : mFetch 111 27 = some (.getfield 12, 3, 9, 2, 2, 1) := by decide +kernel
theorem f111_30 : mFetch 111 30 = some (.getfield 137, 3, 0, 10, 2, 0) := by decide +kernel
theorem f111_33 : mFetch 111 33 = some (.iload_n 1, 1, 0, 0, 0, 0) := by decide +kernel
theorem f111_34 : mFetch 111 34 = some (.iaload, 1, 0, 0, 0, 0) := by decide +kernel
theorem f111_35 : mFetch 111 35 = some (.imul, 1, 0, 0, 0, 0) := by decide +kernel
theorem f111_36 : mFetch 111 36 = some (.iadd, 1, 0, 0, 0, 0) := by decide +kernel
theorem f111_37 : mFetch 111 37 = some (.goto 4, 3, 41, 0, 0, 0) := by decide +kernel
theorem f111_40 : mFetch 111 40 = some (.iconst 0, 1, 0, 0, 0, 0) := by decide +kernel
theorem f111_41 : mFetch 111 41 = some (.ireturn, 1, 0, 0, 0, 0) := by decide +kernel
theorem b111_0 {X : (Nat → Int) × Nat} {d : Nat} {s : mSt} {Q : mQ} {x1 : Int} (h_1 : Sp X d 60 [mR 44, mR 54, mI x1] s (fun r s' => ∃ v : Int, r = some (mI v) ∧ Wp X (d + 1) 111 12 [some (mR 53), some (mI x1)] [mI v] s' Q)) : Wp X (d + 1) 111 0 [some (mR 53), some (mI x1)] [] s Q := Wp_step k111 f111_0 (Wp_step k111 f111_1 ⟨kf_53, 44, rf_53_0, Wp_step k111 f111_4 (Wp_step k111 f111_5 ⟨kf_53, 54, rf_53_2, Wp_step k111 f111_8 (Wp_step k111 f111_9 ⟨⟨kf_44, Nat.le_of_ble_eq_true rfl⟩, Nat.le_refl _, _, rfl, Sp_E h_1⟩)⟩)⟩)
theorem b111_12 {X : (Nat → Int) × Nat} {d : Nat} {s : mSt} {Q : mQ} {x1 : Int} {xt0 : Int} (h_1 : xt0 = 0 → Wp X d 111 40 [some (mR 53), some (mI x1)] [] s Q) (h_2 : ¬ xt0 = 0 → Wp X d 111 15 [some (mR 53), some (mI x1)] [] s Q) : Wp X d 111 12 [some (mR 53), some (mI x1)] [mI xt0] s Q := Wp_step k111 f111_12 ⟨h_1, h_2⟩
theorem b111_15 {X : (Nat → Int) × Nat} {d : Nat} {s : mSt} {Q : mQ} {x1 : Int} (h_1 : 0 ≤ x1 ∧ x1 < 6) (h_2 : Wp X d 111 41 [some (mR 53), some (mI x1)] [mI (w32 ((w32 (30 - (s 44 10))) + (w32 (2 * (s 59 x1.toNat)))))] s Q) : Wp X d 111 15 [some (mR 53), some (mI x1)] [] s Q := Wp_step k111 f111_15 (Wp_step k111 f111_17 (Wp_step k111 f111_18 ⟨kf_53, 44, rf_53_0, Wp_step k111 f111_21 ⟨kf_44, Wp_step k111 f111_24 (Wp_step k111 f111_25 (Wp_step k111 f111_26 (Wp_step k111 f111_27 ⟨kf_53, 54, rf_53_2, Wp_step k111 f111_30 ⟨kf_54, 59, rf_54_10, Wp_step k111 f111_33 (Wp_step k111 f111_34 ⟨6, af_59, h_1, Wp_step k111 f111_35 (Wp_step k111 f111_36 (Wp_step k111 f111_37 (h_2)))⟩)⟩⟩)))⟩⟩))
theorem b111_40 {X : (Nat → Int) × Nat} {d : Nat} {s : mSt} {Q : mQ} {x1 : Int} (h_1 : Wp X d 111 41 [some (mR 53), some (mI x1)] [mI 0] s Q) : Wp X d 111 40 [some (mR 53), some (mI x1)] [] s Q := Wp_step k111 f111_40 (h_1)
theorem b111_41 {X : (Nat → Int) × Nat} {d : Nat} {s : mSt} {Q : mQ} {x1 : Int} {xt0 : Int} (h_1 : Q (some (mI xt0)) s) : Wp X d 111 41 [some (mR 53), some (mI x1)] [mI xt0] s Q := Wp_step k111 f111_41 ⟨⟨rfl, trivial⟩, h_1⟩
theorem e111 {X : (Nat → Int) × Nat} {d : Nat} {s : mSt} {Q : mQ} {x1 : Int} (h : Wp X d 111 0 [some (mR 53), some (mI x1)] [] s Q) : Sp X d 111 [mR 53, mI x1] s Q := Sp_of (show mCe 111 = 0 by decide +kernel) (by rw [show mML 111 = 2 by decide +kernel]; rfl) (Nat.le_trans (Nat.le_of_ble_eq_true (show Nat.ble (mArgs _).length 2 = true from rfl)) (show 2 ≤ mML 111 by decide +kernel)) h
-- 112 ClashDay$Trials.isSettled(I)Z
theorem k112 : mRk 112 = 2 := by decide +kernel
theorem f112_0 : mFetch 112 0 = some (.iload_n 1, 1, 0, 0, 0, 0) := by decide +kernel
theorem f112_1 : mFetch 112 1 = some (.iconst 4, 1, 0, 0, 0, 0) := by decide +kernel
theorem f112_2 : mFetch 112 2 = some (.idiv, 1, 0, 0, 0, 0) := by decide +kernel
theorem f112_3 : mFetch 112 3 = some (.istore_n 2, 1, 0, 0, 0, 0) := by decide +kernel
theorem f112_4 : mFetch 112 4 = some (.iload_n 1, 1, 0, 0, 0, 0) := by decide +kernel
theorem f112_5 : mFetch 112 5 = some (.iconst 4, 1, 0, 0, 0, 0) := by decide +kernel
theorem f112_6 : mFetch 112 6 = some (.irem, 1, 0, 0, 0, 0) := by decide +kernel
theorem f112_7 : mFetch 112 7 = some (.istore_n 3, 1, 0, 0, 0, 0) := by decide +kernel
theorem f112_8 : mFetch 112 8 = some (.iconst 0, 1, 0, 0, 0, 0) := by decide +kernel
theorem f112_9 : mFetch 112 9 = some (.istore 4, 2, 0, 0, 0, 0) := by decide +kernel
theorem f112_11 : mFetch 112 11 = some (.iload 4, 2, 0, 0, 0, 0) := by decide +kernel
theorem f112_13 : mFetch 112 13 = some (.iconst 4, 1, 0, 0, 0, 0) := by decide +kernel
theorem f112_14 : mFetch 112 14 = some (.if_icmp .ge 51, 3, 65, 0, 0, 0) := by decide +kernel
theorem f112_17 : mFetch 112 17 = some (.aload_n 0, 1, 0, 0, 0, 0) := by decide +kernel
theorem f112_18 : mFetch 112 18 = some (.getfield 25, 3, 9, 10, 2, 1) := by decide +kernel
theorem f112_21 : mFetch 112 21 = some (.iload 4, 2, 0, 0, 0, 0) := by decide +kernel
theorem f112_23 : mFetch 112 23 = some (.iconst 4, 1, 0, 0, 0, 0) := by decide +kernel
theorem f112_24 : mFetch 112 24 = some (.imul, 1, 0, 0, 0, 0) := by decide +kernel
theorem f112_25 : mFetch 112 25 = some (.iload_n 3, 1, 0, 0, 0, 0) := by decide +kernel
theorem f112_26 : mFetch 112 26 = some (.iadd, 1, 0, 0, 0, 0) := by decide +kernel
theorem f112_27 : mFetch 112 27 = some (.iaload, 1, 0, 0, 0, 0) := by decide +kernel
theorem f112_28 : mFetch 112 28 = some (.aload_n 0, 1, 0, 0, 0, 0) := by decide +kernel
theorem f112_29 : mFetch 112 29 = some (.getfield 25, 3, 9, 10, 2, 1) := by decide +kernel
theorem f112_32 : mFetch 112 32 = some (.iload_n 1, 1, 0, 0, 0, 0) := by decide +kernel
theorem f112_33 : mFetch 112 33 = some (.iaload, 1, 0, 0, 0, 0) := by decide +kernel
theorem f112_34 : mFetch 112 34 = some (.if_icmp .gt 23, 3, 57, 0, 0, 0) := by decide +kernel
theorem f112_37 : mFetch 112 37 = some (.aload_n 0, 1, 0, 0, 0, 0) := by decide +kernel
theorem f112_38 : mFetch 112 38 = some (.getfield 28, 3, 9, 11, 2, 1) := by decide +kernel
theorem f112_41 : mFetch 112 41 = some (.iload_n 2, 1, 0, 0, 0, 0) := by decide +kernel
theorem f112_42 : mFetch 112 42 = some (.iconst 4, 1, 0, 0, 0, 0) := by decide +kernel
theorem f112_43 : mFetch 112 43 = some (.imul, 1, 0, 0, 0, 0) := by decide +kernel
theorem f112_44 : mFetch 112 44 = some (.iload 4, 2, 0, 0, 0, 0) := by decide +kernel
theorem f112_46 : mFetch 112 46 = some (.iadd, 1, 0, 0, 0, 0) := by decide +kernel
theorem f112_47 : mFetch 112 47 = some (.iaload, 1, 0, 0, 0, 0) := by decide +kernel
theorem f112_48 : mFetch 112 48 = some (.aload_n 0, 1, 0, 0, 0, 0) := by decide +kernel
theorem f112_49 : mFetch 112 49 = some (.getfield 28, 3, 9, 11, 2, 1) := by decide +kernel
theorem f112_52 : mFetch 112 52 = some (.iload_n 1, 1, 0, 0, 0, 0) := by decide +kernel
theorem f112_53 : mFetch 112 53 = some (.iaload, 1, 0, 0, 0, 0) := by decide +kernel
theorem f112_54 : mFetch 112 54 = some (.if_icmp .le 5, 3, 59, 0, 0, 0) := by decide +kernel
theorem f112_57 : mFetch 112 57 = some (.iconst 0, 1, 0, 0, 0, 0) := by decide +kernel
theorem f112_58 : mFetch 112 58 = some (.ireturn, 1, 0, 0, 0, 0) := by decide +kernel
theorem f112_59 : mFetch 112 59 = some (.iinc 4 1, 3, 0, 0, 0, 0) := by decide +kernel
theorem f112_62 : mFetch 112 62 = some (.goto (-51), 3, 11, 0, 0, 0) := by decide +kernel
theorem f112_65 : mFetch 112 65 = some (.iconst 1, 1, 0, 0, 0, 0) := by decide +kernel
theorem f112_66 : mFetch 112 66 = some (.ireturn, 1, 0, 0, 0, 0) := by decide +kernel
theorem b112_0 {X : (Nat → Int) × Nat} {d : Nat} {s : mSt} {Q : mQ} {x1 : Int} {l2 : Option mV} {l3 : Option mV} {l4 : Option mV} (h_1 : Wp X d 112 11 [some (mR 53), some (mI x1), some (mI (w32 (Int.tdiv x1 4))), some (mI (Int.tmod x1 4)), some (mI 0)] [] s Q) : Wp X d 112 0 [some (mR 53), some (mI x1), l2, l3, l4] [] s Q := Wp_step k112 f112_0 (Wp_step k112 f112_1 (Wp_step k112 f112_2 ⟨(by decide), Wp_step k112 f112_3 (Wp_step k112 f112_4 (Wp_step k112 f112_5 (Wp_step k112 f112_6 ⟨(by decide), Wp_step k112 f112_7 (Wp_step k112 f112_8 (Wp_step k112 f112_9 (h_1)))⟩)))⟩))
theorem b112_11 {X : (Nat → Int) × Nat} {d : Nat} {s : mSt} {Q : mQ} {x1 : Int} {x2 : Int} {x3 : Int} {x4 : Int} (h_1 : 4 ≤ x4 → Wp X d 112 65 [some (mR 53), some (mI x1), some (mI x2), some (mI x3), some (mI x4)] [] s Q) (h_2 : ¬ 4 ≤ x4 → Wp X d 112 17 [some (mR 53), some (mI x1), some (mI x2), some (mI x3), some (mI x4)] [] s Q) : Wp X d 112 11 [some (mR 53), some (mI x1), some (mI x2), some (mI x3), some (mI x4)] [] s Q := Wp_step k112 f112_11 (Wp_step k112 f112_13 (Wp_step k112 f112_14 ⟨h_1, h_2⟩))
theorem b112_17 {X : (Nat → Int) × Nat} {d : Nat} {s : mSt} {Q : mQ} {x1 : Int} {x2 : Int} {x3 : Int} {x4 : Int} (h_1 : 0 ≤ (w32 ((w32 (x4 * 4)) + x3)) ∧ (w32 ((w32 (x4 * 4)) + x3)) < 16) (h_2 : 0 ≤ x1 ∧ x1 < 16) (h_3 : (s 66 x1.toNat) < (s 66 (w32 ((w32 (x4 * 4)) + x3)).toNat) → Wp X d 112 57 [some (mR 53), some (mI x1), some (mI x2), some (mI x3), some (mI x4)] [] s Q) (h_4 : ¬ (s 66 x1.toNat) < (s 66 (w32 ((w32 (x4 * 4)) + x3)).toNat) → Wp X d 112 37 [some (mR 53), some (mI x1), some (mI x2), some (mI x3), some (mI x4)] [] s Q) : Wp X d 112 17 [some (mR 53), some (mI x1), some (mI x2), some (mI x3), some (mI x4)] [] s Q := Wp_step k112 f112_17 (Wp_step k112 f112_18 ⟨kf_53, 66, rf_53_10, Wp_step k112 f112_21 (Wp_step k112 f112_23 (Wp_step k112 f112_24 (Wp_step k112 f112_25 (Wp_step k112 f112_26 (Wp_step k112 f112_27 ⟨16, af_66, h_1, Wp_step k112 f112_28 (Wp_step k112 f112_29 ⟨kf_53, 66, rf_53_10, Wp_step k112 f112_32 (Wp_step k112 f112_33 ⟨16, af_66, h_2, Wp_step k112 f112_34 ⟨h_3, h_4⟩⟩)⟩)⟩)))))⟩)
theorem b112_37 {X : (Nat → Int) × Nat} {d : Nat} {s : mSt} {Q : mQ} {x1 : Int} {x2 : Int} {x3 : Int} {x4 : Int} (h_1 : 0 ≤ (w32 ((w32 (x2 * 4)) + x4)) ∧ (w32 ((w32 (x2 * 4)) + x4)) < 16) (h_2 : 0 ≤ x1 ∧ x1 < 16) (h_3 : (s 67 (w32 ((w32 (x2 * 4)) + x4)).toNat) ≤ (s 67 x1.toNat) → Wp X d 112 59 [some (mR 53), some (mI x1), some (mI x2), some (mI x3), some (mI x4)] [] s Q) (h_4 : ¬ (s 67 (w32 ((w32 (x2 * 4)) + x4)).toNat) ≤ (s 67 x1.toNat) → Wp X d 112 57 [some (mR 53), some (mI x1), some (mI x2), some (mI x3), some (mI x4)] [] s Q) : Wp X d 112 37 [some (mR 53), some (mI x1), some (mI x2), some (mI x3), some (mI x4)] [] s Q := Wp_step k112 f112_37 (Wp_step k112 f112_38 ⟨kf_53, 67, rf_53_11, Wp_step k112 f112_41 (Wp_step k112 f112_42 (Wp_step k112 f112_43 (Wp_step k112 f112_44 (Wp_step k112 f112_46 (Wp_step k112 f112_47 ⟨16, af_67, h_1, Wp_step k112 f112_48 (Wp_step k112 f112_49 ⟨kf_53, 67, rf_53_11, Wp_step k112 f112_52 (Wp_step k112 f112_53 ⟨16, af_67, h_2, Wp_step k112 f112_54 ⟨h_3, h_4⟩⟩)⟩)⟩)))))⟩)
theorem b112_57 {X : (Nat → Int) × Nat} {d : Nat} {s : mSt} {Q : mQ} {x1 : Int} {x2 : Int} {x3 : Int} {x4 : Int} (h_1 : Q (some (mI 0)) s) : Wp X d 112 57 [some (mR 53), some (mI x1), some (mI x2), some (mI x3), some (mI x4)] [] s Q := Wp_step k112 f112_57 (Wp_step k112 f112_58 ⟨⟨rfl, (Or.inl rfl)⟩, h_1⟩)
theorem b112_59 {X : (Nat → Int) × Nat} {d : Nat} {s : mSt} {Q : mQ} {x1 : Int} {x2 : Int} {x3 : Int} {x4 : Int} (h_1 : Wp X d 112 11 [some (mR 53), some (mI x1), some (mI x2), some (mI x3), some (mI (w32 (x4 + 1)))] [] s Q) : Wp X d 112 59 [some (mR 53), some (mI x1), some (mI x2), some (mI x3), some (mI x4)] [] s Q := Wp_step k112 f112_59 (Wp_step k112 f112_62 (h_1))
theorem b112_65 {X : (Nat → Int) × Nat} {d : Nat} {s : mSt} {Q : mQ} {x1 : Int} {x2 : Int} {x3 : Int} {x4 : Int} (h_1 : Q (some (mI 1)) s) : Wp X d 112 65 [some (mR 53), some (mI x1), some (mI x2), some (mI x3), some (mI x4)] [] s Q := Wp_step k112 f112_65 (Wp_step k112 f112_66 ⟨⟨rfl, (Or.inr rfl)⟩, h_1⟩)
theorem e112 {X : (Nat → Int) × Nat} {d : Nat} {s : mSt} {Q : mQ} {x1 : Int} (h : Wp X d 112 0 [some (mR 53), some (mI x1), none, none, none] [] s Q) : Sp X d 112 [mR 53, mI x1] s Q := Sp_of (show mCe 112 = 0 by decide +kernel) (by rw [show mML 112 = 5 by decide +kernel]; rfl) (Nat.le_trans (Nat.le_of_ble_eq_true (show Nat.ble (mArgs _).length 5 = true from rfl)) (show 5 ≤ mML 112 by decide +kernel)) h
-- 113 ClashDay$Trials.fallIll(LClashDay$Scene;LClashDay$Rule;III)V
theorem k113 : mRk 113 = 0 := by decide +kernel
theorem f113_0 : mFetch 113 0 = some (.aload_n 0, 1, 0, 0, 0, 0) := by decide +kernel
theorem f113_1 : mFetch 113 1 = some (.iconst 0, 1, 0, 0, 0, 0) := by decide +kernel
theorem f113_2 : mFetch 113 2 = some (.putfield 174, 3, 9, 7, 0, 1) := by decide +kernel
theorem f113_5 : mFetch 113 5 = some (.aload_n 0, 1, 0, 0, 0, 0) := by decide +kernel
theorem f113_6 : mFetch 113 6 = some (.iconst 0, 1, 0, 0, 0, 0) := by decide +kernel
theorem f113_7 : mFetch 113 7 = some (.putfield 177, 3, 9, 8, 0, 1) := by decide +kernel
theorem f113_10 : mFetch 113 10 = some (.aload_n 0, 1, 0, 0, 0, 0) := by decide +kernel
theorem f113_11 : mFetch 113 11 = some (.aload_n 1, 1, 0, 0, 0, 0) := by decide +kernel
theorem f113_12 : mFetch 113 12 = some (.getfield 180, 3, 7, 4, 0, 0) := by decide +kernel
theorem f113_15 : mFetch 113 15 = some (.putfield 183, 3, 9, 9, 0, 1) := by decide +kernel
theorem f113_18 : mFetch 113 18 = some (.iconst 0, 1, 0, 0, 0, 0) := by decide +kernel
theorem f113_19 : mFetch 113 19 = some (.istore 6, 2, 0, 0, 0, 0) := by decide +kernel
theorem f113_21 : mFetch 113 21 = some (.iload 6, 2, 0, 0, 0, 0) := by decide +kernel
theorem f113_23 : mFetch 113 23 = some (.iload_n 3, 1, 0, 0, 0, 0) := by decide +kernel
theorem f113_24 : mFetch 113 24 = some (.if_icmp .ge 90, 3, 114, 0, 0, 0) := by decide +kernel
theorem f113_27 : mFetch 113 27 = some (.aload_n 0, 1, 0, 0, 0, 0) := by decide +kernel
theorem f113_28 : mFetch 113 28 = some (.getfield 12, 3, 9, 2, 2, 1) := by decide +kernel
theorem f113_31 : mFetch 113 31 = some (.aload_n 1, 1, 0, 0, 0, 0) := by decide +kernel
theorem f113_32 : mFetch 113 32 = some (.getfield 186, 3, 7, 1, 2, 0) := by decide +kernel
theorem f113_35 : mFetch 113 35 = some (.invokevirtual 44, 3, 3, 0, 2, 0) := by decide +kernel
theorem f113_38 : mFetch 113 38 = some (.iconst 0, 1, 0, 0, 0, 0) := by decide +kernel
theorem f113_39 : mFetch 113 39 = some (.istore 7, 2, 0, 0, 0, 0) := by decide +kernel
theorem f113_41 : mFetch 113 41 = some (.iload 7, 2, 0, 0, 0, 0) := by decide +kernel
theorem f113_43 : mFetch 113 43 = some (.iload 4, 2, 0, 0, 0, 0) := by decide +kernel
theorem f113_45 : mFetch 113 45 = some (.if_icmp .ge 28, 3, 73, 0, 0, 0) := by decide +kernel
theorem f113_48 : mFetch 113 48 = some (.aload_n 0, 1, 0, 0, 0, 0) := by decide +kernel
theorem f113_49 : mFetch 113 49 = some (.iload 5, 2, 0, 0, 0, 0) := by decide +kernel
theorem f113_51 : mFetch 113 51 = some (.invokevirtual 189, 3, 114, 0, 2, 9) := by decide +kernel
theorem f113_54 : mFetch 113 54 = some (.aload_n 0, 1, 0, 0, 0, 0) := by decide +kernel
theorem f113_55 : mFetch 113 55 = some (.getfield 40, 3, 9, 1, 2, 1) := by decide +kernel
theorem f113_58 : mFetch 113 58 = some (.aload_n 0, 1, 0, 0, 0, 0) := by decide +kernel
theorem f113_59 : mFetch 113 59 = some (.getfield 12, 3, 9, 2, 2, 1) := by decide +kernel
theorem f113_62 : mFetch 113 62 = some (.aload_n 2, 1, 0, 0, 0, 0) := by decide +kernel
theorem f113_63 : mFetch 113 63 = some (.invokevirtual 112, 3, 117, 0, 3, 10) := by decide +kernel
theorem f113_66 : mFetch 113 66 = some (.pop, 1, 0, 0, 0, 0) := by decide +kernel
theorem f113_67 : mFetch 113 67 = some (.iinc 7 1, 3, 0, 0, 0, 0) := by decide +kernel
theorem f113_70 : mFetch 113 70 = some (.goto (-29), 3, 41, 0, 0, 0) := by decide +kernel
theorem f113_73 : mFetch 113 73 = some (.aload_n 0, 1, 0, 0, 0, 0) := by decide +kernel
theorem f113_74 : mFetch 113 74 = some (.dup, 1, 0, 0, 0, 0) := by decide +kernel
theorem f113_75 : mFetch 113 75 = some (.getfield 174, 3, 9, 7, 0, 1) := by decide +kernel
theorem f113_78 : mFetch 113 78 = some (.aload_n 0, 1, 0, 0, 0, 0) := by decide +kernel
theorem f113_79 : mFetch 113 79 = some (.getfield 12, 3, 9, 2, 2, 1) := by decide +kernel
theorem f113_82 : mFetch 113 82 = some (.getfield 192, 3, 0, 5, 0, 0) := by decide +kernel
theorem f113_85 : mFetch 113 85 = some (.invokestatic 52, 3, 309, 0, 1, 99) := by decide +kernel
theorem f113_88 : mFetch 113 88 = some (.iadd, 1, 0, 0, 0, 0) := by decide +kernel
theorem f113_89 : mFetch 113 89 = some (.putfield 174, 3, 9, 7, 0, 1) := by decide +kernel
theorem f113_92 : mFetch 113 92 = some (.aload_n 0, 1, 0, 0, 0, 0) := by decide +kernel
theorem f113_93 : mFetch 113 93 = some (.dup, 1, 0, 0, 0, 0) := by decide +kernel
theorem f113_94 : mFetch 113 94 = some (.getfield 177, 3, 9, 8, 0, 1) := by decide +kernel
theorem f113_97 : mFetch 113 97 = some (.aload_n 0, 1, 0, 0, 0, 0) := by decide +kernel
theorem f113_98 : mFetch 113 98 = some (.getfield 12, 3, 9, 2, 2, 1) := by decide +kernel
theorem f113_101 : mFetch 113 101 = some (.invokevirtual 195, 3, 22, 0, 1, 0) := by decide +kernel
theorem f113_104 : mFetch 113 104 = some (.iadd, 1, 0, 0, 0, 0) := by decide +kernel
theorem f113_105 : mFetch 113 105 = some (.putfield 177, 3, 9, 8, 0, 1) := by decide +kernel
theorem f113_108 : mFetch 113 108 = some (.iinc 6 1, 3, 0, 0, 0, 0) := by decide +kernel
theorem f113_111 : mFetch 113 111 = some (.goto (-90), 3, 21, 0, 0, 0) := by decide +kernel
theorem f113_114 : mFetch 113 114 = some (.return_, 1, 0, 0, 0, 0) := by decide +kernel
theorem b113_0 {X : (Nat → Int) × Nat} {d : Nat} {s : mSt} {Q : mQ} {a1 : Nat} {a2 : Nat} {x3 : Int} {x4 : Int} {x5 : Int} {l6 : Option mV} {l7 : Option mV} (h1 : isSc a1) (h2 : isRl a2) (h_1 : Wp X d 113 21 [some (mR 53), some (mR a1), some (mR a2), some (mI x3), some (mI x4), some (mI x5), some (mI 0), l7] [] (uS (uS (uS s 53 7 0) 53 8 0) 53 9 ((uS (uS s 53 7 0) 53 8 0) a1 4)) Q) : Wp X d 113 0 [some (mR 53), some (mR a1), some (mR a2), some (mI x3), some (mI x4), some (mI x5), l6, l7] [] s Q := Wp_step k113 f113_0 (Wp_step k113 f113_1 (Wp_step k113 f113_2 ⟨kf_53, Wp_step k113 f113_5 (Wp_step k113 f113_6 (Wp_step k113 f113_7 ⟨kf_53, Wp_step k113 f113_10 (Wp_step k113 f113_11 (Wp_step k113 f113_12 ⟨(sc_k h1), Wp_step k113 f113_15 ⟨kf_53, Wp_step k113 f113_18 (Wp_step k113 f113_19 (h_1))⟩⟩))⟩))⟩))
theorem b113_21 {X : (Nat → Int) × Nat} {d : Nat} {s : mSt} {Q : mQ} {a1 : Nat} {a2 : Nat} {x3 : Int} {x4 : Int} {x5 : Int} {x6 : Int} {l7 : Option mV} (h1 : isSc a1) (h2 : isRl a2) (h_1 : x3 ≤ x6 → Wp X d 113 114 [some (mR 53), some (mR a1), some (mR a2), some (mI x3), some (mI x4), some (mI x5), some (mI x6), l7] [] s Q) (h_2 : ¬ x3 ≤ x6 → Wp X d 113 27 [some (mR 53), some (mR a1), some (mR a2), some (mI x3), some (mI x4), some (mI x5), some (mI x6), l7] [] s Q) : Wp X d 113 21 [some (mR 53), some (mR a1), some (mR a2), some (mI x3), some (mI x4), some (mI x5), some (mI x6), l7] [] s Q := Wp_step k113 f113_21 (Wp_step k113 f113_23 (Wp_step k113 f113_24 ⟨h_1, h_2⟩))
theorem b113_27 {X : (Nat → Int) × Nat} {d : Nat} {s : mSt} {Q : mQ} {a1 : Nat} {a2 : Nat} {x3 : Int} {x4 : Int} {x5 : Int} {x6 : Int} {l7 : Option mV} (h1 : isSc a1) (h2 : isRl a2) (h_1 : Sp X d 3 [mR 54, mR (a1 + 11)] s (fun r s' => r = none ∧ Wp X (d + 1) 113 38 [some (mR 53), some (mR a1), some (mR a2), some (mI x3), some (mI x4), some (mI x5), some (mI x6), l7] [] s' Q)) : Wp X (d + 1) 113 27 [some (mR 53), some (mR a1), some (mR a2), some (mI x3), some (mI x4), some (mI x5), some (mI x6), l7] [] s Q := Wp_step k113 f113_27 (Wp_step k113 f113_28 ⟨kf_53, 54, rf_53_2, Wp_step k113 f113_31 (Wp_step k113 f113_32 ⟨(sc_k h1), (a1 + 11), (sc_r1 h1), Wp_step k113 f113_35 ⟨⟨kf_54, Nat.le_of_ble_eq_true rfl⟩, Nat.le_refl _, _, rfl, Sp_V h_1⟩⟩)⟩)
theorem b113_38 {X : (Nat → Int) × Nat} {d : Nat} {s : mSt} {Q : mQ} {a1 : Nat} {a2 : Nat} {x3 : Int} {x4 : Int} {x5 : Int} {x6 : Int} {l7 : Option mV} (h1 : isSc a1) (h2 : isRl a2) (h_1 : Wp X d 113 41 [some (mR 53), some (mR a1), some (mR a2), some (mI x3), some (mI x4), some (mI x5), some (mI x6), some (mI 0)] [] s Q) : Wp X d 113 38 [some (mR 53), some (mR a1), some (mR a2), some (mI x3), some (mI x4), some (mI x5), some (mI x6), l7] [] s Q := Wp_step k113 f113_38 (Wp_step k113 f113_39 (h_1))
theorem b113_41 {X : (Nat → Int) × Nat} {d : Nat} {s : mSt} {Q : mQ} {a1 : Nat} {a2 : Nat} {x3 : Int} {x4 : Int} {x5 : Int} {x6 : Int} {x7 : Int} (h1 : isSc a1) (h2 : isRl a2) (h_1 : x4 ≤ x7 → Wp X d 113 73 [some (mR 53), some (mR a1), some (mR a2), some (mI x3), some (mI x4), some (mI x5), some (mI x6), some (mI x7)] [] s Q) (h_2 : ¬ x4 ≤ x7 → Wp X d 113 48 [some (mR 53), some (mR a1), some (mR a2), some (mI x3), some (mI x4), some (mI x5), some (mI x6), some (mI x7)] [] s Q) : Wp X d 113 41 [some (mR 53), some (mR a1), some (mR a2), some (mI x3), some (mI x4), some (mI x5), some (mI x6), some (mI x7)] [] s Q := Wp_step k113 f113_41 (Wp_step k113 f113_43 (Wp_step k113 f113_45 ⟨h_1, h_2⟩))
theorem b113_48 {X : (Nat → Int) × Nat} {d : Nat} {s : mSt} {Q : mQ} {a1 : Nat} {a2 : Nat} {x3 : Int} {x4 : Int} {x5 : Int} {x6 : Int} {x7 : Int} (h1 : isSc a1) (h2 : isRl a2) (h_1 : Sp X d 114 [mR 53, mI x5] s (fun r s' => r = none ∧ Wp X (d + 1) 113 54 [some (mR 53), some (mR a1), some (mR a2), some (mI x3), some (mI x4), some (mI x5), some (mI x6), some (mI x7)] [] s' Q)) : Wp X (d + 1) 113 48 [some (mR 53), some (mR a1), some (mR a2), some (mI x3), some (mI x4), some (mI x5), some (mI x6), some (mI x7)] [] s Q := Wp_step k113 f113_48 (Wp_step k113 f113_49 (Wp_step k113 f113_51 ⟨⟨kf_53, Nat.le_of_ble_eq_true rfl⟩, Nat.le_refl _, _, rfl, Sp_V h_1⟩))
theorem b113_54 {X : (Nat → Int) × Nat} {d : Nat} {s : mSt} {Q : mQ} {a1 : Nat} {a2 : Nat} {x3 : Int} {x4 : Int} {x5 : Int} {x6 : Int} {x7 : Int} (h1 : isSc a1) (h2 : isRl a2) (h_1 : Sp X d 117 [mR 50, mR 54, mR a2] s (fun r s' => ∃ v : Int, r = some (mI v) ∧ Wp X (d + 1) 113 66 [some (mR 53), some (mR a1), some (mR a2), some (mI x3), some (mI x4), some (mI x5), some (mI x6), some (mI x7)] [mI v] s' Q)) : Wp X (d + 1) 113 54 [some (mR 53), some (mR a1), some (mR a2), some (mI x3), some (mI x4), some (mI x5), some (mI x6), some (mI x7)] [] s Q := Wp_step k113 f113_54 (Wp_step k113 f113_55 ⟨kf_53, 50, rf_53_1, Wp_step k113 f113_58 (Wp_step k113 f113_59 ⟨kf_53, 54, rf_53_2, Wp_step k113 f113_62 (Wp_step k113 f113_63 ⟨⟨kf_50, Nat.le_of_ble_eq_true rfl⟩, Nat.le_refl _, _, rfl, Sp_E h_1⟩)⟩)⟩)
theorem b113_66 {X : (Nat → Int) × Nat} {d : Nat} {s : mSt} {Q : mQ} {a1 : Nat} {a2 : Nat} {x3 : Int} {x4 : Int} {x5 : Int} {x6 : Int} {x7 : Int} {xt0 : Int} (h1 : isSc a1) (h2 : isRl a2) (h_1 : Wp X d 113 41 [some (mR 53), some (mR a1), some (mR a2), some (mI x3), some (mI x4), some (mI x5), some (mI x6), some (mI (w32 (x7 + 1)))] [] s Q) : Wp X d 113 66 [some (mR 53), some (mR a1), some (mR a2), some (mI x3), some (mI x4), some (mI x5), some (mI x6), some (mI x7)] [mI xt0] s Q := Wp_step k113 f113_66 (Wp_step k113 f113_67 (Wp_step k113 f113_70 (h_1)))
theorem b113_73 {X : (Nat → Int) × Nat} {d : Nat} {s : mSt} {Q : mQ} {a1 : Nat} {a2 : Nat} {x3 : Int} {x4 : Int} {x5 : Int} {x6 : Int} {x7 : Int} (h1 : isSc a1) (h2 : isRl a2) (h_1 : Sp X d 309 [mI (s 54 5)] s (fun r s' => ∃ v : Int, r = some (mI v) ∧ Wp X (d + 1) 113 88 [some (mR 53), some (mR a1), some (mR a2), some (mI x3), some (mI x4), some (mI x5), some (mI x6), some (mI x7)] [mI v, mI (s 53 7), mR 53] s' Q)) : Wp X (d + 1) 113 73 [some (mR 53), some (mR a1), some (mR a2), some (mI x3), some (mI x4), some (mI x5), some (mI x6), some (mI x7)] [] s Q := Wp_step k113 f113_73 (Wp_step k113 f113_74 (Wp_step k113 f113_75 ⟨kf_53, Wp_step k113 f113_78 (Wp_step k113 f113_79 ⟨kf_53, 54, rf_53_2, Wp_step k113 f113_82 ⟨kf_54, Wp_step k113 f113_85 ⟨⟨Nat.le_of_ble_eq_true rfl, Nat.le_refl _⟩, _, rfl, Sp_E h_1⟩⟩⟩)⟩))
theorem b113_88 {X : (Nat → Int) × Nat} {d : Nat} {s : mSt} {Q : mQ} {a1 : Nat} {a2 : Nat} {x3 : Int} {x4 : Int} {x5 : Int} {x6 : Int} {x7 : Int} {xt1 : Int} {xt2 : Int} (h1 : isSc a1) (h2 : isRl a2) (h_1 : Sp X d 22 [mR 54] (uS s 53 7 (w32 (xt1 + xt2))) (fun r s' => ∃ v : Int, r = some (mI v) ∧ Wp X (d + 1) 113 104 [some (mR 53), some (mR a1), some (mR a2), some (mI x3), some (mI x4), some (mI x5), some (mI x6), some (mI x7)] [mI v, mI ((uS s 53 7 (w32 (xt1 + xt2))) 53 8), mR 53] s' Q)) : Wp X (d + 1) 113 88 [some (mR 53), some (mR a1), some (mR a2), some (mI x3), some (mI x4), some (mI x5), some (mI x6), some (mI x7)] [mI xt2, mI xt1, mR 53] s Q := Wp_step k113 f113_88 (Wp_step k113 f113_89 ⟨kf_53, Wp_step k113 f113_92 (Wp_step k113 f113_93 (Wp_step k113 f113_94 ⟨kf_53, Wp_step k113 f113_97 (Wp_step k113 f113_98 ⟨kf_53, 54, rf_53_2, Wp_step k113 f113_101 ⟨⟨kf_54, Nat.le_of_ble_eq_true rfl⟩, Nat.le_refl _, _, rfl, Sp_E h_1⟩⟩)⟩))⟩)
theorem b113_104 {X : (Nat → Int) × Nat} {d : Nat} {s : mSt} {Q : mQ} {a1 : Nat} {a2 : Nat} {x3 : Int} {x4 : Int} {x5 : Int} {x6 : Int} {x7 : Int} {xt1 : Int} {xt2 : Int} (h1 : isSc a1) (h2 : isRl a2) (h_1 : Wp X d 113 21 [some (mR 53), some (mR a1), some (mR a2), some (mI x3), some (mI x4), some (mI x5), some (mI (w32 (x6 + 1))), some (mI x7)] [] (uS s 53 8 (w32 (xt1 + xt2))) Q) : Wp X d 113 104 [some (mR 53), some (mR a1), some (mR a2), some (mI x3), some (mI x4), some (mI x5), some (mI x6), some (mI x7)] [mI xt2, mI xt1, mR 53] s Q := Wp_step k113 f113_104 (Wp_step k113 f113_105 ⟨kf_53, Wp_step k113 f113_108 (Wp_step k113 f113_111 (h_1))⟩)
theorem b113_114 {X : (Nat → Int) × Nat} {d : Nat} {s : mSt} {Q : mQ} {a1 : Nat} {a2 : Nat} {x3 : Int} {x4 : Int} {x5 : Int} {x6 : Int} {l7 : Option mV} (h1 : isSc a1) (h2 : isRl a2) (h_1 : Q none s) : Wp X d 113 114 [some (mR 53), some (mR a1), some (mR a2), some (mI x3), some (mI x4), some (mI x5), some (mI x6), l7] [] s Q := Wp_step k113 f113_114 ⟨⟨rfl, Or.inl rfl⟩, h_1⟩
theorem e113 {X : (Nat → Int) × Nat} {d : Nat} {s : mSt} {Q : mQ} {a1 : Nat} {a2 : Nat} {x3 : Int} {x4 : Int} {x5 : Int} (h : Wp X d 113 0 [some (mR 53), some (mR a1), some (mR a2), some (mI x3), some (mI x4), some (mI x5), none, none] [] s Q) : Sp X d 113 [mR 53, mR a1, mR a2, mI x3, mI x4, mI x5] s Q := Sp_of (show mCe 113 = 0 by decide +kernel) (by rw [show mML 113 = 8 by decide +kernel]; rfl) (Nat.le_trans (Nat.le_of_ble_eq_true (show Nat.ble (mArgs _).length 8 = true from rfl)) (show 8 ≤ mML 113 by decide +kernel)) h
-- 114 ClashDay$Trials.drawIllness(I)V
theorem k114 : mRk 114 = 0 := by decide +kernel
theorem f114_0 : mFetch 114 0 = some (.aload_n 0, 1, 0, 0, 0, 0) := by decide +kernel
theorem f114_1 : mFetch 114 1 = some (.invokevirtual 198, 3, 115, 0, 1, 9) := by decide +kernel
theorem f114_4 : mFetch 114 4 = some (.bipush 100, 2, 0, 0, 0, 0) := by decide +kernel
theorem f114_6 : mFetch 114 6 = some (.irem, 1, 0, 0, 0, 0) := by decide +kernel
theorem f114_7 : mFetch 114 7 = some (.iload_n 1, 1, 0, 0, 0, 0) := by decide +kernel
theorem f114_8 : mFetch 114 8 = some (.if_icmp .ge 32, 3, 40, 0, 0, 0) := by decide +kernel
theorem f114_11 : mFetch 114 11 = some (.aload_n 0, 1, 0, 0, 0, 0) := by decide +kernel
theorem f114_12 : mFetch 114 12 = some (.getfield 12, 3, 9, 2, 2, 1) := by decide +kernel
theorem f114_15 : mFetch 114 15 = some (.getfield 48, 3, 0, 3, 0, 0) := by decide +kernel
theorem f114_18 : mFetch 114 18 = some (.ifCond .le 22, 3, 40, 0, 0, 0) := by decide +kernel
theorem f114_21 : mFetch 114 21 = some (.aload_n 0, 1, 0, 0, 0, 0) := by decide +kernel
theorem f114_22 : mFetch 114 22 = some (.getfield 12, 3, 9, 2, 2, 1) := by decide +kernel
theorem f114_25 : mFetch 114 25 = some (.aload_n 0, 1, 0, 0, 0, 0) := by decide +kernel
theorem f114_26 : mFetch 114 26 = some (.invokevirtual 198, 3, 115, 0, 1, 9) := by decide +kernel
theorem f114_29 : mFetch 114 29 = some (.aload_n 0, 1, 0, 0, 0, 0) := by decide +kernel
theorem f114_30 : mFetch 114 30 = some (.getfield 12, 3, 9, 2, 2, 1) := by decide +kernel
theorem f114_33 : mFetch 114 33 = some (.getfield 48, 3, 0, 3, 0, 0) := by decide +kernel
theorem f114_36 : mFetch 114 36 = some (.irem, 1, 0, 0, 0, 0) := by decide +kernel
theorem f114_37 : mFetch 114 37 = some (.invokevirtual 87, 3, 24, 0, 2, 0) := by decide +kernel
theorem f114_40 : mFetch 114 40 = some (.return_, 1, 0, 0, 0, 0) := by decide +kernel
theorem b114_0 {X : (Nat → Int) × Nat} {d : Nat} {s : mSt} {Q : mQ} {x1 : Int} (h_1 : Sp X d 115 [mR 53] s (fun r s' => ∃ v : Int, r = some (mI v) ∧ Wp X (d + 1) 114 4 [some (mR 53), some (mI x1)] [mI v] s' Q)) : Wp X (d + 1) 114 0 [some (mR 53), some (mI x1)] [] s Q := Wp_step k114 f114_0 (Wp_step k114 f114_1 ⟨⟨kf_53, Nat.le_of_ble_eq_true rfl⟩, Nat.le_refl _, _, rfl, Sp_E h_1⟩)
theorem b114_4 {X : (Nat → Int) × Nat} {d : Nat} {s : mSt} {Q : mQ} {x1 : Int} {xt0 : Int} (h_1 : x1 ≤ (Int.tmod xt0 100) → Wp X d 114 40 [some (mR 53), some (mI x1)] [] s Q) (h_2 : ¬ x1 ≤ (Int.tmod xt0 100) → Wp X d 114 11 [some (mR 53), some (mI x1)] [] s Q) : Wp X d 114 4 [some (mR 53), some (mI x1)] [mI xt0] s Q := Wp_step k114 f114_4 (Wp_step k114 f114_6 ⟨(by decide), Wp_step k114 f114_7 (Wp_step k114 f114_8 ⟨h_1, h_2⟩)⟩)
theorem b114_11 {X : (Nat → Int) × Nat} {d : Nat} {s : mSt} {Q : mQ} {x1 : Int} (h_1 : (s 54 3) ≤ 0 → Wp X d 114 40 [some (mR 53), some (mI x1)] [] s Q) (h_2 : ¬ (s 54 3) ≤ 0 → Wp X d 114 21 [some (mR 53), some (mI x1)] [] s Q) : Wp X d 114 11 [some (mR 53), some (mI x1)] [] s Q := Wp_step k114 f114_11 (Wp_step k114 f114_12 ⟨kf_53, 54, rf_53_2, Wp_step k114 f114_15 ⟨kf_54, Wp_step k114 f114_18 ⟨h_1, h_2⟩⟩⟩)
theorem b114_21 {X : (Nat → Int) × Nat} {d : Nat} {s : mSt} {Q : mQ} {x1 : Int} (h_1 : Sp X d 115 [mR 53] s (fun r s' => ∃ v : Int, r = some (mI v) ∧ Wp X (d + 1) 114 29 [some (mR 53), some (mI x1)] [mI v, mR 54] s' Q)) : Wp X (d + 1) 114 21 [some (mR 53), some (mI x1)] [] s Q := Wp_step k114 f114_21 (Wp_step k114 f114_22 ⟨kf_53, 54, rf_53_2, Wp_step k114 f114_25 (Wp_step k114 f114_26 ⟨⟨kf_53, Nat.le_of_ble_eq_true rfl⟩, Nat.le_refl _, _, rfl, Sp_E h_1⟩)⟩)
theorem b114_29 {X : (Nat → Int) × Nat} {d : Nat} {s : mSt} {Q : mQ} {x1 : Int} {xt1 : Int} (h_1 : (s 54 3) ≠ 0) (h_2 : Sp X d 24 [mR 54, mI (Int.tmod xt1 (s 54 3))] s (fun r s' => r = none ∧ Wp X (d + 1) 114 40 [some (mR 53), some (mI x1)] [] s' Q)) : Wp X (d + 1) 114 29 [some (mR 53), some (mI x1)] [mI xt1, mR 54] s Q := Wp_step k114 f114_29 (Wp_step k114 f114_30 ⟨kf_53, 54, rf_53_2, Wp_step k114 f114_33 ⟨kf_54, Wp_step k114 f114_36 ⟨h_1, Wp_step k114 f114_37 ⟨⟨kf_54, Nat.le_of_ble_eq_true rfl⟩, Nat.le_refl _, _, rfl, Sp_V h_2⟩⟩⟩⟩)
theorem b114_40 {X : (Nat → Int) × Nat} {d : Nat} {s : mSt} {Q : mQ} {x1 : Int} (h_1 : Q none s) : Wp X d 114 40 [some (mR 53), some (mI x1)] [] s Q := Wp_step k114 f114_40 ⟨⟨rfl, Or.inl rfl⟩, h_1⟩
theorem e114 {X : (Nat → Int) × Nat} {d : Nat} {s : mSt} {Q : mQ} {x1 : Int} (h : Wp X d 114 0 [some (mR 53), some (mI x1)] [] s Q) : Sp X d 114 [mR 53, mI x1] s Q := Sp_of (show mCe 114 = 0 by decide +kernel) (by rw [show mML 114 = 2 by decide +kernel]; rfl) (Nat.le_trans (Nat.le_of_ble_eq_true (show Nat.ble (mArgs _).length 2 = true from rfl)) (show 2 ≤ mML 114 by decide +kernel)) h
-- 115 ClashDay$Trials.nextDraw()I
theorem k115 : mRk 115 = 1 := by decide +kernel
theorem f115_0 : mFetch 115 0 = some (.aload_n 0, 1, 0, 0, 0, 0) := by decide +kernel
theorem f115_1 : mFetch 115 1 = some (.aload_n 0, 1, 0, 0, 0, 0) := by decide +kernel
theorem f115_2 : mFetch 115 2 = some (.getfield 183, 3, 9, 9, 0, 1) := by decide +kernel
theorem f115_5 : mFetch 115 5 = some (.i2l, 1, 0, 0, 0, 0) := by decide +kernel
theorem f115_6 : mFetch 115 6 = some (.ldc2_w 201, 3, 1103515245, 0, 0, 0) := by decide +kernel
theorem f115_9 : mFetch 115 9 = some (.lmul, 1, 0, 0, 0, 0) := by decide +kernel
theorem f115_10 : mFetch 115 10 = some (.ldc2_w 203, 3, 12345, 0, 0, 0) := by decide +kernel
theorem f115_13 : mFetch 115 13 = some (.ladd, 1, 0, 0, 0, 0) := by decide +kernel
theorem f115_14 : mFetch 115 14 = some (.ldc2_w 205, 3, 2147483648, 0, 0, 0) := by decide +kernel
theorem f115_17 : mFetch 115 17 = some (.lrem, 1, 0, 0, 0, 0) := by decide +kernel
theorem f115_18 : mFetch 115 18 = some (.l2i, 1, 0, 0, 0, 0) := by decide +kernel
theorem f115_19 : mFetch 115 19 = some (.putfield 183, 3, 9, 9, 0, 1) := by decide +kernel
theorem f115_22 : mFetch 115 22 = some (.aload_n 0, 1, 0, 0, 0, 0) := by decide +kernel
theorem f115_23 : mFetch 115 23 = some (.getfield 183, 3, 9, 9, 0, 1) := by decide +kernel
theorem f115_26 : mFetch 115 26 = some (.ldc 207, 2, 65536, 0, 0, 0) := by decide +kernel
theorem f115_28 : mFetch 115 28 = some (.idiv, 1, 0, 0, 0, 0) := by decide +kernel
theorem f115_29 : mFetch 115 29 = some (.ireturn, 1, 0, 0, 0, 0) := by decide +kernel
theorem b115_0 {X : (Nat → Int) × Nat} {d : Nat} {s : mSt} {Q : mQ} (h_1 : Q (some (mI (w32 (Int.tdiv ((uS s 53 9 (w32 (Int.tmod (w64 ((w64 ((s 53 9) * 1103515245)) + 12345)) 2147483648))) 53 9) 65536)))) (uS s 53 9 (w32 (Int.tmod (w64 ((w64 ((s 53 9) * 1103515245)) + 12345)) 2147483648)))) : Wp X d 115 0 [some (mR 53)] [] s Q := Wp_step k115 f115_0 (Wp_step k115 f115_1 (Wp_step k115 f115_2 ⟨kf_53, Wp_step k115 f115_5 (Wp_step k115 f115_6 (Wp_step k115 f115_9 (Wp_step k115 f115_10 (Wp_step k115 f115_13 (Wp_step k115 f115_14 (Wp_step k115 f115_17 ⟨(by decide), Wp_step k115 f115_18 (Wp_step k115 f115_19 ⟨kf_53, Wp_step k115 f115_22 (Wp_step k115 f115_23 ⟨kf_53, Wp_step k115 f115_26 (Wp_step k115 f115_28 ⟨(by decide), Wp_step k115 f115_29 ⟨⟨rfl, trivial⟩, h_1⟩⟩)⟩)⟩)⟩))))))⟩))
theorem e115 {X : (Nat → Int) × Nat} {d : Nat} {s : mSt} {Q : mQ} (h : Wp X d 115 0 [some (mR 53)] [] s Q) : Sp X d 115 [mR 53] s Q := Sp_of (show mCe 115 = 0 by decide +kernel) (by rw [show mML 115 = 1 by decide +kernel]; rfl) (Nat.le_trans (Nat.le_of_ble_eq_true (show Nat.ble (mArgs _).length 1 = true from rfl)) (show 1 ≤ mML 115 by decide +kernel)) h
-- 117 ClashDay$Turns.step(LClashDay$Board;LClashDay$Rule;)I
theorem k117 : mRk 117 = 1 := by decide +kernel
theorem f117_0 : mFetch 117 0 = some (.aload_n 2, 1, 0, 0, 0, 0) := by decide +kernel
theorem f117_1 : mFetch 117 1 = some (.ifnonnull 11, 3, 12, 0, 0, 0) := by decide +kernel
theorem f117_4 : mFetch 117 4 = some (.aload_n 0, 1, 0, 0, 0, 0) := by decide +kernel
theorem f117_5 : mFetch 117 5 = some (.aload_n 1, 1, 0, 0, 0, 0) := by decide +kernel
theorem f117_6 : mFetch 117 6 = some (.invokevirtual 24, 3, 118, 0, 2, 10) := by decide +kernel
theorem f117_9 : mFetch 117 9 = some (.goto 9, 3, 18, 0, 0, 0) := by decide +kernel
theorem f117_12 : mFetch 117 12 = some (.aload_n 0, 1, 0, 0, 0, 0) := by decide +kernel
theorem f117_13 : mFetch 117 13 = some (.aload_n 1, 1, 0, 0, 0, 0) := by decide +kernel
theorem f117_14 : mFetch 117 14 = some (.aload_n 2, 1, 0, 0, 0, 0) := by decide +kernel
theorem f117_15 : mFetch 117 15 = some (.invokevirtual 28, 3, 119, 0, 3, 10) := by decide +kernel
theorem f117_18 : mFetch 117 18 = some (.istore_n 3, 1, 0, 0, 0, 0) := by decide +kernel
theorem f117_19 : mFetch 117 19 = some (.aload_n 0, 1, 0, 0, 0, 0) := by decide +kernel
theorem f117_20 : mFetch 117 20 = some (.getfield 20, 3, 10, 0, 2, 1) := by decide +kernel
theorem f117_23 : mFetch 117 23 = some (.aload_n 1, 1, 0, 0, 0, 0) := by decide +kernel
theorem f117_24 : mFetch 117 24 = some (.iload_n 3, 1, 0, 0, 0, 0) := by decide +kernel
theorem f117_25 : mFetch 117 25 = some (.invokevirtual 32, 3, 60, 0, 3, 4) := by decide +kernel
theorem f117_28 : mFetch 117 28 = some (.pop, 1, 0, 0, 0, 0) := by decide +kernel
theorem f117_29 : mFetch 117 29 = some (.aload_n 1, 1, 0, 0, 0, 0) := by decide +kernel
theorem f117_30 : mFetch 117 30 = some (.dup, 1, 0, 0, 0, 0) := by decide +kernel
theorem f117_31 : mFetch 117 31 = some (.getfield 38, 3, 0, 4, 0, 0) := by decide +kernel
theorem f117_34 : mFetch 117 34 = some (.iconst 1, 1, 0, 0, 0, 0) := by decide +kernel
theorem f117_35 : mFetch 117 35 = some (.iadd, 1, 0, 0, 0, 0) := by decide +kernel
theorem f117_36 : mFetch 117 36 = some (.putfield 38, 3, 0, 4, 0, 0) := by decide +kernel
theorem f117_39 : mFetch 117 39 = some (.iload_n 3, 1, 0, 0, 0, 0) := by decide +kernel
theorem f117_40 : mFetch 117 40 = some (.ireturn, 1, 0, 0, 0, 0) := by decide +kernel
theorem b117_0 {X : (Nat → Int) × Nat} {d : Nat} {s : mSt} {Q : mQ} {a1 : Nat} {o2 : Option Nat} {l3 : Option mV} (h1 : isBd a1) (h_1 : ¬ o2 = none → Wp X d 117 12 [some (mR 50), some (mR a1), some (Sum.inr (Sum.inr (Sum.inl o2))), l3] [] s Q) (h_2 : o2 = none → Wp X d 117 4 [some (mR 50), some (mR a1), some (Sum.inr (Sum.inr (Sum.inl o2))), l3] [] s Q) : Wp X d 117 0 [some (mR 50), some (mR a1), some (Sum.inr (Sum.inr (Sum.inl o2))), l3] [] s Q := Wp_step k117 f117_0 (Wp_step k117 f117_1 ⟨h_1, h_2⟩)
theorem b117_4 {X : (Nat → Int) × Nat} {d : Nat} {s : mSt} {Q : mQ} {a1 : Nat} {o2 : Option Nat} {l3 : Option mV} (h1 : isBd a1) (h_1 : Sp X d 118 [mR 50, mR a1] s (fun r s' => ∃ v : Int, r = some (mI v) ∧ Wp X (d + 1) 117 9 [some (mR 50), some (mR a1), some (Sum.inr (Sum.inr (Sum.inl o2))), l3] [mI v] s' Q)) : Wp X (d + 1) 117 4 [some (mR 50), some (mR a1), some (Sum.inr (Sum.inr (Sum.inl o2))), l3] [] s Q := Wp_step k117 f117_4 (Wp_step k117 f117_5 (Wp_step k117 f117_6 ⟨⟨kf_50, Nat.le_of_ble_eq_true rfl⟩, Nat.le_refl _, _, rfl, Sp_E h_1⟩))
theorem b117_9 {X : (Nat → Int) × Nat} {d : Nat} {s : mSt} {Q : mQ} {a1 : Nat} {o2 : Option Nat} {l3 : Option mV} {xt0 : Int} (h1 : isBd a1) (h_1 : Wp X d 117 18 [some (mR 50), some (mR a1), some (Sum.inr (Sum.inr (Sum.inl o2))), l3] [mI xt0] s Q) : Wp X d 117 9 [some (mR 50), some (mR a1), some (Sum.inr (Sum.inr (Sum.inl o2))), l3] [mI xt0] s Q := Wp_step k117 f117_9 (h_1)
theorem b117_12 {X : (Nat → Int) × Nat} {d : Nat} {s : mSt} {Q : mQ} {a1 : Nat} {o2 : Option Nat} {l3 : Option mV} (h1 : isBd a1) (h_1 : Sp X d 119 [mR 50, mR a1, Sum.inr (Sum.inr (Sum.inl o2))] s (fun r s' => ∃ v : Int, r = some (mI v) ∧ Wp X (d + 1) 117 18 [some (mR 50), some (mR a1), some (Sum.inr (Sum.inr (Sum.inl o2))), l3] [mI v] s' Q)) : Wp X (d + 1) 117 12 [some (mR 50), some (mR a1), some (Sum.inr (Sum.inr (Sum.inl o2))), l3] [] s Q := Wp_step k117 f117_12 (Wp_step k117 f117_13 (Wp_step k117 f117_14 (Wp_step k117 f117_15 ⟨⟨kf_50, Nat.le_of_ble_eq_true rfl⟩, Nat.le_refl _, _, rfl, Sp_E h_1⟩)))
theorem b117_18 {X : (Nat → Int) × Nat} {d : Nat} {s : mSt} {Q : mQ} {a1 : Nat} {o2 : Option Nat} {l3 : Option mV} {xt0 : Int} (h1 : isBd a1) (h_1 : Sp X d 60 [mR 44, mR a1, mI xt0] s (fun r s' => ∃ v : Int, r = some (mI v) ∧ Wp X (d + 1) 117 28 [some (mR 50), some (mR a1), some (Sum.inr (Sum.inr (Sum.inl o2))), some (mI xt0)] [mI v] s' Q)) : Wp X (d + 1) 117 18 [some (mR 50), some (mR a1), some (Sum.inr (Sum.inr (Sum.inl o2))), l3] [mI xt0] s Q := Wp_step k117 f117_18 (Wp_step k117 f117_19 (Wp_step k117 f117_20 ⟨kf_50, 44, rf_50_0, Wp_step k117 f117_23 (Wp_step k117 f117_24 (Wp_step k117 f117_25 ⟨⟨kf_44, Nat.le_of_ble_eq_true rfl⟩, Nat.le_refl _, _, rfl, Sp_E h_1⟩))⟩))
theorem b117_28 {X : (Nat → Int) × Nat} {d : Nat} {s : mSt} {Q : mQ} {a1 : Nat} {o2 : Option Nat} {x3 : Int} {xt0 : Int} (h1 : isBd a1) (h_1 : Q (some (mI x3)) (uS s a1 4 (w32 ((s a1 4) + 1)))) : Wp X d 117 28 [some (mR 50), some (mR a1), some (Sum.inr (Sum.inr (Sum.inl o2))), some (mI x3)] [mI xt0] s Q := Wp_step k117 f117_28 (Wp_step k117 f117_29 (Wp_step k117 f117_30 (Wp_step k117 f117_31 ⟨(bd_k h1), Wp_step k117 f117_34 (Wp_step k117 f117_35 (Wp_step k117 f117_36 ⟨(bd_k h1), Wp_step k117 f117_39 (Wp_step k117 f117_40 ⟨⟨rfl, trivial⟩, h_1⟩)⟩))⟩)))
theorem e117 {X : (Nat → Int) × Nat} {d : Nat} {s : mSt} {Q : mQ} {a1 : Nat} {o2 : Option Nat} (h : Wp X d 117 0 [some (mR 50), some (mR a1), some (Sum.inr (Sum.inr (Sum.inl o2))), none] [] s Q) : Sp X d 117 [mR 50, mR a1, Sum.inr (Sum.inr (Sum.inl o2))] s Q := Sp_of (show mCe 117 = 0 by decide +kernel) (by rw [show mML 117 = 4 by decide +kernel]; rfl) (Nat.le_trans (Nat.le_of_ble_eq_true (show Nat.ble (mArgs _).length 4 = true from rfl)) (show 4 ≤ mML 117 by decide +kernel)) h
