-- 29 ClashDay$Board.mustNotMeet(II)I
theorem k29 : mRk 29 = 1 := by decide +kernel
theorem f29_0 : mFetch 29 0 = some (.iconst 0, 1, 0, 0, 0, 0) := by decide +kernel
theorem f29_1 : mFetch 29 1 = some (.istore_n 3, 1, 0, 0, 0, 0) := by decide +kernel
theorem f29_2 : mFetch 29 2 = some (.iconst 0, 1, 0, 0, 0, 0) := by decide +kernel
theorem f29_3 : mFetch 29 3 = some (.istore 4, 2, 0, 0, 0, 0) := by decide +kernel
theorem f29_5 : mFetch 29 5 = some (.iload 4, 2, 0, 0, 0, 0) := by decide +kernel
theorem f29_7 : mFetch 29 7 = some (.aload_n 0, 1, 0, 0, 0, 0) := by decide +kernel
theorem f29_8 : mFetch 29 8 = some (.getfield 46, 3, 0, 2, 0, 1) := by decide +kernel
theorem f29_11 : mFetch 29 11 = some (.if_icmp .ge 49, 3, 60, 0, 0, 0) := by decide +kernel
theorem f29_14 : mFetch 29 14 = some (.aload_n 0, 1, 0, 0, 0, 0) := by decide +kernel
theorem f29_15 : mFetch 29 15 = some (.iload_n 1, 1, 0, 0, 0, 0) := by decide +kernel
theorem f29_16 : mFetch 29 16 = some (.iload 4, 2, 0, 0, 0, 0) := by decide +kernel
theorem f29_18 : mFetch 29 18 = some (.invokevirtual 68, 3, 12, 0, 3, 0) := by decide +kernel
theorem f29_21 : mFetch 29 21 = some (.ifCond .eq 33, 3, 54, 0, 0, 0) := by decide +kernel
theorem f29_24 : mFetch 29 24 = some (.aload_n 0, 1, 0, 0, 0, 0) := by decide +kernel
theorem f29_25 : mFetch 29 25 = some (.iload_n 2, 1, 0, 0, 0, 0) := by decide +kernel
theorem f29_26 : mFetch 29 26 = some (.iload 4, 2, 0, 0, 0, 0) := by decide +kernel
theorem f29_28 : mFetch 29 28 = some (.invokevirtual 68, 3, 12, 0, 3, 0) := by decide +kernel
theorem f29_31 : mFetch 29 31 = some (.ifCond .eq 23, 3, 54, 0, 0, 0) := by decide +kernel
theorem f29_34 : mFetch 29 34 = some (.iload_n 3, 1, 0, 0, 0, 0) := by decide +kernel
theorem f29_35 : mFetch 29 35 = some (.aload_n 0, 1, 0, 0, 0, 0) := by decide +kernel
theorem f29_36 : mFetch 29 36 = some (.iload_n 2, 1, 0, 0, 0, 0) := by decide +kernel
theorem f29_37 : mFetch 29 37 = some (.iload 4, 2, 0, 0, 0, 0) := by decide +kernel
theorem f29_39 : mFetch 29 39 = some (.invokevirtual 116, 3, 16, 0, 3, 0) := by decide +kernel
theorem f29_42 : mFetch 29 42 = some (.aload_n 0, 1, 0, 0, 0, 0) := by decide +kernel
theorem f29_43 : mFetch 29 43 = some (.iload_n 1, 1, 0, 0, 0, 0) := by decide +kernel
theorem f29_44 : mFetch 29 44 = some (.iload 4, 2, 0, 0, 0, 0) := by decide +kernel
theorem f29_46 : mFetch 29 46 = some (.invokevirtual 116, 3, 16, 0, 3, 0) := by decide +kernel
theorem f29_49 : mFetch 29 49 = some (.invokestatic 119, 3, 32, 0, 2, 99) := by decide +kernel
theorem f29_52 : mFetch 29 52 = some (.ior, 1, 0, 0, 0, 0) := by decide +kernel
theorem f29_53 : mFetch 29 53 = some (.istore_n 3, 1, 0, 0, 0, 0) := by decide +kernel
theorem f29_54 : mFetch 29 54 = some (.iinc 4 1, 3, 0, 0, 0, 0) := by decide +kernel
theorem f29_57 : mFetch 29 57 = some (.goto (-52), 3, 5, 0, 0, 0) := by decide +kernel
theorem f29_60 : mFetch 29 60 = some (.iload_n 3, 1, 0, 0, 0, 0) := by decide +kernel
theorem f29_61 : mFetch 29 61 = some (.aload_n 0, 1, 0, 0, 0, 0) := by decide +kernel
theorem f29_62 : mFetch 29 62 = some (.getfield 33, 3, 0, 13, 2, 1) := by decide +kernel
theorem f29_65 : mFetch 29 65 = some (.iload_n 1, 1, 0, 0, 0, 0) := by decide +kernel
theorem f29_66 : mFetch 29 66 = some (.iaload, 1, 0, 0, 0, 0) := by decide +kernel
theorem f29_67 : mFetch 29 67 = some (.iconst (-1), 1, 0, 0, 0, 0) := by decide +kernel
theorem f29_68 : mFetch 29 68 = some (.ixor, 1, 0, 0, 0, 0) := by decide +kernel
theorem f29_69 : mFetch 29 69 = some (.iand, 1, 0, 0, 0, 0) := by decide +kernel
theorem f29_70 : mFetch 29 70 = some (.aload_n 0, 1, 0, 0, 0, 0) := by decide +kernel
theorem f29_71 : mFetch 29 71 = some (.getfield 33, 3, 0, 13, 2, 1) := by decide +kernel
theorem f29_74 : mFetch 29 74 = some (.iload_n 2, 1, 0, 0, 0, 0) := by decide +kernel
theorem f29_75 : mFetch 29 75 = some (.iaload, 1, 0, 0, 0, 0) := by decide +kernel
theorem f29_76 : mFetch 29 76 = some (.iconst (-1), 1, 0, 0, 0, 0) := by decide +kernel
theorem f29_77 : mFetch 29 77 = some (.ixor, 1, 0, 0, 0, 0) := by decide +kernel
theorem f29_78 : mFetch 29 78 = some (.iand, 1, 0, 0, 0, 0) := by decide +kernel
theorem f29_79 : mFetch 29 79 = some (.ireturn, 1, 0, 0, 0, 0) := by decide +kernel
theorem b29_0 {X : (Nat → Int) × Nat} {d : Nat} {s : mSt} {Q : mQ} {a0 : Nat} {x1 : Int} {x2 : Int} {l3 : Option mV} {l4 : Option mV} (h0 : isBd a0) (h_1 : Wp X d 29 5 [some (mR a0), some (mI x1), some (mI x2), some (mI 0), some (mI 0)] [] s Q) : Wp X d 29 0 [some (mR a0), some (mI x1), some (mI x2), l3, l4] [] s Q := Wp_step k29 f29_0 (Wp_step k29 f29_1 (Wp_step k29 f29_2 (Wp_step k29 f29_3 (h_1))))
theorem b29_5 {X : (Nat → Int) × Nat} {d : Nat} {s : mSt} {Q : mQ} {a0 : Nat} {x1 : Int} {x2 : Int} {x3 : Int} {x4 : Int} (h0 : isBd a0) (h_1 : (s a0 2) ≤ x4 → Wp X d 29 60 [some (mR a0), some (mI x1), some (mI x2), some (mI x3), some (mI x4)] [] s Q) (h_2 : ¬ (s a0 2) ≤ x4 → Wp X d 29 14 [some (mR a0), some (mI x1), some (mI x2), some (mI x3), some (mI x4)] [] s Q) : Wp X d 29 5 [some (mR a0), some (mI x1), some (mI x2), some (mI x3), some (mI x4)] [] s Q := Wp_step k29 f29_5 (Wp_step k29 f29_7 (Wp_step k29 f29_8 ⟨(bd_k h0), Wp_step k29 f29_11 ⟨h_1, h_2⟩⟩))
theorem b29_14 {X : (Nat → Int) × Nat} {d : Nat} {s : mSt} {Q : mQ} {a0 : Nat} {x1 : Int} {x2 : Int} {x3 : Int} {x4 : Int} (h0 : isBd a0) (h_1 : Sp X d 12 [mR a0, mI x1, mI x4] s (fun r s' => ∃ v : Int, r = some (mI v) ∧ Wp X (d + 1) 29 21 [some (mR a0), some (mI x1), some (mI x2), some (mI x3), some (mI x4)] [mI v] s' Q)) : Wp X (d + 1) 29 14 [some (mR a0), some (mI x1), some (mI x2), some (mI x3), some (mI x4)] [] s Q := Wp_step k29 f29_14 (Wp_step k29 f29_15 (Wp_step k29 f29_16 (Wp_step k29 f29_18 ⟨⟨(bd_k h0), Nat.le_of_ble_eq_true rfl⟩, Nat.le_refl _, _, rfl, Sp_E h_1⟩)))
theorem b29_21 {X : (Nat → Int) × Nat} {d : Nat} {s : mSt} {Q : mQ} {a0 : Nat} {x1 : Int} {x2 : Int} {x3 : Int} {x4 : Int} {xt0 : Int} (h0 : isBd a0) (h_1 : xt0 = 0 → Wp X d 29 54 [some (mR a0), some (mI x1), some (mI x2), some (mI x3), some (mI x4)] [] s Q) (h_2 : ¬ xt0 = 0 → Wp X d 29 24 [some (mR a0), some (mI x1), some (mI x2), some (mI x3), some (mI x4)] [] s Q) : Wp X d 29 21 [some (mR a0), some (mI x1), some (mI x2), some (mI x3), some (mI x4)] [mI xt0] s Q := Wp_step k29 f29_21 ⟨h_1, h_2⟩
theorem b29_24 {X : (Nat → Int) × Nat} {d : Nat} {s : mSt} {Q : mQ} {a0 : Nat} {x1 : Int} {x2 : Int} {x3 : Int} {x4 : Int} (h0 : isBd a0) (h_1 : Sp X d 12 [mR a0, mI x2, mI x4] s (fun r s' => ∃ v : Int, r = some (mI v) ∧ Wp X (d + 1) 29 31 [some (mR a0), some (mI x1), some (mI x2), some (mI x3), some (mI x4)] [mI v] s' Q)) : Wp X (d + 1) 29 24 [some (mR a0), some (mI x1), some (mI x2), some (mI x3), some (mI x4)] [] s Q := Wp_step k29 f29_24 (Wp_step k29 f29_25 (Wp_step k29 f29_26 (Wp_step k29 f29_28 ⟨⟨(bd_k h0), Nat.le_of_ble_eq_true rfl⟩, Nat.le_refl _, _, rfl, Sp_E h_1⟩)))
theorem b29_31 {X : (Nat → Int) × Nat} {d : Nat} {s : mSt} {Q : mQ} {a0 : Nat} {x1 : Int} {x2 : Int} {x3 : Int} {x4 : Int} {xt0 : Int} (h0 : isBd a0) (h_1 : xt0 = 0 → Wp X d 29 54 [some (mR a0), some (mI x1), some (mI x2), some (mI x3), some (mI x4)] [] s Q) (h_2 : ¬ xt0 = 0 → Wp X d 29 34 [some (mR a0), some (mI x1), some (mI x2), some (mI x3), some (mI x4)] [] s Q) : Wp X d 29 31 [some (mR a0), some (mI x1), some (mI x2), some (mI x3), some (mI x4)] [mI xt0] s Q := Wp_step k29 f29_31 ⟨h_1, h_2⟩
theorem b29_34 {X : (Nat → Int) × Nat} {d : Nat} {s : mSt} {Q : mQ} {a0 : Nat} {x1 : Int} {x2 : Int} {x3 : Int} {x4 : Int} (h0 : isBd a0) (h_1 : Sp X d 16 [mR a0, mI x2, mI x4] s (fun r s' => ∃ v : Int, r = some (mI v) ∧ Wp X (d + 1) 29 42 [some (mR a0), some (mI x1), some (mI x2), some (mI x3), some (mI x4)] [mI v, mI x3] s' Q)) : Wp X (d + 1) 29 34 [some (mR a0), some (mI x1), some (mI x2), some (mI x3), some (mI x4)] [] s Q := Wp_step k29 f29_34 (Wp_step k29 f29_35 (Wp_step k29 f29_36 (Wp_step k29 f29_37 (Wp_step k29 f29_39 ⟨⟨(bd_k h0), Nat.le_of_ble_eq_true rfl⟩, Nat.le_refl _, _, rfl, Sp_E h_1⟩))))
theorem b29_42 {X : (Nat → Int) × Nat} {d : Nat} {s : mSt} {Q : mQ} {a0 : Nat} {x1 : Int} {x2 : Int} {x3 : Int} {x4 : Int} {xt0 : Int} {xt1 : Int} (h0 : isBd a0) (h_1 : Sp X d 16 [mR a0, mI x1, mI x4] s (fun r s' => ∃ v : Int, r = some (mI v) ∧ Wp X (d + 1) 29 49 [some (mR a0), some (mI x1), some (mI x2), some (mI x3), some (mI x4)] [mI v, mI xt1, mI xt0] s' Q)) : Wp X (d + 1) 29 42 [some (mR a0), some (mI x1), some (mI x2), some (mI x3), some (mI x4)] [mI xt1, mI xt0] s Q := Wp_step k29 f29_42 (Wp_step k29 f29_43 (Wp_step k29 f29_44 (Wp_step k29 f29_46 ⟨⟨(bd_k h0), Nat.le_of_ble_eq_true rfl⟩, Nat.le_refl _, _, rfl, Sp_E h_1⟩)))
theorem b29_49 {X : (Nat → Int) × Nat} {d : Nat} {s : mSt} {Q : mQ} {a0 : Nat} {x1 : Int} {x2 : Int} {x3 : Int} {x4 : Int} {xt0 : Int} {xt1 : Int} {xt2 : Int} (h0 : isBd a0) (h_1 : Sp X d 32 [mI xt1, mI xt2] s (fun r s' => ∃ v : Int, r = some (mI v) ∧ Wp X (d + 1) 29 52 [some (mR a0), some (mI x1), some (mI x2), some (mI x3), some (mI x4)] [mI v, mI xt0] s' Q)) : Wp X (d + 1) 29 49 [some (mR a0), some (mI x1), some (mI x2), some (mI x3), some (mI x4)] [mI xt2, mI xt1, mI xt0] s Q := Wp_step k29 f29_49 ⟨⟨Nat.le_of_ble_eq_true rfl, Nat.le_refl _⟩, _, rfl, Sp_E h_1⟩
theorem b29_52 {X : (Nat → Int) × Nat} {d : Nat} {s : mSt} {Q : mQ} {a0 : Nat} {x1 : Int} {x2 : Int} {x3 : Int} {x4 : Int} {xt0 : Int} {xt1 : Int} (h0 : isBd a0) (h_1 : Wp X d 29 54 [some (mR a0), some (mI x1), some (mI x2), some (mI (iOr xt0 xt1)), some (mI x4)] [] s Q) : Wp X d 29 52 [some (mR a0), some (mI x1), some (mI x2), some (mI x3), some (mI x4)] [mI xt1, mI xt0] s Q := Wp_step k29 f29_52 (Wp_step k29 f29_53 (h_1))
theorem b29_54 {X : (Nat → Int) × Nat} {d : Nat} {s : mSt} {Q : mQ} {a0 : Nat} {x1 : Int} {x2 : Int} {x3 : Int} {x4 : Int} (h0 : isBd a0) (h_1 : Wp X d 29 5 [some (mR a0), some (mI x1), some (mI x2), some (mI x3), some (mI (w32 (x4 + 1)))] [] s Q) : Wp X d 29 54 [some (mR a0), some (mI x1), some (mI x2), some (mI x3), some (mI x4)] [] s Q := Wp_step k29 f29_54 (Wp_step k29 f29_57 (h_1))
theorem b29_60 {X : (Nat → Int) × Nat} {d : Nat} {s : mSt} {Q : mQ} {a0 : Nat} {x1 : Int} {x2 : Int} {x3 : Int} {x4 : Int} (h0 : isBd a0) (h_1 : 0 ≤ x1 ∧ x1 < 6) (h_2 : 0 ≤ x2 ∧ x2 < 6) (h_3 : Q (some (mI (iAnd (iAnd x3 (iXor (s (a0 + 8) x1.toNat) (-1))) (iXor (s (a0 + 8) x2.toNat) (-1))))) s) : Wp X d 29 60 [some (mR a0), some (mI x1), some (mI x2), some (mI x3), some (mI x4)] [] s Q := Wp_step k29 f29_60 (Wp_step k29 f29_61 (Wp_step k29 f29_62 ⟨(bd_k h0), (a0 + 8), (bd_r13 h0), Wp_step k29 f29_65 (Wp_step k29 f29_66 ⟨6, (bd_a13 h0), h_1, Wp_step k29 f29_67 (Wp_step k29 f29_68 (Wp_step k29 f29_69 (Wp_step k29 f29_70 (Wp_step k29 f29_71 ⟨(bd_k h0), (a0 + 8), (bd_r13 h0), Wp_step k29 f29_74 (Wp_step k29 f29_75 ⟨6, (bd_a13 h0), h_2, Wp_step k29 f29_76 (Wp_step k29 f29_77 (Wp_step k29 f29_78 (Wp_step k29 f29_79 ⟨⟨rfl, trivial⟩, h_3⟩)))⟩)⟩))))⟩)⟩))
theorem e29 {X : (Nat → Int) × Nat} {d : Nat} {s : mSt} {Q : mQ} {a0 : Nat} {x1 : Int} {x2 : Int} (h : Wp X d 29 0 [some (mR a0), some (mI x1), some (mI x2), none, none] [] s Q) : Sp X d 29 [mR a0, mI x1, mI x2] s Q := Sp_of (show mCe 29 = 0 by decide +kernel) (by rw [show mML 29 = 5 by decide +kernel]; rfl) (Nat.le_trans (Nat.le_of_ble_eq_true (show Nat.ble (mArgs _).length 5 = true from rfl)) (show 5 ≤ mML 29 by decide +kernel)) h
-- 30 ClashDay$Board.shareOf(II)I
theorem k30 : mRk 30 = 1 := by decide +kernel
theorem f30_0 : mFetch 30 0 = some (.iconst 0, 1, 0, 0, 0, 0) := by decide +kernel
theorem f30_1 : mFetch 30 1 = some (.istore_n 3, 1, 0, 0, 0, 0) := by decide +kernel
theorem f30_2 : mFetch 30 2 = some (.iconst 0, 1, 0, 0, 0, 0) := by decide +kernel
theorem f30_3 : mFetch 30 3 = some (.istore 4, 2, 0, 0, 0, 0) := by decide +kernel
theorem f30_5 : mFetch 30 5 = some (.iload 4, 2, 0, 0, 0, 0) := by decide +kernel
theorem f30_7 : mFetch 30 7 = some (.aload_n 0, 1, 0, 0, 0, 0) := by decide +kernel
theorem f30_8 : mFetch 30 8 = some (.getfield 49, 3, 0, 3, 0, 1) := by decide +kernel
theorem f30_11 : mFetch 30 11 = some (.if_icmp .ge 31, 3, 42, 0, 0, 0) := by decide +kernel
theorem f30_14 : mFetch 30 14 = some (.iload_n 3, 1, 0, 0, 0, 0) := by decide +kernel
theorem f30_15 : mFetch 30 15 = some (.aload_n 0, 1, 0, 0, 0, 0) := by decide +kernel
theorem f30_16 : mFetch 30 16 = some (.iload 4, 2, 0, 0, 0, 0) := by decide +kernel
theorem f30_18 : mFetch 30 18 = some (.invokevirtual 122, 3, 9, 0, 2, 0) := by decide +kernel
theorem f30_21 : mFetch 30 21 = some (.ifCond .eq 12, 3, 33, 0, 0, 0) := by decide +kernel
theorem f30_24 : mFetch 30 24 = some (.aload_n 0, 1, 0, 0, 0, 0) := by decide +kernel
theorem f30_25 : mFetch 30 25 = some (.iload 4, 2, 0, 0, 0, 0) := by decide +kernel
theorem f30_27 : mFetch 30 27 = some (.invokevirtual 125, 3, 15, 0, 2, 0) := by decide +kernel
theorem f30_30 : mFetch 30 30 = some (.goto 4, 3, 34, 0, 0, 0) := by decide +kernel
theorem f30_33 : mFetch 30 33 = some (.iconst 0, 1, 0, 0, 0, 0) := by decide +kernel
theorem f30_34 : mFetch 30 34 = some (.iadd, 1, 0, 0, 0, 0) := by decide +kernel
theorem f30_35 : mFetch 30 35 = some (.istore_n 3, 1, 0, 0, 0, 0) := by decide +kernel
theorem f30_36 : mFetch 30 36 = some (.iinc 4 1, 3, 0, 0, 0, 0) := by decide +kernel
theorem f30_39 : mFetch 30 39 = some (.goto (-34), 3, 5, 0, 0, 0) := by decide +kernel
theorem f30_42 : mFetch 30 42 = some (.iload_n 3, 1, 0, 0, 0, 0) := by decide +kernel
theorem f30_43 : mFetch 30 43 = some (.ifCond .ne 5, 3, 48, 0, 0, 0) := by decide +kernel
theorem f30_46 : mFetch 30 46 = some (.iconst 0, 1, 0, 0, 0, 0) := by decide +kernel
theorem f30_47 : mFetch 30 47 = some (.ireturn, 1, 0, 0, 0, 0) := by decide +kernel
theorem f30_48 : mFetch 30 48 = some (.iload_n 1, 1, 0, 0, 0, 0) := by decide +kernel
theorem f30_49 : mFetch 30 49 = some (.istore 4, 2, 0, 0, 0, 0) := by decide +kernel
theorem f30_51 : mFetch 30 51 = some (.iconst 0, 1, 0, 0, 0, 0) := by decide +kernel
theorem f30_52 : mFetch 30 52 = some (.istore 5, 2, 0, 0, 0, 0) := by decide +kernel
theorem f30_54 : mFetch 30 54 = some (.iload_n 1, 1, 0, 0, 0, 0) := by decide +kernel
theorem f30_55 : mFetch 30 55 = some (.aload_n 0, 1, 0, 0, 0, 0) := by decide +kernel
theorem f30_56 : mFetch 30 56 = some (.iload_n 2, 1, 0, 0, 0, 0) := by decide +kernel
theorem f30_57 : mFetch 30 57 = some (.invokevirtual 125, 3, 15, 0, 2, 0) := by decide +kernel
theorem f30_60 : mFetch 30 60 = some (.imul, 1, 0, 0, 0, 0) := by decide +kernel
theorem f30_61 : mFetch 30 61 = some (.iload_n 3, 1, 0, 0, 0, 0) := by decide +kernel
theorem f30_62 : mFetch 30 62 = some (.irem, 1, 0, 0, 0, 0) := by decide +kernel
theorem f30_63 : mFetch 30 63 = some (.istore 6, 2, 0, 0, 0, 0) := by decide +kernel
theorem f30_65 : mFetch 30 65 = some (.iconst 0, 1, 0, 0, 0, 0) := by decide +kernel
theorem f30_66 : mFetch 30 66 = some (.istore 7, 2, 0, 0, 0, 0) := by decide +kernel
theorem f30_68 : mFetch 30 68 = some (.iload 7, 2, 0, 0, 0, 0) := by decide +kernel
theorem f30_70 : mFetch 30 70 = some (.aload_n 0, 1, 0, 0, 0, 0) := by decide +kernel
theorem f30_71 : mFetch 30 71 = some (.getfield 49, 3, 0, 3, 0, 1) := by decide +kernel
theorem f30_74 : mFetch 30 74 = some (.if_icmp .ge 64, 3, 138, 0, 0, 0) := by decide +kernel
theorem f30_77 : mFetch 30 77 = some (.aload_n 0, 1, 0, 0, 0, 0) := by decide +kernel
theorem f30_78 : mFetch 30 78 = some (.iload 7, 2, 0, 0, 0, 0) := by decide +kernel
theorem f30_80 : mFetch 30 80 = some (.invokevirtual 122, 3, 9, 0, 2, 0) := by decide +kernel
theorem f30_83 : mFetch 30 83 = some (.ifCond .eq 49, 3, 132, 0, 0, 0) := by decide +kernel
theorem f30_86 : mFetch 30 86 = some (.iload_n 1, 1, 0, 0, 0, 0) := by decide +kernel
theorem f30_87 : mFetch 30 87 = some (.aload_n 0, 1, 0, 0, 0, 0) := by decide +kernel
theorem f30_88 : mFetch 30 88 = some (.iload 7, 2, 0, 0, 0, 0) := by decide +kernel
theorem f30_90 : mFetch 30 90 = some (.invokevirtual 125, 3, 15, 0, 2, 0) := by decide +kernel
theorem f30_93 : mFetch 30 93 = some (.imul, 1, 0, 0, 0, 0) := by decide +kernel
theorem f30_94 : mFetch 30 94 = some (.istore 8, 2, 0, 0, 0, 0) := by decide +kernel
theorem f30_96 : mFetch 30 96 = some (.iload 4, 2, 0, 0, 0, 0) := by decide +kernel
theorem f30_98 : mFetch 30 98 = some (.iload 8, 2, 0, 0, 0, 0) := by decide +kernel
theorem f30_100 : mFetch 30 100 = some (.iload_n 3, 1, 0, 0, 0, 0) := by decide +kernel
theorem f30_101 : mFetch 30 101 = some (.idiv, 1, 0, 0, 0, 0) := by decide +kernel
theorem f30_102 : mFetch 30 102 = some (.isub, 1, 0, 0, 0, 0) := by decide +kernel
theorem f30_103 : mFetch 30 103 = some (.istore 4, 2, 0, 0, 0, 0) := by decide +kernel
theorem f30_105 : mFetch 30 105 = some (.iload 8, 2, 0, 0, 0, 0) := by decide +kernel
theorem f30_107 : mFetch 30 107 = some (.iload_n 3, 1, 0, 0, 0, 0) := by decide +kernel
theorem f30_108 : mFetch 30 108 = some (.irem, 1, 0, 0, 0, 0) := by decide +kernel
theorem f30_109 : mFetch 30 109 = some (.iload 6, 2, 0, 0, 0, 0) := by decide +kernel
theorem f30_111 : mFetch 30 111 = some (.if_icmp .gt 18, 3, 129, 0, 0, 0) := by decide +kernel
theorem f30_114 : mFetch 30 114 = some (.iload 8, 2, 0, 0, 0, 0) := by decide +kernel
theorem f30_116 : mFetch 30 116 = some (.iload_n 3, 1, 0, 0, 0, 0) := by decide +kernel
theorem f30_117 : mFetch 30 117 = some (.irem, 1, 0, 0, 0, 0) := by decide +kernel
theorem f30_118 : mFetch 30 118 = some (.iload 6, 2, 0, 0, 0, 0) := by decide +kernel
theorem f30_120 : mFetch 30 120 = some (.if_icmp .ne 12, 3, 132, 0, 0, 0) := by decide +kernel
theorem f30_123 : mFetch 30 123 = some (.iload 7, 2, 0, 0, 0, 0) := by decide +kernel
theorem f30_125 : mFetch 30 125 = some (.iload_n 2, 1, 0, 0, 0, 0) := by decide +kernel
theorem f30_126 : mFetch 30 126 = some (.if_icmp .ge 6, 3, 132, 0, 0, 0) := by decide +kernel
theorem f30_129 : mFetch 30 129 = some (.iinc 5 1, 3, 0, 0, 0, 0) := by decide +kernel
theorem f30_132 : mFetch 30 132 = some (.iinc 7 1, 3, 0, 0, 0, 0) := by decide +kernel
theorem f30_135 : mFetch 30 135 = some (.goto (-67), 3, 68, 0, 0, 0) := by decide +kernel
theorem f30_138 : mFetch 30 138 = some (.iload_n 1, 1, 0, 0, 0, 0) := by decide +kernel
theorem f30_139 : mFetch 30 139 = some (.aload_n 0, 1, 0, 0, 0, 0) := by decide +kernel
theorem f30_140 : mFetch 30 140 = some (.iload_n 2, 1, 0, 0, 0, 0) := by decide +kernel
theorem f30_141 : mFetch 30 141 = some (.invokevirtual 125, 3, 15, 0, 2, 0) := by decide +kernel
theorem f30_144 : mFetch 30 144 = some (.imul, 1, 0, 0, 0, 0) := by decide +kernel
theorem f30_145 : mFetch 30 145 = some (.iload_n 3, 1, 0, 0, 0, 0) := by decide +kernel
theorem f30_146 : mFetch 30 146 = some (.idiv, 1, 0, 0, 0, 0) := by decide +kernel
theorem f30_147 : mFetch 30 147 = some (.iload 5, 2, 0, 0, 0, 0) := by decide +kernel
theorem f30_149 : mFetch 30 149 = some (.iload 4, 2, 0, 0, 0, 0) := by decide +kernel
theorem f30_151 : mFetch 30 151 = some (.if_icmp .ge 7, 3, 158, 0, 0, 0) := by decide +kernel
theorem f30_154 : mFetch 30 154 = some (.iconst 1, 1, 0, 0, 0, 0) := by decide +kernel
theorem f30_155 : mFetch 30 155 = some (.goto 4, 3, 159, 0, 0, 0) := by decide +kernel
theorem f30_158 : mFetch 30 158 = some (.iconst 0, 1, 0, 0, 0, 0) := by decide +kernel
theorem f30_159 : mFetch 30 159 = some (.iadd, 1, 0, 0, 0, 0) := by decide +kernel
theorem f30_160 : mFetch 30 160 = some (.ireturn, 1, 0, 0, 0, 0) := by decide +kernel
theorem b30_0 {X : (Nat → Int) × Nat} {d : Nat} {s : mSt} {Q : mQ} {a0 : Nat} {x1 : Int} {x2 : Int} {l3 : Option mV} {l4 : Option mV} {l5 : Option mV} {l6 : Option mV} {l7 : Option mV} {l8 : Option mV} (h0 : isBd a0) (h_1 : Wp X d 30 5 [some (mR a0), some (mI x1), some (mI x2), some (mI 0), some (mI 0), l5, l6, l7, l8] [] s Q) : Wp X d 30 0 [some (mR a0), some (mI x1), some (mI x2), l3, l4, l5, l6, l7, l8] [] s Q := Wp_step k30 f30_0 (Wp_step k30 f30_1 (Wp_step k30 f30_2 (Wp_step k30 f30_3 (h_1))))
theorem b30_5 {X : (Nat → Int) × Nat} {d : Nat} {s : mSt} {Q : mQ} {a0 : Nat} {x1 : Int} {x2 : Int} {x3 : Int} {x4 : Int} {l5 : Option mV} {l6 : Option mV} {l7 : Option mV} {l8 : Option mV} (h0 : isBd a0) (h_1 : (s a0 3) ≤ x4 → Wp X d 30 42 [some (mR a0), some (mI x1), some (mI x2), some (mI x3), some (mI x4), l5, l6, l7, l8] [] s Q) (h_2 : ¬ (s a0 3) ≤ x4 → Wp X d 30 14 [some (mR a0), some (mI x1), some (mI x2), some (mI x3), some (mI x4), l5, l6, l7, l8] [] s Q) : Wp X d 30 5 [some (mR a0), some (mI x1), some (mI x2), some (mI x3), some (mI x4), l5, l6, l7, l8] [] s Q := Wp_step k30 f30_5 (Wp_step k30 f30_7 (Wp_step k30 f30_8 ⟨(bd_k h0), Wp_step k30 f30_11 ⟨h_1, h_2⟩⟩))
theorem b30_14 {X : (Nat → Int) × Nat} {d : Nat} {s : mSt} {Q : mQ} {a0 : Nat} {x1 : Int} {x2 : Int} {x3 : Int} {x4 : Int} {l5 : Option mV} {l6 : Option mV} {l7 : Option mV} {l8 : Option mV} (h0 : isBd a0) (h_1 : Sp X d 9 [mR a0, mI x4] s (fun r s' => ∃ v : Int, r = some (mI v) ∧ Wp X (d + 1) 30 21 [some (mR a0), some (mI x1), some (mI x2), some (mI x3), some (mI x4), l5, l6, l7, l8] [mI v, mI x3] s' Q)) : Wp X (d + 1) 30 14 [some (mR a0), some (mI x1), some (mI x2), some (mI x3), some (mI x4), l5, l6, l7, l8] [] s Q := Wp_step k30 f30_14 (Wp_step k30 f30_15 (Wp_step k30 f30_16 (Wp_step k30 f30_18 ⟨⟨(bd_k h0), Nat.le_of_ble_eq_true rfl⟩, Nat.le_refl _, _, rfl, Sp_E h_1⟩)))
theorem b30_21 {X : (Nat → Int) × Nat} {d : Nat} {s : mSt} {Q : mQ} {a0 : Nat} {x1 : Int} {x2 : Int} {x3 : Int} {x4 : Int} {l5 : Option mV} {l6 : Option mV} {l7 : Option mV} {l8 : Option mV} {xt0 : Int} {xt1 : Int} (h0 : isBd a0) (h_1 : xt1 = 0 → Wp X d 30 33 [some (mR a0), some (mI x1), some (mI x2), some (mI x3), some (mI x4), l5, l6, l7, l8] [mI xt0] s Q) (h_2 : ¬ xt1 = 0 → Wp X d 30 24 [some (mR a0), some (mI x1), some (mI x2), some (mI x3), some (mI x4), l5, l6, l7, l8] [mI xt0] s Q) : Wp X d 30 21 [some (mR a0), some (mI x1), some (mI x2), some (mI x3), some (mI x4), l5, l6, l7, l8] [mI xt1, mI xt0] s Q := Wp_step k30 f30_21 ⟨h_1, h_2⟩
theorem b30_24 {X : (Nat → Int) × Nat} {d : Nat} {s : mSt} {Q : mQ} {a0 : Nat} {x1 : Int} {x2 : Int} {x3 : Int} {x4 : Int} {l5 : Option mV} {l6 : Option mV} {l7 : Option mV} {l8 : Option mV} {xt0 : Int} (h0 : isBd a0) (h_1 : Sp X d 15 [mR a0, mI x4] s (fun r s' => ∃ v : Int, r = some (mI v) ∧ Wp X (d + 1) 30 30 [some (mR a0), some (mI x1), some (mI x2), some (mI x3), some (mI x4), l5, l6, l7, l8] [mI v, mI xt0] s' Q)) : Wp X (d + 1) 30 24 [some (mR a0), some (mI x1), some (mI x2), some (mI x3), some (mI x4), l5, l6, l7, l8] [mI xt0] s Q := Wp_step k30 f30_24 (Wp_step k30 f30_25 (Wp_step k30 f30_27 ⟨⟨(bd_k h0), Nat.le_of_ble_eq_true rfl⟩, Nat.le_refl _, _, rfl, Sp_E h_1⟩))
theorem b30_30 {X : (Nat → Int) × Nat} {d : Nat} {s : mSt} {Q : mQ} {a0 : Nat} {x1 : Int} {x2 : Int} {x3 : Int} {x4 : Int} {l5 : Option mV} {l6 : Option mV} {l7 : Option mV} {l8 : Option mV} {xt0 : Int} {xt1 : Int} (h0 : isBd a0) (h_1 : Wp X d 30 34 [some (mR a0), some (mI x1), some (mI x2), some (mI x3), some (mI x4), l5, l6, l7, l8] [mI xt1, mI xt0] s Q) : Wp X d 30 30 [some (mR a0), some (mI x1), some (mI x2), some (mI x3), some (mI x4), l5, l6, l7, l8] [mI xt1, mI xt0] s Q := Wp_step k30 f30_30 (h_1)
theorem b30_33 {X : (Nat → Int) × Nat} {d : Nat} {s : mSt} {Q : mQ} {a0 : Nat} {x1 : Int} {x2 : Int} {x3 : Int} {x4 : Int} {l5 : Option mV} {l6 : Option mV} {l7 : Option mV} {l8 : Option mV} {xt0 : Int} (h0 : isBd a0) (h_1 : Wp X d 30 34 [some (mR a0), some (mI x1), some (mI x2), some (mI x3), some (mI x4), l5, l6, l7, l8] [mI 0, mI xt0] s Q) : Wp X d 30 33 [some (mR a0), some (mI x1), some (mI x2), some (mI x3), some (mI x4), l5, l6, l7, l8] [mI xt0] s Q := Wp_step k30 f30_33 (h_1)
theorem b30_34 {X : (Nat → Int) × Nat} {d : Nat} {s : mSt} {Q : mQ} {a0 : Nat} {x1 : Int} {x2 : Int} {x3 : Int} {x4 : Int} {l5 : Option mV} {l6 : Option mV} {l7 : Option mV} {l8 : Option mV} {xt0 : Int} {xt1 : Int} (h0 : isBd a0) (h_1 : Wp X d 30 5 [some (mR a0), some (mI x1), some (mI x2), some (mI (w32 (xt0 + xt1))), some (mI (w32 (x4 + 1))), l5, l6, l7, l8] [] s Q) : Wp X d 30 34 [some (mR a0), some (mI x1), some (mI x2), some (mI x3), some (mI x4), l5, l6, l7, l8] [mI xt1, mI xt0] s Q := Wp_step k30 f30_34 (Wp_step k30 f30_35 (Wp_step k30 f30_36 (Wp_step k30 f30_39 (h_1))))
theorem b30_42 {X : (Nat → Int) × Nat} {d : Nat} {s : mSt} {Q : mQ} {a0 : Nat} {x1 : Int} {x2 : Int} {x3 : Int} {x4 : Int} {l5 : Option mV} {l6 : Option mV} {l7 : Option mV} {l8 : Option mV} (h0 : isBd a0) (h_1 : ¬ x3 = 0 → Wp X d 30 48 [some (mR a0), some (mI x1), some (mI x2), some (mI x3), some (mI x4), l5, l6, l7, l8] [] s Q) (h_2 : x3 = 0 → Wp X d 30 46 [some (mR a0), some (mI x1), some (mI x2), some (mI x3), some (mI x4), l5, l6, l7, l8] [] s Q) : Wp X d 30 42 [some (mR a0), some (mI x1), some (mI x2), some (mI x3), some (mI x4), l5, l6, l7, l8] [] s Q := Wp_step k30 f30_42 (Wp_step k30 f30_43 ⟨h_1, h_2⟩)
theorem b30_46 {X : (Nat → Int) × Nat} {d : Nat} {s : mSt} {Q : mQ} {a0 : Nat} {x1 : Int} {x2 : Int} {x3 : Int} {x4 : Int} {l5 : Option mV} {l6 : Option mV} {l7 : Option mV} {l8 : Option mV} (h0 : isBd a0) (h_1 : Q (some (mI 0)) s) : Wp X d 30 46 [some (mR a0), some (mI x1), some (mI x2), some (mI x3), some (mI x4), l5, l6, l7, l8] [] s Q := Wp_step k30 f30_46 (Wp_step k30 f30_47 ⟨⟨rfl, trivial⟩, h_1⟩)
theorem b30_48 {X : (Nat → Int) × Nat} {d : Nat} {s : mSt} {Q : mQ} {a0 : Nat} {x1 : Int} {x2 : Int} {x3 : Int} {x4 : Int} {l5 : Option mV} {l6 : Option mV} {l7 : Option mV} {l8 : Option mV} (h0 : isBd a0) (h_1 : Sp X d 15 [mR a0, mI x2] s (fun r s' => ∃ v : Int, r = some (mI v) ∧ Wp X (d + 1) 30 60 [some (mR a0), some (mI x1), some (mI x2), some (mI x3), some (mI x1), some (mI 0), l6, l7, l8] [mI v, mI x1] s' Q)) : Wp X (d + 1) 30 48 [some (mR a0), some (mI x1), some (mI x2), some (mI x3), some (mI x4), l5, l6, l7, l8] [] s Q := Wp_step k30 f30_48 (Wp_step k30 f30_49 (Wp_step k30 f30_51 (Wp_step k30 f30_52 (Wp_step k30 f30_54 (Wp_step k30 f30_55 (Wp_step k30 f30_56 (Wp_step k30 f30_57 ⟨⟨(bd_k h0), Nat.le_of_ble_eq_true rfl⟩, Nat.le_refl _, _, rfl, Sp_E h_1⟩)))))))
theorem b30_60 {X : (Nat → Int) × Nat} {d : Nat} {s : mSt} {Q : mQ} {a0 : Nat} {x1 : Int} {x2 : Int} {x3 : Int} {x4 : Int} {x5 : Int} {l6 : Option mV} {l7 : Option mV} {l8 : Option mV} {xt0 : Int} {xt1 : Int} (h0 : isBd a0) (h_1 : x3 ≠ 0) (h_2 : Wp X d 30 68 [some (mR a0), some (mI x1), some (mI x2), some (mI x3), some (mI x4), some (mI x5), some (mI (Int.tmod (w32 (xt0 * xt1)) x3)), some (mI 0), l8] [] s Q) : Wp X d 30 60 [some (mR a0), some (mI x1), some (mI x2), some (mI x3), some (mI x4), some (mI x5), l6, l7, l8] [mI xt1, mI xt0] s Q := Wp_step k30 f30_60 (Wp_step k30 f30_61 (Wp_step k30 f30_62 ⟨h_1, Wp_step k30 f30_63 (Wp_step k30 f30_65 (Wp_step k30 f30_66 (h_2)))⟩))
theorem b30_68 {X : (Nat → Int) × Nat} {d : Nat} {s : mSt} {Q : mQ} {a0 : Nat} {x1 : Int} {x2 : Int} {x3 : Int} {x4 : Int} {x5 : Int} {x6 : Int} {x7 : Int} {l8 : Option mV} (h0 : isBd a0) (h_1 : (s a0 3) ≤ x7 → Wp X d 30 138 [some (mR a0), some (mI x1), some (mI x2), some (mI x3), some (mI x4), some (mI x5), some (mI x6), some (mI x7), l8] [] s Q) (h_2 : ¬ (s a0 3) ≤ x7 → Wp X d 30 77 [some (mR a0), some (mI x1), some (mI x2), some (mI x3), some (mI x4), some (mI x5), some (mI x6), some (mI x7), l8] [] s Q) : Wp X d 30 68 [some (mR a0), some (mI x1), some (mI x2), some (mI x3), some (mI x4), some (mI x5), some (mI x6), some (mI x7), l8] [] s Q := Wp_step k30 f30_68 (Wp_step k30 f30_70 (Wp_step k30 f30_71 ⟨(bd_k h0), Wp_step k30 f30_74 ⟨h_1, h_2⟩⟩))
theorem b30_77 {X : (Nat → Int) × Nat} {d : Nat} {s : mSt} {Q : mQ} {a0 : Nat} {x1 : Int} {x2 : Int} {x3 : Int} {x4 : Int} {x5 : Int} {x6 : Int} {x7 : Int} {l8 : Option mV} (h0 : isBd a0) (h_1 : Sp X d 9 [mR a0, mI x7] s (fun r s' => ∃ v : Int, r = some (mI v) ∧ Wp X (d + 1) 30 83 [some (mR a0), some (mI x1), some (mI x2), some (mI x3), some (mI x4), some (mI x5), some (mI x6), some (mI x7), l8] [mI v] s' Q)) : Wp X (d + 1) 30 77 [some (mR a0), some (mI x1), some (mI x2), some (mI x3), some (mI x4), some (mI x5), some (mI x6), some (mI x7), l8] [] s Q := Wp_step k30 f30_77 (Wp_step k30 f30_78 (Wp_step k30 f30_80 ⟨⟨(bd_k h0), Nat.le_of_ble_eq_true rfl⟩, Nat.le_refl _, _, rfl, Sp_E h_1⟩))
theorem b30_83 {X : (Nat → Int) × Nat} {d : Nat} {s : mSt} {Q : mQ} {a0 : Nat} {x1 : Int} {x2 : Int} {x3 : Int} {x4 : Int} {x5 : Int} {x6 : Int} {x7 : Int} {l8 : Option mV} {xt0 : Int} (h0 : isBd a0) (h_1 : xt0 = 0 → Wp X d 30 132 [some (mR a0), some (mI x1), some (mI x2), some (mI x3), some (mI x4), some (mI x5), some (mI x6), some (mI x7), l8] [] s Q) (h_2 : ¬ xt0 = 0 → Wp X d 30 86 [some (mR a0), some (mI x1), some (mI x2), some (mI x3), some (mI x4), some (mI x5), some (mI x6), some (mI x7), l8] [] s Q) : Wp X d 30 83 [some (mR a0), some (mI x1), some (mI x2), some (mI x3), some (mI x4), some (mI x5), some (mI x6), some (mI x7), l8] [mI xt0] s Q := Wp_step k30 f30_83 ⟨h_1, h_2⟩
theorem b30_86 {X : (Nat → Int) × Nat} {d : Nat} {s : mSt} {Q : mQ} {a0 : Nat} {x1 : Int} {x2 : Int} {x3 : Int} {x4 : Int} {x5 : Int} {x6 : Int} {x7 : Int} {l8 : Option mV} (h0 : isBd a0) (h_1 : Sp X d 15 [mR a0, mI x7] s (fun r s' => ∃ v : Int, r = some (mI v) ∧ Wp X (d + 1) 30 93 [some (mR a0), some (mI x1), some (mI x2), some (mI x3), some (mI x4), some (mI x5), some (mI x6), some (mI x7), l8] [mI v, mI x1] s' Q)) : Wp X (d + 1) 30 86 [some (mR a0), some (mI x1), some (mI x2), some (mI x3), some (mI x4), some (mI x5), some (mI x6), some (mI x7), l8] [] s Q := Wp_step k30 f30_86 (Wp_step k30 f30_87 (Wp_step k30 f30_88 (Wp_step k30 f30_90 ⟨⟨(bd_k h0), Nat.le_of_ble_eq_true rfl⟩, Nat.le_refl _, _, rfl, Sp_E h_1⟩)))
theorem b30_93 {X : (Nat → Int) × Nat} {d : Nat} {s : mSt} {Q : mQ} {a0 : Nat} {x1 : Int} {x2 : Int} {x3 : Int} {x4 : Int} {x5 : Int} {x6 : Int} {x7 : Int} {l8 : Option mV} {xt0 : Int} {xt1 : Int} (h0 : isBd a0) (h_1 : x3 ≠ 0) (h_2 : x3 ≠ 0) (h_3 : x6 < (Int.tmod (w32 (xt0 * xt1)) x3) → Wp X d 30 129 [some (mR a0), some (mI x1), some (mI x2), some (mI x3), some (mI (w32 (x4 - (w32 (Int.tdiv (w32 (xt0 * xt1)) x3))))), some (mI x5), some (mI x6), some (mI x7), some (mI (w32 (xt0 * xt1)))] [] s Q) (h_4 : ¬ x6 < (Int.tmod (w32 (xt0 * xt1)) x3) → Wp X d 30 114 [some (mR a0), some (mI x1), some (mI x2), some (mI x3), some (mI (w32 (x4 - (w32 (Int.tdiv (w32 (xt0 * xt1)) x3))))), some (mI x5), some (mI x6), some (mI x7), some (mI (w32 (xt0 * xt1)))] [] s Q) : Wp X d 30 93 [some (mR a0), some (mI x1), some (mI x2), some (mI x3), some (mI x4), some (mI x5), some (mI x6), some (mI x7), l8] [mI xt1, mI xt0] s Q := Wp_step k30 f30_93 (Wp_step k30 f30_94 (Wp_step k30 f30_96 (Wp_step k30 f30_98 (Wp_step k30 f30_100 (Wp_step k30 f30_101 ⟨h_1, Wp_step k30 f30_102 (Wp_step k30 f30_103 (Wp_step k30 f30_105 (Wp_step k30 f30_107 (Wp_step k30 f30_108 ⟨h_2, Wp_step k30 f30_109 (Wp_step k30 f30_111 ⟨h_3, h_4⟩)⟩))))⟩)))))
theorem b30_114 {X : (Nat → Int) × Nat} {d : Nat} {s : mSt} {Q : mQ} {a0 : Nat} {x1 : Int} {x2 : Int} {x3 : Int} {x4 : Int} {x5 : Int} {x6 : Int} {x7 : Int} {x8 : Int} (h0 : isBd a0) (h_1 : x3 ≠ 0) (h_2 : ¬ (Int.tmod x8 x3) = x6 → Wp X d 30 132 [some (mR a0), some (mI x1), some (mI x2), some (mI x3), some (mI x4), some (mI x5), some (mI x6), some (mI x7), some (mI x8)] [] s Q) (h_3 : (Int.tmod x8 x3) = x6 → Wp X d 30 123 [some (mR a0), some (mI x1), some (mI x2), some (mI x3), some (mI x4), some (mI x5), some (mI x6), some (mI x7), some (mI x8)] [] s Q) : Wp X d 30 114 [some (mR a0), some (mI x1), some (mI x2), some (mI x3), some (mI x4), some (mI x5), some (mI x6), some (mI x7), some (mI x8)] [] s Q := Wp_step k30 f30_114 (Wp_step k30 f30_116 (Wp_step k30 f30_117 ⟨h_1, Wp_step k30 f30_118 (Wp_step k30 f30_120 ⟨h_2, h_3⟩)⟩))
theorem b30_123 {X : (Nat → Int) × Nat} {d : Nat} {s : mSt} {Q : mQ} {a0 : Nat} {x1 : Int} {x2 : Int} {x3 : Int} {x4 : Int} {x5 : Int} {x6 : Int} {x7 : Int} {x8 : Int} (h0 : isBd a0) (h_1 : x2 ≤ x7 → Wp X d 30 132 [some (mR a0), some (mI x1), some (mI x2), some (mI x3), some (mI x4), some (mI x5), some (mI x6), some (mI x7), some (mI x8)] [] s Q) (h_2 : ¬ x2 ≤ x7 → Wp X d 30 129 [some (mR a0), some (mI x1), some (mI x2), some (mI x3), some (mI x4), some (mI x5), some (mI x6), some (mI x7), some (mI x8)] [] s Q) : Wp X d 30 123 [some (mR a0), some (mI x1), some (mI x2), some (mI x3), some (mI x4), some (mI x5), some (mI x6), some (mI x7), some (mI x8)] [] s Q := Wp_step k30 f30_123 (Wp_step k30 f30_125 (Wp_step k30 f30_126 ⟨h_1, h_2⟩))
theorem b30_129 {X : (Nat → Int) × Nat} {d : Nat} {s : mSt} {Q : mQ} {a0 : Nat} {x1 : Int} {x2 : Int} {x3 : Int} {x4 : Int} {x5 : Int} {x6 : Int} {x7 : Int} {x8 : Int} (h0 : isBd a0) (h_1 : Wp X d 30 132 [some (mR a0), some (mI x1), some (mI x2), some (mI x3), some (mI x4), some (mI (w32 (x5 + 1))), some (mI x6), some (mI x7), some (mI x8)] [] s Q) : Wp X d 30 129 [some (mR a0), some (mI x1), some (mI x2), some (mI x3), some (mI x4), some (mI x5), some (mI x6), some (mI x7), some (mI x8)] [] s Q := Wp_step k30 f30_129 (h_1)
theorem b30_132 {X : (Nat → Int) × Nat} {d : Nat} {s : mSt} {Q : mQ} {a0 : Nat} {x1 : Int} {x2 : Int} {x3 : Int} {x4 : Int} {x5 : Int} {x6 : Int} {x7 : Int} {l8 : Option mV} (h0 : isBd a0) (h_1 : Wp X d 30 68 [some (mR a0), some (mI x1), some (mI x2), some (mI x3), some (mI x4), some (mI x5), some (mI x6), some (mI (w32 (x7 + 1))), l8] [] s Q) : Wp X d 30 132 [some (mR a0), some (mI x1), some (mI x2), some (mI x3), some (mI x4), some (mI x5), some (mI x6), some (mI x7), l8] [] s Q := Wp_step k30 f30_132 (Wp_step k30 f30_135 (h_1))
theorem b30_138 {X : (Nat → Int) × Nat} {d : Nat} {s : mSt} {Q : mQ} {a0 : Nat} {x1 : Int} {x2 : Int} {x3 : Int} {x4 : Int} {x5 : Int} {x6 : Int} {x7 : Int} {l8 : Option mV} (h0 : isBd a0) (h_1 : Sp X d 15 [mR a0, mI x2] s (fun r s' => ∃ v : Int, r = some (mI v) ∧ Wp X (d + 1) 30 144 [some (mR a0), some (mI x1), some (mI x2), some (mI x3), some (mI x4), some (mI x5), some (mI x6), some (mI x7), l8] [mI v, mI x1] s' Q)) : Wp X (d + 1) 30 138 [some (mR a0), some (mI x1), some (mI x2), some (mI x3), some (mI x4), some (mI x5), some (mI x6), some (mI x7), l8] [] s Q := Wp_step k30 f30_138 (Wp_step k30 f30_139 (Wp_step k30 f30_140 (Wp_step k30 f30_141 ⟨⟨(bd_k h0), Nat.le_of_ble_eq_true rfl⟩, Nat.le_refl _, _, rfl, Sp_E h_1⟩)))
theorem b30_144 {X : (Nat → Int) × Nat} {d : Nat} {s : mSt} {Q : mQ} {a0 : Nat} {x1 : Int} {x2 : Int} {x3 : Int} {x4 : Int} {x5 : Int} {x6 : Int} {x7 : Int} {l8 : Option mV} {xt0 : Int} {xt1 : Int} (h0 : isBd a0) (h_1 : x3 ≠ 0) (h_2 : x4 ≤ x5 → Wp X d 30 158 [some (mR a0), some (mI x1), some (mI x2), some (mI x3), some (mI x4), some (mI x5), some (mI x6), some (mI x7), l8] [mI (w32 (Int.tdiv (w32 (xt0 * xt1)) x3))] s Q) (h_3 : ¬ x4 ≤ x5 → Wp X d 30 154 [some (mR a0), some (mI x1), some (mI x2), some (mI x3), some (mI x4), some (mI x5), some (mI x6), some (mI x7), l8] [mI (w32 (Int.tdiv (w32 (xt0 * xt1)) x3))] s Q) : Wp X d 30 144 [some (mR a0), some (mI x1), some (mI x2), some (mI x3), some (mI x4), some (mI x5), some (mI x6), some (mI x7), l8] [mI xt1, mI xt0] s Q := Wp_step k30 f30_144 (Wp_step k30 f30_145 (Wp_step k30 f30_146 ⟨h_1, Wp_step k30 f30_147 (Wp_step k30 f30_149 (Wp_step k30 f30_151 ⟨h_2, h_3⟩))⟩))
theorem b30_154 {X : (Nat → Int) × Nat} {d : Nat} {s : mSt} {Q : mQ} {a0 : Nat} {x1 : Int} {x2 : Int} {x3 : Int} {x4 : Int} {x5 : Int} {x6 : Int} {x7 : Int} {l8 : Option mV} {xt0 : Int} (h0 : isBd a0) (h_1 : Wp X d 30 159 [some (mR a0), some (mI x1), some (mI x2), some (mI x3), some (mI x4), some (mI x5), some (mI x6), some (mI x7), l8] [mI 1, mI xt0] s Q) : Wp X d 30 154 [some (mR a0), some (mI x1), some (mI x2), some (mI x3), some (mI x4), some (mI x5), some (mI x6), some (mI x7), l8] [mI xt0] s Q := Wp_step k30 f30_154 (Wp_step k30 f30_155 (h_1))
theorem b30_158 {X : (Nat → Int) × Nat} {d : Nat} {s : mSt} {Q : mQ} {a0 : Nat} {x1 : Int} {x2 : Int} {x3 : Int} {x4 : Int} {x5 : Int} {x6 : Int} {x7 : Int} {l8 : Option mV} {xt0 : Int} (h0 : isBd a0) (h_1 : Wp X d 30 159 [some (mR a0), some (mI x1), some (mI x2), some (mI x3), some (mI x4), some (mI x5), some (mI x6), some (mI x7), l8] [mI 0, mI xt0] s Q) : Wp X d 30 158 [some (mR a0), some (mI x1), some (mI x2), some (mI x3), some (mI x4), some (mI x5), some (mI x6), some (mI x7), l8] [mI xt0] s Q := Wp_step k30 f30_158 (h_1)
theorem b30_159 {X : (Nat → Int) × Nat} {d : Nat} {s : mSt} {Q : mQ} {a0 : Nat} {x1 : Int} {x2 : Int} {x3 : Int} {x4 : Int} {x5 : Int} {x6 : Int} {x7 : Int} {l8 : Option mV} {xt0 : Int} {xt1 : Int} (h0 : isBd a0) (h_1 : Q (some (mI (w32 (xt0 + xt1)))) s) : Wp X d 30 159 [some (mR a0), some (mI x1), some (mI x2), some (mI x3), some (mI x4), some (mI x5), some (mI x6), some (mI x7), l8] [mI xt1, mI xt0] s Q := Wp_step k30 f30_159 (Wp_step k30 f30_160 ⟨⟨rfl, trivial⟩, h_1⟩)
theorem e30 {X : (Nat → Int) × Nat} {d : Nat} {s : mSt} {Q : mQ} {a0 : Nat} {x1 : Int} {x2 : Int} (h : Wp X d 30 0 [some (mR a0), some (mI x1), some (mI x2), none, none, none, none, none, none] [] s Q) : Sp X d 30 [mR a0, mI x1, mI x2] s Q := Sp_of (show mCe 30 = 0 by decide +kernel) (by rw [show mML 30 = 9 by decide +kernel]; rfl) (Nat.le_trans (Nat.le_of_ble_eq_true (show Nat.ble (mArgs _).length 9 = true from rfl)) (show 9 ≤ mML 30 by decide +kernel)) h
-- 31 ClashDay$Board.from(I)I
theorem k31 : mRk 31 = 1 := by decide +kernel
theorem f31_0 : mFetch 31 0 = some (.ldc 128, 2, 1073741823, 0, 0, 0) := by decide +kernel
theorem f31_2 : mFetch 31 2 = some (.iconst (-1), 1, 0, 0, 0, 0) := by decide +kernel
theorem f31_3 : mFetch 31 3 = some (.iload_n 0, 1, 0, 0, 0, 0) := by decide +kernel
theorem f31_4 : mFetch 31 4 = some (.bipush 30, 2, 0, 0, 0, 0) := by decide +kernel
theorem f31_6 : mFetch 31 6 = some (.invokestatic 103, 3, (-6), 0, 0, 0) := by decide +kernel
theorem f31_9 : mFetch 31 9 = some (.ishl, 1, 0, 0, 0, 0) := by decide +kernel
theorem f31_10 : mFetch 31 10 = some (.iand, 1, 0, 0, 0, 0) := by decide +kernel
theorem f31_11 : mFetch 31 11 = some (.ireturn, 1, 0, 0, 0, 0) := by decide +kernel
theorem b31_0 {X : (Nat → Int) × Nat} {d : Nat} {s : mSt} {Q : mQ} {x0 : Int} (h_1 : Q (some (mI (iAnd 1073741823 (iShl (-1) (iMin x0 30))))) s) : Wp X (d + 1) 31 0 [some (mI x0)] [] s Q := Wp_step k31 f31_0 (Wp_step k31 f31_2 (Wp_step k31 f31_3 (Wp_step k31 f31_4 (Wp_step k31 f31_6 ⟨⟨Nat.succ_pos _, Nat.le_of_ble_eq_true rfl⟩, Wp_step k31 f31_9 (Wp_step k31 f31_10 (Wp_step k31 f31_11 ⟨⟨rfl, trivial⟩, h_1⟩))⟩))))
theorem e31 {X : (Nat → Int) × Nat} {d : Nat} {s : mSt} {Q : mQ} {x0 : Int} (h : Wp X d 31 0 [some (mI x0)] [] s Q) : Sp X d 31 [mI x0] s Q := Sp_of (show mCe 31 = 0 by decide +kernel) (by rw [show mML 31 = 1 by decide +kernel]; rfl) (Nat.le_trans (Nat.le_of_ble_eq_true (show Nat.ble (mArgs _).length 1 = true from rfl)) (show 1 ≤ mML 31 by decide +kernel)) h
-- 32 ClashDay$Board.span(II)I
theorem k32 : mRk 32 = 1 := by decide +kernel
theorem f32_0 : mFetch 32 0 = some (.ldc 128, 2, 1073741823, 0, 0, 0) := by decide +kernel
theorem f32_2 : mFetch 32 2 = some (.iconst (-1), 1, 0, 0, 0, 0) := by decide +kernel
theorem f32_3 : mFetch 32 3 = some (.iload_n 0, 1, 0, 0, 0, 0) := by decide +kernel
theorem f32_4 : mFetch 32 4 = some (.bipush 30, 2, 0, 0, 0, 0) := by decide +kernel
theorem f32_6 : mFetch 32 6 = some (.invokestatic 103, 3, (-6), 0, 0, 0) := by decide +kernel
theorem f32_9 : mFetch 32 9 = some (.ishl, 1, 0, 0, 0, 0) := by decide +kernel
theorem f32_10 : mFetch 32 10 = some (.iand, 1, 0, 0, 0, 0) := by decide +kernel
theorem f32_11 : mFetch 32 11 = some (.iconst (-1), 1, 0, 0, 0, 0) := by decide +kernel
theorem f32_12 : mFetch 32 12 = some (.iload_n 1, 1, 0, 0, 0, 0) := by decide +kernel
theorem f32_13 : mFetch 32 13 = some (.bipush 30, 2, 0, 0, 0, 0) := by decide +kernel
theorem f32_15 : mFetch 32 15 = some (.invokestatic 103, 3, (-6), 0, 0, 0) := by decide +kernel
theorem f32_18 : mFetch 32 18 = some (.ishl, 1, 0, 0, 0, 0) := by decide +kernel
theorem f32_19 : mFetch 32 19 = some (.iconst (-1), 1, 0, 0, 0, 0) := by decide +kernel
theorem f32_20 : mFetch 32 20 = some (.ixor, 1, 0, 0, 0, 0) := by decide +kernel
theorem f32_21 : mFetch 32 21 = some (.iand, 1, 0, 0, 0, 0) := by decide +kernel
theorem f32_22 : mFetch 32 22 = some (.ireturn, 1, 0, 0, 0, 0) := by decide +kernel
theorem b32_0 {X : (Nat → Int) × Nat} {d : Nat} {s : mSt} {Q : mQ} {x0 : Int} {x1 : Int} (h_1 : Q (some (mI (iAnd (iAnd 1073741823 (iShl (-1) (iMin x0 30))) (iXor (iShl (-1) (iMin x1 30)) (-1))))) s) : Wp X (d + 1) 32 0 [some (mI x0), some (mI x1)] [] s Q := Wp_step k32 f32_0 (Wp_step k32 f32_2 (Wp_step k32 f32_3 (Wp_step k32 f32_4 (Wp_step k32 f32_6 ⟨⟨Nat.succ_pos _, Nat.le_of_ble_eq_true rfl⟩, Wp_step k32 f32_9 (Wp_step k32 f32_10 (Wp_step k32 f32_11 (Wp_step k32 f32_12 (Wp_step k32 f32_13 (Wp_step k32 f32_15 ⟨⟨Nat.succ_pos _, Nat.le_of_ble_eq_true rfl⟩, Wp_step k32 f32_18 (Wp_step k32 f32_19 (Wp_step k32 f32_20 (Wp_step k32 f32_21 (Wp_step k32 f32_22 ⟨⟨rfl, trivial⟩, h_1⟩))))⟩)))))⟩))))
theorem e32 {X : (Nat → Int) × Nat} {d : Nat} {s : mSt} {Q : mQ} {x0 : Int} {x1 : Int} (h : Wp X d 32 0 [some (mI x0), some (mI x1)] [] s Q) : Sp X d 32 [mI x0, mI x1] s Q := Sp_of (show mCe 32 = 0 by decide +kernel) (by rw [show mML 32 = 2 by decide +kernel]; rfl) (Nat.le_trans (Nat.le_of_ble_eq_true (show Nat.ble (mArgs _).length 2 = true from rfl)) (show 2 ≤ mML 32 by decide +kernel)) h
-- 34 ClashDay$DayReader.read(LClashDay$Board;)I
theorem k34 : mRk 34 = 1 := by decide +kernel
theorem f34_0 : mFetch 34 0 = some (.aload_n 0, 1, 0, 0, 0, 0) := by decide +kernel
theorem f34_1 : mFetch 34 1 = some (.getfield 15, 3, 1, 0, 2, 1) := by decide +kernel
theorem f34_4 : mFetch 34 4 = some (.invokevirtual 19, 3, 89, 0, 1, 8) := by decide +kernel
theorem f34_7 : mFetch 34 7 = some (.aload_n 1, 1, 0, 0, 0, 0) := by decide +kernel
theorem f34_8 : mFetch 34 8 = some (.invokevirtual 24, 3, 2, 0, 1, 0) := by decide +kernel
theorem f34_11 : mFetch 34 11 = some (.iconst 0, 1, 0, 0, 0, 0) := by decide +kernel
theorem f34_12 : mFetch 34 12 = some (.istore_n 2, 1, 0, 0, 0, 0) := by decide +kernel
theorem f34_13 : mFetch 34 13 = some (.iload_n 2, 1, 0, 0, 0, 0) := by decide +kernel
theorem f34_14 : mFetch 34 14 = some (.bipush 40, 2, 0, 0, 0, 0) := by decide +kernel
theorem f34_16 : mFetch 34 16 = some (.if_icmp .gt 31, 3, 47, 0, 0, 0) := by decide +kernel
theorem f34_19 : mFetch 34 19 = some (.aload_n 0, 1, 0, 0, 0, 0) := by decide +kernel
theorem f34_20 : mFetch 34 20 = some (.aload_n 1, 1, 0, 0, 0, 0) := by decide +kernel
theorem f34_21 : mFetch 34 21 = some (.iload_n 2, 1, 0, 0, 0, 0) := by decide +kernel
theorem f34_22 : mFetch 34 22 = some (.invokevirtual 29, 3, 35, 0, 3, 1) := by decide +kernel
theorem f34_25 : mFetch 34 25 = some (.ifCond .eq 22, 3, 47, 0, 0, 0) := by decide +kernel
theorem f34_28 : mFetch 34 28 = some (.aload_n 0, 1, 0, 0, 0, 0) := by decide +kernel
theorem f34_29 : mFetch 34 29 = some (.getfield 15, 3, 1, 0, 2, 1) := by decide +kernel
theorem f34_32 : mFetch 34 32 = some (.invokevirtual 33, 3, 93, 0, 1, 8) := by decide +kernel
theorem f34_35 : mFetch 34 35 = some (.ifCond .ne 6, 3, 41, 0, 0, 0) := by decide +kernel
theorem f34_38 : mFetch 34 38 = some (.goto 9, 3, 47, 0, 0, 0) := by decide +kernel
theorem f34_41 : mFetch 34 41 = some (.iinc 2 1, 3, 0, 0, 0, 0) := by decide +kernel
theorem f34_44 : mFetch 34 44 = some (.goto (-31), 3, 13, 0, 0, 0) := by decide +kernel
theorem f34_47 : mFetch 34 47 = some (.aload_n 0, 1, 0, 0, 0, 0) := by decide +kernel
theorem f34_48 : mFetch 34 48 = some (.getfield 15, 3, 1, 0, 2, 1) := by decide +kernel
theorem f34_51 : mFetch 34 51 = some (.getfield 37, 3, 8, 6, 0, 0) := by decide +kernel
theorem f34_54 : mFetch 34 54 = some (.ireturn, 1, 0, 0, 0, 0) := by decide +kernel
theorem b34_0 {X : (Nat → Int) × Nat} {d : Nat} {s : mSt} {Q : mQ} {a1 : Nat} {l2 : Option mV} (h1 : isBd a1) (h_1 : Sp X d 89 [mR 1] s (fun r s' => r = none ∧ Wp X (d + 1) 34 7 [some (mR 3), some (mR a1), l2] [] s' Q)) : Wp X (d + 1) 34 0 [some (mR 3), some (mR a1), l2] [] s Q := Wp_step k34 f34_0 (Wp_step k34 f34_1 ⟨kf_3, 1, rf_3_0, Wp_step k34 f34_4 ⟨⟨kf_1, Nat.le_of_ble_eq_true rfl⟩, Nat.le_refl _, _, rfl, Sp_V h_1⟩⟩)
theorem b34_7 {X : (Nat → Int) × Nat} {d : Nat} {s : mSt} {Q : mQ} {a1 : Nat} {l2 : Option mV} (h1 : isBd a1) (h_1 : Sp X d 2 [mR a1] s (fun r s' => r = none ∧ Wp X (d + 1) 34 11 [some (mR 3), some (mR a1), l2] [] s' Q)) : Wp X (d + 1) 34 7 [some (mR 3), some (mR a1), l2] [] s Q := Wp_step k34 f34_7 (Wp_step k34 f34_8 ⟨⟨(bd_k h1), Nat.le_of_ble_eq_true rfl⟩, Nat.le_refl _, _, rfl, Sp_V h_1⟩)
theorem b34_11 {X : (Nat → Int) × Nat} {d : Nat} {s : mSt} {Q : mQ} {a1 : Nat} {l2 : Option mV} (h1 : isBd a1) (h_1 : Wp X d 34 13 [some (mR 3), some (mR a1), some (mI 0)] [] s Q) : Wp X d 34 11 [some (mR 3), some (mR a1), l2] [] s Q := Wp_step k34 f34_11 (Wp_step k34 f34_12 (h_1))
theorem b34_13 {X : (Nat → Int) × Nat} {d : Nat} {s : mSt} {Q : mQ} {a1 : Nat} {x2 : Int} (h1 : isBd a1) (h_1 : 40 < x2 → Wp X d 34 47 [some (mR 3), some (mR a1), some (mI x2)] [] s Q) (h_2 : ¬ 40 < x2 → Wp X d 34 19 [some (mR 3), some (mR a1), some (mI x2)] [] s Q) : Wp X d 34 13 [some (mR 3), some (mR a1), some (mI x2)] [] s Q := Wp_step k34 f34_13 (Wp_step k34 f34_14 (Wp_step k34 f34_16 ⟨h_1, h_2⟩))
theorem b34_19 {X : (Nat → Int) × Nat} {d : Nat} {s : mSt} {Q : mQ} {a1 : Nat} {x2 : Int} (h1 : isBd a1) (h_1 : Sp X d 35 [mR 3, mR a1, mI x2] s (fun r s' => ∃ v : Int, r = some (mI v) ∧ Wp X (d + 1) 34 25 [some (mR 3), some (mR a1), some (mI x2)] [mI v] s' Q)) : Wp X (d + 1) 34 19 [some (mR 3), some (mR a1), some (mI x2)] [] s Q := Wp_step k34 f34_19 (Wp_step k34 f34_20 (Wp_step k34 f34_21 (Wp_step k34 f34_22 ⟨⟨kf_3, Nat.le_of_ble_eq_true rfl⟩, Nat.le_refl _, _, rfl, Sp_E h_1⟩)))
theorem b34_25 {X : (Nat → Int) × Nat} {d : Nat} {s : mSt} {Q : mQ} {a1 : Nat} {x2 : Int} {xt0 : Int} (h1 : isBd a1) (h_1 : xt0 = 0 → Wp X d 34 47 [some (mR 3), some (mR a1), some (mI x2)] [] s Q) (h_2 : ¬ xt0 = 0 → Wp X d 34 28 [some (mR 3), some (mR a1), some (mI x2)] [] s Q) : Wp X d 34 25 [some (mR 3), some (mR a1), some (mI x2)] [mI xt0] s Q := Wp_step k34 f34_25 ⟨h_1, h_2⟩
theorem b34_28 {X : (Nat → Int) × Nat} {d : Nat} {s : mSt} {Q : mQ} {a1 : Nat} {x2 : Int} (h1 : isBd a1) (h_1 : Sp X d 93 [mR 1] s (fun r s' => ∃ v : Int, r = some (mI v) ∧ Wp X (d + 1) 34 35 [some (mR 3), some (mR a1), some (mI x2)] [mI v] s' Q)) : Wp X (d + 1) 34 28 [some (mR 3), some (mR a1), some (mI x2)] [] s Q := Wp_step k34 f34_28 (Wp_step k34 f34_29 ⟨kf_3, 1, rf_3_0, Wp_step k34 f34_32 ⟨⟨kf_1, Nat.le_of_ble_eq_true rfl⟩, Nat.le_refl _, _, rfl, Sp_E h_1⟩⟩)
theorem b34_35 {X : (Nat → Int) × Nat} {d : Nat} {s : mSt} {Q : mQ} {a1 : Nat} {x2 : Int} {xt0 : Int} (h1 : isBd a1) (h_1 : ¬ xt0 = 0 → Wp X d 34 41 [some (mR 3), some (mR a1), some (mI x2)] [] s Q) (h_2 : xt0 = 0 → Wp X d 34 38 [some (mR 3), some (mR a1), some (mI x2)] [] s Q) : Wp X d 34 35 [some (mR 3), some (mR a1), some (mI x2)] [mI xt0] s Q := Wp_step k34 f34_35 ⟨h_1, h_2⟩
theorem b34_38 {X : (Nat → Int) × Nat} {d : Nat} {s : mSt} {Q : mQ} {a1 : Nat} {x2 : Int} (h1 : isBd a1) (h_1 : Wp X d 34 47 [some (mR 3), some (mR a1), some (mI x2)] [] s Q) : Wp X d 34 38 [some (mR 3), some (mR a1), some (mI x2)] [] s Q := Wp_step k34 f34_38 (h_1)
theorem b34_41 {X : (Nat → Int) × Nat} {d : Nat} {s : mSt} {Q : mQ} {a1 : Nat} {x2 : Int} (h1 : isBd a1) (h_1 : Wp X d 34 13 [some (mR 3), some (mR a1), some (mI (w32 (x2 + 1)))] [] s Q) : Wp X d 34 41 [some (mR 3), some (mR a1), some (mI x2)] [] s Q := Wp_step k34 f34_41 (Wp_step k34 f34_44 (h_1))
theorem b34_47 {X : (Nat → Int) × Nat} {d : Nat} {s : mSt} {Q : mQ} {a1 : Nat} {x2 : Int} (h1 : isBd a1) (h_1 : Q (some (mI (s 1 6))) s) : Wp X d 34 47 [some (mR 3), some (mR a1), some (mI x2)] [] s Q := Wp_step k34 f34_47 (Wp_step k34 f34_48 ⟨kf_3, 1, rf_3_0, Wp_step k34 f34_51 ⟨kf_1, Wp_step k34 f34_54 ⟨⟨rfl, trivial⟩, h_1⟩⟩⟩)
theorem e34 {X : (Nat → Int) × Nat} {d : Nat} {s : mSt} {Q : mQ} {a1 : Nat} (h : Wp X d 34 0 [some (mR 3), some (mR a1), none] [] s Q) : Sp X d 34 [mR 3, mR a1] s Q := Sp_of (show mCe 34 = 0 by decide +kernel) (by rw [show mML 34 = 3 by decide +kernel]; rfl) (Nat.le_trans (Nat.le_of_ble_eq_true (show Nat.ble (mArgs _).length 3 = true from rfl)) (show 3 ≤ mML 34 by decide +kernel)) h
-- 35 ClashDay$DayReader.readClause(LClashDay$Board;I)Z
theorem k35 : mRk 35 = 2 := by decide +kernel
theorem f35_0 : mFetch 35 0 = some (.aload_n 0, 1, 0, 0, 0, 0) := by decide +kernel
theorem f35_1 : mFetch 35 1 = some (.getfield 15, 3, 1, 0, 2, 1) := by decide +kernel
theorem f35_4 : mFetch 35 4 = some (.invokevirtual 41, 3, 91, 0, 1, 8) := by decide +kernel
theorem f35_7 : mFetch 35 7 = some (.istore_n 3, 1, 0, 0, 0, 0) := by decide +kernel
theorem f35_8 : mFetch 35 8 = some (.iload_n 3, 1, 0, 0, 0, 0) := by decide +kernel
theorem f35_9 : mFetch 35 9 = some (.bipush 11, 2, 0, 0, 0, 0) := by decide +kernel
theorem f35_11 : mFetch 35 11 = some (.if_icmp .eq 28, 3, 39, 0, 0, 0) := by decide +kernel
theorem f35_14 : mFetch 35 14 = some (.iload_n 3, 1, 0, 0, 0, 0) := by decide +kernel
theorem f35_15 : mFetch 35 15 = some (.bipush 12, 2, 0, 0, 0, 0) := by decide +kernel
theorem f35_17 : mFetch 35 17 = some (.if_icmp .eq 22, 3, 39, 0, 0, 0) := by decide +kernel
theorem f35_20 : mFetch 35 20 = some (.iload_n 3, 1, 0, 0, 0, 0) := by decide +kernel
theorem f35_21 : mFetch 35 21 = some (.ifCond .eq 18, 3, 39, 0, 0, 0) := by decide +kernel
theorem f35_24 : mFetch 35 24 = some (.iload_n 3, 1, 0, 0, 0, 0) := by decide +kernel
theorem f35_25 : mFetch 35 25 = some (.bipush 13, 2, 0, 0, 0, 0) := by decide +kernel
theorem f35_27 : mFetch 35 27 = some (.if_icmp .eq 12, 3, 39, 0, 0, 0) := by decide +kernel
theorem f35_30 : mFetch 35 30 = some (.aload_n 0, 1, 0, 0, 0, 0) := by decide +kernel
theorem f35_31 : mFetch 35 31 = some (.getfield 15, 3, 1, 0, 2, 1) := by decide +kernel
theorem f35_34 : mFetch 35 34 = some (.iconst 0, 1, 0, 0, 0, 0) := by decide +kernel
theorem f35_35 : mFetch 35 35 = some (.invokevirtual 45, 3, 94, 0, 2, 8) := by decide +kernel
theorem f35_38 : mFetch 35 38 = some (.ireturn, 1, 0, 0, 0, 0) := by decide +kernel
theorem f35_39 : mFetch 35 39 = some (.iload_n 2, 1, 0, 0, 0, 0) := by decide +kernel
theorem f35_40 : mFetch 35 40 = some (.bipush 40, 2, 0, 0, 0, 0) := by decide +kernel
theorem f35_42 : mFetch 35 42 = some (.if_icmp .ge 53, 3, 95, 0, 0, 0) := by decide +kernel
theorem f35_45 : mFetch 35 45 = some (.iload_n 3, 1, 0, 0, 0, 0) := by decide +kernel
theorem f35_46 : mFetch 35 46 = some (.bipush 11, 2, 0, 0, 0, 0) := by decide +kernel
theorem f35_48 : mFetch 35 48 = some (.if_icmp .ne 7, 3, 55, 0, 0, 0) := by decide +kernel
theorem f35_51 : mFetch 35 51 = some (.iconst 1, 1, 0, 0, 0, 0) := by decide +kernel
theorem f35_52 : mFetch 35 52 = some (.goto 4, 3, 56, 0, 0, 0) := by decide +kernel
theorem f35_55 : mFetch 35 55 = some (.iconst 0, 1, 0, 0, 0, 0) := by decide +kernel
theorem f35_56 : mFetch 35 56 = some (.iload_n 2, 1, 0, 0, 0, 0) := by decide +kernel
theorem f35_57 : mFetch 35 57 = some (.ifCond .ne 7, 3, 64, 0, 0, 0) := by decide +kernel
theorem f35_60 : mFetch 35 60 = some (.iconst 1, 1, 0, 0, 0, 0) := by decide +kernel
theorem f35_61 : mFetch 35 61 = some (.goto 4, 3, 65, 0, 0, 0) := by decide +kernel
theorem f35_64 : mFetch 35 64 = some (.iconst 0, 1, 0, 0, 0, 0) := by decide +kernel
theorem f35_65 : mFetch 35 65 = some (.if_icmp .ne 30, 3, 95, 0, 0, 0) := by decide +kernel
theorem f35_68 : mFetch 35 68 = some (.iload_n 3, 1, 0, 0, 0, 0) := by decide +kernel
theorem f35_69 : mFetch 35 69 = some (.bipush 12, 2, 0, 0, 0, 0) := by decide +kernel
theorem f35_71 : mFetch 35 71 = some (.if_icmp .ne 11, 3, 82, 0, 0, 0) := by decide +kernel
theorem f35_74 : mFetch 35 74 = some (.aload_n 1, 1, 0, 0, 0, 0) := by decide +kernel
theorem f35_75 : mFetch 35 75 = some (.getfield 49, 3, 0, 2, 0, 0) := by decide +kernel
theorem f35_78 : mFetch 35 78 = some (.iconst 5, 1, 0, 0, 0, 0) := by decide +kernel
theorem f35_79 : mFetch 35 79 = some (.if_icmp .ge 16, 3, 95, 0, 0, 0) := by decide +kernel
theorem f35_82 : mFetch 35 82 = some (.iload_n 3, 1, 0, 0, 0, 0) := by decide +kernel
theorem f35_83 : mFetch 35 83 = some (.ifCond .ne 16, 3, 99, 0, 0, 0) := by decide +kernel
theorem f35_86 : mFetch 35 86 = some (.aload_n 1, 1, 0, 0, 0, 0) := by decide +kernel
theorem f35_87 : mFetch 35 87 = some (.getfield 52, 3, 0, 3, 0, 0) := by decide +kernel
theorem f35_90 : mFetch 35 90 = some (.bipush 6, 2, 0, 0, 0, 0) := by decide +kernel
theorem f35_92 : mFetch 35 92 = some (.if_icmp .lt 7, 3, 99, 0, 0, 0) := by decide +kernel
theorem f35_95 : mFetch 35 95 = some (.iconst 1, 1, 0, 0, 0, 0) := by decide +kernel
theorem f35_96 : mFetch 35 96 = some (.goto 4, 3, 100, 0, 0, 0) := by decide +kernel
theorem f35_99 : mFetch 35 99 = some (.iconst 0, 1, 0, 0, 0, 0) := by decide +kernel
theorem f35_100 : mFetch 35 100 = some (.istore 4, 2, 0, 0, 0, 0) := by decide +kernel
theorem f35_102 : mFetch 35 102 = some (.iload 4, 2, 0, 0, 0, 0) := by decide +kernel
theorem f35_104 : mFetch 35 104 = some (.ifCond .eq 12, 3, 116, 0, 0, 0) := by decide +kernel
theorem f35_107 : mFetch 35 107 = some (.aload_n 0, 1, 0, 0, 0, 0) := by decide +kernel
theorem f35_108 : mFetch 35 108 = some (.getfield 15, 3, 1, 0, 2, 1) := by decide +kernel
theorem f35_111 : mFetch 35 111 = some (.iconst 4, 1, 0, 0, 0, 0) := by decide +kernel
theorem f35_112 : mFetch 35 112 = some (.invokevirtual 45, 3, 94, 0, 2, 8) := by decide +kernel
theorem f35_115 : mFetch 35 115 = some (.ireturn, 1, 0, 0, 0, 0) := by decide +kernel
theorem f35_116 : mFetch 35 116 = some (.aload_n 0, 1, 0, 0, 0, 0) := by decide +kernel
theorem f35_117 : mFetch 35 117 = some (.getfield 15, 3, 1, 0, 2, 1) := by decide +kernel
theorem f35_120 : mFetch 35 120 = some (.invokevirtual 55, 3, 90, 0, 1, 8) := by decide +kernel
theorem f35_123 : mFetch 35 123 = some (.iload_n 3, 1, 0, 0, 0, 0) := by decide +kernel
theorem f35_124 : mFetch 35 124 = some (.lookupswitch 54 #[(0, 48), (11, 36), (12, 42)], 36, 0, 0, 0, 0) := by decide +kernel
theorem f35_160 : mFetch 35 160 = some (.aload_n 0, 1, 0, 0, 0, 0) := by decide +kernel
theorem f35_161 : mFetch 35 161 = some (.aload_n 1, 1, 0, 0, 0, 0) := by decide +kernel
theorem f35_162 : mFetch 35 162 = some (.invokevirtual 58, 3, 36, 0, 2, 1) := by decide +kernel
theorem f35_165 : mFetch 35 165 = some (.ireturn, 1, 0, 0, 0, 0) := by decide +kernel
theorem f35_166 : mFetch 35 166 = some (.aload_n 0, 1, 0, 0, 0, 0) := by decide +kernel
theorem f35_167 : mFetch 35 167 = some (.aload_n 1, 1, 0, 0, 0, 0) := by decide +kernel
theorem f35_168 : mFetch 35 168 = some (.invokevirtual 62, 3, 37, 0, 2, 1) := by decide +kernel
theorem f35_171 : mFetch 35 171 = some (.ireturn, 1, 0, 0, 0, 0) := by decide +kernel
theorem f35_172 : mFetch 35 172 = some (.aload_n 0, 1, 0, 0, 0, 0) := by decide +kernel
theorem f35_173 : mFetch 35 173 = some (.aload_n 1, 1, 0, 0, 0, 0) := by decide +kernel
theorem f35_174 : mFetch 35 174 = some (.invokevirtual 65, 3, 38, 0, 2, 1) := by decide +kernel
theorem f35_177 : mFetch 35 177 = some (.ireturn, 1, 0, 0, 0, 0) := by decide +kernel
theorem f35_178 : mFetch 35 178 = some (.aload_n 0, 1, 0, 0, 0, 0) := by decide +kernel
theorem f35_179 : mFetch 35 179 = some (.aload_n 1, 1, 0, 0, 0, 0) := by decide +kernel
theorem f35_180 : mFetch 35 180 = some (.invokevirtual 68, 3, 39, 0, 2, 1) := by decide +kernel
theorem f35_183 : mFetch 35 183 = some (.ireturn, 1, 0, 0, 0, 0) := by decide +kernel
theorem b35_0 {X : (Nat → Int) × Nat} {d : Nat} {s : mSt} {Q : mQ} {a1 : Nat} {x2 : Int} {l3 : Option mV} {l4 : Option mV} (h1 : isBd a1) (h_1 : Sp X d 91 [mR 1] s (fun r s' => ∃ v : Int, r = some (mI v) ∧ Wp X (d + 1) 35 7 [some (mR 3), some (mR a1), some (mI x2), l3, l4] [mI v] s' Q)) : Wp X (d + 1) 35 0 [some (mR 3), some (mR a1), some (mI x2), l3, l4] [] s Q := Wp_step k35 f35_0 (Wp_step k35 f35_1 ⟨kf_3, 1, rf_3_0, Wp_step k35 f35_4 ⟨⟨kf_1, Nat.le_of_ble_eq_true rfl⟩, Nat.le_refl _, _, rfl, Sp_E h_1⟩⟩)
theorem b35_7 {X : (Nat → Int) × Nat} {d : Nat} {s : mSt} {Q : mQ} {a1 : Nat} {x2 : Int} {l3 : Option mV} {l4 : Option mV} {xt0 : Int} (h1 : isBd a1) (h_1 : xt0 = 11 → Wp X d 35 39 [some (mR 3), some (mR a1), some (mI x2), some (mI xt0), l4] [] s Q) (h_2 : ¬ xt0 = 11 → Wp X d 35 14 [some (mR 3), some (mR a1), some (mI x2), some (mI xt0), l4] [] s Q) : Wp X d 35 7 [some (mR 3), some (mR a1), some (mI x2), l3, l4] [mI xt0] s Q := Wp_step k35 f35_7 (Wp_step k35 f35_8 (Wp_step k35 f35_9 (Wp_step k35 f35_11 ⟨h_1, h_2⟩)))
theorem b35_14 {X : (Nat → Int) × Nat} {d : Nat} {s : mSt} {Q : mQ} {a1 : Nat} {x2 : Int} {x3 : Int} {l4 : Option mV} (h1 : isBd a1) (h_1 : x3 = 12 → Wp X d 35 39 [some (mR 3), some (mR a1), some (mI x2), some (mI x3), l4] [] s Q) (h_2 : ¬ x3 = 12 → Wp X d 35 20 [some (mR 3), some (mR a1), some (mI x2), some (mI x3), l4] [] s Q) : Wp X d 35 14 [some (mR 3), some (mR a1), some (mI x2), some (mI x3), l4] [] s Q := Wp_step k35 f35_14 (Wp_step k35 f35_15 (Wp_step k35 f35_17 ⟨h_1, h_2⟩))
theorem b35_20 {X : (Nat → Int) × Nat} {d : Nat} {s : mSt} {Q : mQ} {a1 : Nat} {x2 : Int} {x3 : Int} {l4 : Option mV} (h1 : isBd a1) (h_1 : x3 = 0 → Wp X d 35 39 [some (mR 3), some (mR a1), some (mI x2), some (mI x3), l4] [] s Q) (h_2 : ¬ x3 = 0 → Wp X d 35 24 [some (mR 3), some (mR a1), some (mI x2), some (mI x3), l4] [] s Q) : Wp X d 35 20 [some (mR 3), some (mR a1), some (mI x2), some (mI x3), l4] [] s Q := Wp_step k35 f35_20 (Wp_step k35 f35_21 ⟨h_1, h_2⟩)
theorem b35_24 {X : (Nat → Int) × Nat} {d : Nat} {s : mSt} {Q : mQ} {a1 : Nat} {x2 : Int} {x3 : Int} {l4 : Option mV} (h1 : isBd a1) (h_1 : x3 = 13 → Wp X d 35 39 [some (mR 3), some (mR a1), some (mI x2), some (mI x3), l4] [] s Q) (h_2 : ¬ x3 = 13 → Wp X d 35 30 [some (mR 3), some (mR a1), some (mI x2), some (mI x3), l4] [] s Q) : Wp X d 35 24 [some (mR 3), some (mR a1), some (mI x2), some (mI x3), l4] [] s Q := Wp_step k35 f35_24 (Wp_step k35 f35_25 (Wp_step k35 f35_27 ⟨h_1, h_2⟩))
theorem b35_30 {X : (Nat → Int) × Nat} {d : Nat} {s : mSt} {Q : mQ} {a1 : Nat} {x2 : Int} {x3 : Int} {l4 : Option mV} (h1 : isBd a1) (h_1 : Sp X d 94 [mR 1, mI 0] s (fun r s' => ∃ v : Int, r = some (mI v) ∧ Wp X (d + 1) 35 38 [some (mR 3), some (mR a1), some (mI x2), some (mI x3), l4] [mI v] s' Q)) : Wp X (d + 1) 35 30 [some (mR 3), some (mR a1), some (mI x2), some (mI x3), l4] [] s Q := Wp_step k35 f35_30 (Wp_step k35 f35_31 ⟨kf_3, 1, rf_3_0, Wp_step k35 f35_34 (Wp_step k35 f35_35 ⟨⟨kf_1, Nat.le_of_ble_eq_true rfl⟩, Nat.le_refl _, _, rfl, Sp_E h_1⟩)⟩)
theorem b35_38 {X : (Nat → Int) × Nat} {d : Nat} {s : mSt} {Q : mQ} {a1 : Nat} {x2 : Int} {x3 : Int} {l4 : Option mV} {xt0 : Int} (h1 : isBd a1) (h_1 : Q (some (mI xt0)) s) (h_2 : xt0 = 0 ∨ xt0 = 1) : Wp X d 35 38 [some (mR 3), some (mR a1), some (mI x2), some (mI x3), l4] [mI xt0] s Q := Wp_step k35 f35_38 ⟨⟨rfl, h_2⟩, h_1⟩
theorem b35_39 {X : (Nat → Int) × Nat} {d : Nat} {s : mSt} {Q : mQ} {a1 : Nat} {x2 : Int} {x3 : Int} {l4 : Option mV} (h1 : isBd a1) (h_1 : 40 ≤ x2 → Wp X d 35 95 [some (mR 3), some (mR a1), some (mI x2), some (mI x3), l4] [] s Q) (h_2 : ¬ 40 ≤ x2 → Wp X d 35 45 [some (mR 3), some (mR a1), some (mI x2), some (mI x3), l4] [] s Q) : Wp X d 35 39 [some (mR 3), some (mR a1), some (mI x2), some (mI x3), l4] [] s Q := Wp_step k35 f35_39 (Wp_step k35 f35_40 (Wp_step k35 f35_42 ⟨h_1, h_2⟩))
theorem b35_45 {X : (Nat → Int) × Nat} {d : Nat} {s : mSt} {Q : mQ} {a1 : Nat} {x2 : Int} {x3 : Int} {l4 : Option mV} (h1 : isBd a1) (h_1 : ¬ x3 = 11 → Wp X d 35 55 [some (mR 3), some (mR a1), some (mI x2), some (mI x3), l4] [] s Q) (h_2 : x3 = 11 → Wp X d 35 51 [some (mR 3), some (mR a1), some (mI x2), some (mI x3), l4] [] s Q) : Wp X d 35 45 [some (mR 3), some (mR a1), some (mI x2), some (mI x3), l4] [] s Q := Wp_step k35 f35_45 (Wp_step k35 f35_46 (Wp_step k35 f35_48 ⟨h_1, h_2⟩))
theorem b35_51 {X : (Nat → Int) × Nat} {d : Nat} {s : mSt} {Q : mQ} {a1 : Nat} {x2 : Int} {x3 : Int} {l4 : Option mV} (h1 : isBd a1) (h_1 : Wp X d 35 56 [some (mR 3), some (mR a1), some (mI x2), some (mI x3), l4] [mI 1] s Q) : Wp X d 35 51 [some (mR 3), some (mR a1), some (mI x2), some (mI x3), l4] [] s Q := Wp_step k35 f35_51 (Wp_step k35 f35_52 (h_1))
theorem b35_55 {X : (Nat → Int) × Nat} {d : Nat} {s : mSt} {Q : mQ} {a1 : Nat} {x2 : Int} {x3 : Int} {l4 : Option mV} (h1 : isBd a1) (h_1 : Wp X d 35 56 [some (mR 3), some (mR a1), some (mI x2), some (mI x3), l4] [mI 0] s Q) : Wp X d 35 55 [some (mR 3), some (mR a1), some (mI x2), some (mI x3), l4] [] s Q := Wp_step k35 f35_55 (h_1)
theorem b35_56 {X : (Nat → Int) × Nat} {d : Nat} {s : mSt} {Q : mQ} {a1 : Nat} {x2 : Int} {x3 : Int} {l4 : Option mV} {xt0 : Int} (h1 : isBd a1) (h_1 : ¬ x2 = 0 → Wp X d 35 64 [some (mR 3), some (mR a1), some (mI x2), some (mI x3), l4] [mI xt0] s Q) (h_2 : x2 = 0 → Wp X d 35 60 [some (mR 3), some (mR a1), some (mI x2), some (mI x3), l4] [mI xt0] s Q) : Wp X d 35 56 [some (mR 3), some (mR a1), some (mI x2), some (mI x3), l4] [mI xt0] s Q := Wp_step k35 f35_56 (Wp_step k35 f35_57 ⟨h_1, h_2⟩)
theorem b35_60 {X : (Nat → Int) × Nat} {d : Nat} {s : mSt} {Q : mQ} {a1 : Nat} {x2 : Int} {x3 : Int} {l4 : Option mV} {xt0 : Int} (h1 : isBd a1) (h_1 : Wp X d 35 65 [some (mR 3), some (mR a1), some (mI x2), some (mI x3), l4] [mI 1, mI xt0] s Q) : Wp X d 35 60 [some (mR 3), some (mR a1), some (mI x2), some (mI x3), l4] [mI xt0] s Q := Wp_step k35 f35_60 (Wp_step k35 f35_61 (h_1))
theorem b35_64 {X : (Nat → Int) × Nat} {d : Nat} {s : mSt} {Q : mQ} {a1 : Nat} {x2 : Int} {x3 : Int} {l4 : Option mV} {xt0 : Int} (h1 : isBd a1) (h_1 : Wp X d 35 65 [some (mR 3), some (mR a1), some (mI x2), some (mI x3), l4] [mI 0, mI xt0] s Q) : Wp X d 35 64 [some (mR 3), some (mR a1), some (mI x2), some (mI x3), l4] [mI xt0] s Q := Wp_step k35 f35_64 (h_1)
theorem b35_65 {X : (Nat → Int) × Nat} {d : Nat} {s : mSt} {Q : mQ} {a1 : Nat} {x2 : Int} {x3 : Int} {l4 : Option mV} {xt0 : Int} {xt1 : Int} (h1 : isBd a1) (h_1 : ¬ xt0 = xt1 → Wp X d 35 95 [some (mR 3), some (mR a1), some (mI x2), some (mI x3), l4] [] s Q) (h_2 : xt0 = xt1 → Wp X d 35 68 [some (mR 3), some (mR a1), some (mI x2), some (mI x3), l4] [] s Q) : Wp X d 35 65 [some (mR 3), some (mR a1), some (mI x2), some (mI x3), l4] [mI xt1, mI xt0] s Q := Wp_step k35 f35_65 ⟨h_1, h_2⟩
theorem b35_68 {X : (Nat → Int) × Nat} {d : Nat} {s : mSt} {Q : mQ} {a1 : Nat} {x2 : Int} {x3 : Int} {l4 : Option mV} (h1 : isBd a1) (h_1 : ¬ x3 = 12 → Wp X d 35 82 [some (mR 3), some (mR a1), some (mI x2), some (mI x3), l4] [] s Q) (h_2 : x3 = 12 → Wp X d 35 74 [some (mR 3), some (mR a1), some (mI x2), some (mI x3), l4] [] s Q) : Wp X d 35 68 [some (mR 3), some (mR a1), some (mI x2), some (mI x3), l4] [] s Q := Wp_step k35 f35_68 (Wp_step k35 f35_69 (Wp_step k35 f35_71 ⟨h_1, h_2⟩))
theorem b35_74 {X : (Nat → Int) × Nat} {d : Nat} {s : mSt} {Q : mQ} {a1 : Nat} {x2 : Int} {x3 : Int} {l4 : Option mV} (h1 : isBd a1) (h_1 : 5 ≤ (s a1 2) → Wp X d 35 95 [some (mR 3), some (mR a1), some (mI x2), some (mI x3), l4] [] s Q) (h_2 : ¬ 5 ≤ (s a1 2) → Wp X d 35 82 [some (mR 3), some (mR a1), some (mI x2), some (mI x3), l4] [] s Q) : Wp X d 35 74 [some (mR 3), some (mR a1), some (mI x2), some (mI x3), l4] [] s Q := Wp_step k35 f35_74 (Wp_step k35 f35_75 ⟨(bd_k h1), Wp_step k35 f35_78 (Wp_step k35 f35_79 ⟨h_1, h_2⟩)⟩)
theorem b35_82 {X : (Nat → Int) × Nat} {d : Nat} {s : mSt} {Q : mQ} {a1 : Nat} {x2 : Int} {x3 : Int} {l4 : Option mV} (h1 : isBd a1) (h_1 : ¬ x3 = 0 → Wp X d 35 99 [some (mR 3), some (mR a1), some (mI x2), some (mI x3), l4] [] s Q) (h_2 : x3 = 0 → Wp X d 35 86 [some (mR 3), some (mR a1), some (mI x2), some (mI x3), l4] [] s Q) : Wp X d 35 82 [some (mR 3), some (mR a1), some (mI x2), some (mI x3), l4] [] s Q := Wp_step k35 f35_82 (Wp_step k35 f35_83 ⟨h_1, h_2⟩)
theorem b35_86 {X : (Nat → Int) × Nat} {d : Nat} {s : mSt} {Q : mQ} {a1 : Nat} {x2 : Int} {x3 : Int} {l4 : Option mV} (h1 : isBd a1) (h_1 : (s a1 3) < 6 → Wp X d 35 99 [some (mR 3), some (mR a1), some (mI x2), some (mI x3), l4] [] s Q) (h_2 : ¬ (s a1 3) < 6 → Wp X d 35 95 [some (mR 3), some (mR a1), some (mI x2), some (mI x3), l4] [] s Q) : Wp X d 35 86 [some (mR 3), some (mR a1), some (mI x2), some (mI x3), l4] [] s Q := Wp_step k35 f35_86 (Wp_step k35 f35_87 ⟨(bd_k h1), Wp_step k35 f35_90 (Wp_step k35 f35_92 ⟨h_1, h_2⟩)⟩)
theorem b35_95 {X : (Nat → Int) × Nat} {d : Nat} {s : mSt} {Q : mQ} {a1 : Nat} {x2 : Int} {x3 : Int} {l4 : Option mV} (h1 : isBd a1) (h_1 : Wp X d 35 100 [some (mR 3), some (mR a1), some (mI x2), some (mI x3), l4] [mI 1] s Q) : Wp X d 35 95 [some (mR 3), some (mR a1), some (mI x2), some (mI x3), l4] [] s Q := Wp_step k35 f35_95 (Wp_step k35 f35_96 (h_1))
theorem b35_99 {X : (Nat → Int) × Nat} {d : Nat} {s : mSt} {Q : mQ} {a1 : Nat} {x2 : Int} {x3 : Int} {l4 : Option mV} (h1 : isBd a1) (h_1 : Wp X d 35 100 [some (mR 3), some (mR a1), some (mI x2), some (mI x3), l4] [mI 0] s Q) : Wp X d 35 99 [some (mR 3), some (mR a1), some (mI x2), some (mI x3), l4] [] s Q := Wp_step k35 f35_99 (h_1)
theorem b35_100 {X : (Nat → Int) × Nat} {d : Nat} {s : mSt} {Q : mQ} {a1 : Nat} {x2 : Int} {x3 : Int} {l4 : Option mV} {xt0 : Int} (h1 : isBd a1) (h_1 : xt0 = 0 → Wp X d 35 116 [some (mR 3), some (mR a1), some (mI x2), some (mI x3), some (mI xt0)] [] s Q) (h_2 : ¬ xt0 = 0 → Wp X d 35 107 [some (mR 3), some (mR a1), some (mI x2), some (mI x3), some (mI xt0)] [] s Q) : Wp X d 35 100 [some (mR 3), some (mR a1), some (mI x2), some (mI x3), l4] [mI xt0] s Q := Wp_step k35 f35_100 (Wp_step k35 f35_102 (Wp_step k35 f35_104 ⟨h_1, h_2⟩))
theorem b35_107 {X : (Nat → Int) × Nat} {d : Nat} {s : mSt} {Q : mQ} {a1 : Nat} {x2 : Int} {x3 : Int} {x4 : Int} (h1 : isBd a1) (h_1 : Sp X d 94 [mR 1, mI 4] s (fun r s' => ∃ v : Int, r = some (mI v) ∧ Wp X (d + 1) 35 115 [some (mR 3), some (mR a1), some (mI x2), some (mI x3), some (mI x4)] [mI v] s' Q)) : Wp X (d + 1) 35 107 [some (mR 3), some (mR a1), some (mI x2), some (mI x3), some (mI x4)] [] s Q := Wp_step k35 f35_107 (Wp_step k35 f35_108 ⟨kf_3, 1, rf_3_0, Wp_step k35 f35_111 (Wp_step k35 f35_112 ⟨⟨kf_1, Nat.le_of_ble_eq_true rfl⟩, Nat.le_refl _, _, rfl, Sp_E h_1⟩)⟩)
theorem b35_115 {X : (Nat → Int) × Nat} {d : Nat} {s : mSt} {Q : mQ} {a1 : Nat} {x2 : Int} {x3 : Int} {x4 : Int} {xt0 : Int} (h1 : isBd a1) (h_1 : Q (some (mI xt0)) s) (h_2 : xt0 = 0 ∨ xt0 = 1) : Wp X d 35 115 [some (mR 3), some (mR a1), some (mI x2), some (mI x3), some (mI x4)] [mI xt0] s Q := Wp_step k35 f35_115 ⟨⟨rfl, h_2⟩, h_1⟩
theorem b35_116 {X : (Nat → Int) × Nat} {d : Nat} {s : mSt} {Q : mQ} {a1 : Nat} {x2 : Int} {x3 : Int} {x4 : Int} (h1 : isBd a1) (h_1 : Sp X d 90 [mR 1] s (fun r s' => r = none ∧ Wp X (d + 1) 35 123 [some (mR 3), some (mR a1), some (mI x2), some (mI x3), some (mI x4)] [] s' Q)) : Wp X (d + 1) 35 116 [some (mR 3), some (mR a1), some (mI x2), some (mI x3), some (mI x4)] [] s Q := Wp_step k35 f35_116 (Wp_step k35 f35_117 ⟨kf_3, 1, rf_3_0, Wp_step k35 f35_120 ⟨⟨kf_1, Nat.le_of_ble_eq_true rfl⟩, Nat.le_refl _, _, rfl, Sp_V h_1⟩⟩)
theorem b35_123 {X : (Nat → Int) × Nat} {d : Nat} {s : mSt} {Q : mQ} {a1 : Nat} {x2 : Int} {x3 : Int} {x4 : Int} (h1 : isBd a1) (h_1 : x3 = 0 → Wp X d 35 172 [some (mR 3), some (mR a1), some (mI x2), some (mI x3), some (mI x4)] [] s Q) (h_2 : x3 = 11 → Wp X d 35 160 [some (mR 3), some (mR a1), some (mI x2), some (mI x3), some (mI x4)] [] s Q) (h_3 : x3 = 12 → Wp X d 35 166 [some (mR 3), some (mR a1), some (mI x2), some (mI x3), some (mI x4)] [] s Q) (h_4 : ¬ x3 = 0 → ¬ x3 = 11 → ¬ x3 = 12 → Wp X d 35 178 [some (mR 3), some (mR a1), some (mI x2), some (mI x3), some (mI x4)] [] s Q) : Wp X d 35 123 [some (mR 3), some (mR a1), some (mI x2), some (mI x3), some (mI x4)] [] s Q := Wp_step k35 f35_123 (Wp_step k35 f35_124 (by
    show Wp X d 35 (tL 124 54 #[(0, 48), (11, 36), (12, 42)] x3) [some (mR 3), some (mR a1), some (mI x2), some (mI x3), some (mI x4)] [] s Q
    by_cases q0 : x3 = 0
    · have e : tL 124 54 #[(0, 48), (11, 36), (12, 42)] x3 = 172 := by rw [q0]; decide +kernel
      rw [e]; exact h_1 q0
    by_cases q1 : x3 = 11
    · have e : tL 124 54 #[(0, 48), (11, 36), (12, 42)] x3 = 160 := by rw [q1]; decide +kernel
      rw [e]; exact h_2 q1
    by_cases q2 : x3 = 12
    · have e : tL 124 54 #[(0, 48), (11, 36), (12, 42)] x3 = 166 := by rw [q2]; decide +kernel
      rw [e]; exact h_3 q2
    have e : tL 124 54 #[(0, 48), (11, 36), (12, 42)] x3 = 178 := by simp [tL, Op.lookupswitch.offset, q0, Ne.symm q0, q1, Ne.symm q1, q2, Ne.symm q2]
    rw [e]; exact h_4 q0 q1 q2))
theorem b35_160 {X : (Nat → Int) × Nat} {d : Nat} {s : mSt} {Q : mQ} {a1 : Nat} {x2 : Int} {x3 : Int} {x4 : Int} (h1 : isBd a1) (h_1 : Sp X d 36 [mR 3, mR a1] s (fun r s' => ∃ v : Int, r = some (mI v) ∧ Wp X (d + 1) 35 165 [some (mR 3), some (mR a1), some (mI x2), some (mI x3), some (mI x4)] [mI v] s' Q)) : Wp X (d + 1) 35 160 [some (mR 3), some (mR a1), some (mI x2), some (mI x3), some (mI x4)] [] s Q := Wp_step k35 f35_160 (Wp_step k35 f35_161 (Wp_step k35 f35_162 ⟨⟨kf_3, Nat.le_of_ble_eq_true rfl⟩, Nat.le_refl _, _, rfl, Sp_E h_1⟩))
theorem b35_165 {X : (Nat → Int) × Nat} {d : Nat} {s : mSt} {Q : mQ} {a1 : Nat} {x2 : Int} {x3 : Int} {x4 : Int} {xt0 : Int} (h1 : isBd a1) (h_1 : Q (some (mI xt0)) s) (h_2 : xt0 = 0 ∨ xt0 = 1) : Wp X d 35 165 [some (mR 3), some (mR a1), some (mI x2), some (mI x3), some (mI x4)] [mI xt0] s Q := Wp_step k35 f35_165 ⟨⟨rfl, h_2⟩, h_1⟩
theorem b35_166 {X : (Nat → Int) × Nat} {d : Nat} {s : mSt} {Q : mQ} {a1 : Nat} {x2 : Int} {x3 : Int} {x4 : Int} (h1 : isBd a1) (h_1 : Sp X d 37 [mR 3, mR a1] s (fun r s' => ∃ v : Int, r = some (mI v) ∧ Wp X (d + 1) 35 171 [some (mR 3), some (mR a1), some (mI x2), some (mI x3), some (mI x4)] [mI v] s' Q)) : Wp X (d + 1) 35 166 [some (mR 3), some (mR a1), some (mI x2), some (mI x3), some (mI x4)] [] s Q := Wp_step k35 f35_166 (Wp_step k35 f35_167 (Wp_step k35 f35_168 ⟨⟨kf_3, Nat.le_of_ble_eq_true rfl⟩, Nat.le_refl _, _, rfl, Sp_E h_1⟩))
theorem b35_171 {X : (Nat → Int) × Nat} {d : Nat} {s : mSt} {Q : mQ} {a1 : Nat} {x2 : Int} {x3 : Int} {x4 : Int} {xt0 : Int} (h1 : isBd a1) (h_1 : Q (some (mI xt0)) s) (h_2 : xt0 = 0 ∨ xt0 = 1) : Wp X d 35 171 [some (mR 3), some (mR a1), some (mI x2), some (mI x3), some (mI x4)] [mI xt0] s Q := Wp_step k35 f35_171 ⟨⟨rfl, h_2⟩, h_1⟩
theorem b35_172 {X : (Nat → Int) × Nat} {d : Nat} {s : mSt} {Q : mQ} {a1 : Nat} {x2 : Int} {x3 : Int} {x4 : Int} (h1 : isBd a1) (h_1 : Sp X d 38 [mR 3, mR a1] s (fun r s' => ∃ v : Int, r = some (mI v) ∧ Wp X (d + 1) 35 177 [some (mR 3), some (mR a1), some (mI x2), some (mI x3), some (mI x4)] [mI v] s' Q)) : Wp X (d + 1) 35 172 [some (mR 3), some (mR a1), some (mI x2), some (mI x3), some (mI x4)] [] s Q := Wp_step k35 f35_172 (Wp_step k35 f35_173 (Wp_step k35 f35_174 ⟨⟨kf_3, Nat.le_of_ble_eq_true rfl⟩, Nat.le_refl _, _, rfl, Sp_E h_1⟩))
theorem b35_177 {X : (Nat → Int) × Nat} {d : Nat} {s : mSt} {Q : mQ} {a1 : Nat} {x2 : Int} {x3 : Int} {x4 : Int} {xt0 : Int} (h1 : isBd a1) (h_1 : Q (some (mI xt0)) s) (h_2 : xt0 = 0 ∨ xt0 = 1) : Wp X d 35 177 [some (mR 3), some (mR a1), some (mI x2), some (mI x3), some (mI x4)] [mI xt0] s Q := Wp_step k35 f35_177 ⟨⟨rfl, h_2⟩, h_1⟩
theorem b35_178 {X : (Nat → Int) × Nat} {d : Nat} {s : mSt} {Q : mQ} {a1 : Nat} {x2 : Int} {x3 : Int} {x4 : Int} (h1 : isBd a1) (h_1 : Sp X d 39 [mR 3, mR a1] s (fun r s' => ∃ v : Int, r = some (mI v) ∧ Wp X (d + 1) 35 183 [some (mR 3), some (mR a1), some (mI x2), some (mI x3), some (mI x4)] [mI v] s' Q)) : Wp X (d + 1) 35 178 [some (mR 3), some (mR a1), some (mI x2), some (mI x3), some (mI x4)] [] s Q := Wp_step k35 f35_178 (Wp_step k35 f35_179 (Wp_step k35 f35_180 ⟨⟨kf_3, Nat.le_of_ble_eq_true rfl⟩, Nat.le_refl _, _, rfl, Sp_E h_1⟩))
theorem b35_183 {X : (Nat → Int) × Nat} {d : Nat} {s : mSt} {Q : mQ} {a1 : Nat} {x2 : Int} {x3 : Int} {x4 : Int} {xt0 : Int} (h1 : isBd a1) (h_1 : Q (some (mI xt0)) s) (h_2 : xt0 = 0 ∨ xt0 = 1) : Wp X d 35 183 [some (mR 3), some (mR a1), some (mI x2), some (mI x3), some (mI x4)] [mI xt0] s Q := Wp_step k35 f35_183 ⟨⟨rfl, h_2⟩, h_1⟩
theorem e35 {X : (Nat → Int) × Nat} {d : Nat} {s : mSt} {Q : mQ} {a1 : Nat} {x2 : Int} (h : Wp X d 35 0 [some (mR 3), some (mR a1), some (mI x2), none, none] [] s Q) : Sp X d 35 [mR 3, mR a1, mI x2] s Q := Sp_of (show mCe 35 = 0 by decide +kernel) (by rw [show mML 35 = 5 by decide +kernel]; rfl) (Nat.le_trans (Nat.le_of_ble_eq_true (show Nat.ble (mArgs _).length 5 = true from rfl)) (show 5 ≤ mML 35 by decide +kernel)) h
-- 36 ClashDay$DayReader.readDay(LClashDay$Board;)Z
theorem k36 : mRk 36 = 2 := by decide +kernel
theorem f36_0 : mFetch 36 0 = some (.aload_n 0, 1, 0, 0, 0, 0) := by decide +kernel
theorem f36_1 : mFetch 36 1 = some (.iconst 0, 1, 0, 0, 0, 0) := by decide +kernel
theorem f36_2 : mFetch 36 2 = some (.iconst 1, 1, 0, 0, 0, 0) := by decide +kernel
theorem f36_3 : mFetch 36 3 = some (.bipush 9, 2, 0, 0, 0, 0) := by decide +kernel
theorem f36_5 : mFetch 36 5 = some (.invokevirtual 71, 3, 40, 0, 4, 1) := by decide +kernel
theorem f36_8 : mFetch 36 8 = some (.ifCond .eq 14, 3, 22, 0, 0, 0) := by decide +kernel
theorem f36_11 : mFetch 36 11 = some (.aload_n 0, 1, 0, 0, 0, 0) := by decide +kernel
theorem f36_12 : mFetch 36 12 = some (.iconst 1, 1, 0, 0, 0, 0) := by decide +kernel
theorem f36_13 : mFetch 36 13 = some (.iconst 1, 1, 0, 0, 0, 0) := by decide +kernel
theorem f36_14 : mFetch 36 14 = some (.bipush 20, 2, 0, 0, 0, 0) := by decide +kernel
theorem f36_16 : mFetch 36 16 = some (.invokevirtual 71, 3, 40, 0, 4, 1) := by decide +kernel
theorem f36_19 : mFetch 36 19 = some (.ifCond .ne 5, 3, 24, 0, 0, 0) := by decide +kernel
theorem f36_22 : mFetch 36 22 = some (.iconst 0, 1, 0, 0, 0, 0) := by decide +kernel
theorem f36_23 : mFetch 36 23 = some (.ireturn, 1, 0, 0, 0, 0) := by decide +kernel
theorem f36_24 : mFetch 36 24 = some (.aload_n 1, 1, 0, 0, 0, 0) := by decide +kernel
theorem f36_25 : mFetch 36 25 = some (.aload_n 0, 1, 0, 0, 0, 0) := by decide +kernel
theorem f36_26 : mFetch 36 26 = some (.getfield 9, 3, 1, 1, 2, 1) := by decide +kernel
theorem f36_29 : mFetch 36 29 = some (.iconst 0, 1, 0, 0, 0, 0) := by decide +kernel
theorem f36_30 : mFetch 36 30 = some (.iaload, 1, 0, 0, 0, 0) := by decide +kernel
theorem f36_31 : mFetch 36 31 = some (.putfield 75, 3, 0, 0, 0, 0) := by decide +kernel
theorem f36_34 : mFetch 36 34 = some (.aload_n 1, 1, 0, 0, 0, 0) := by decide +kernel
theorem f36_35 : mFetch 36 35 = some (.aload_n 0, 1, 0, 0, 0, 0) := by decide +kernel
theorem f36_36 : mFetch 36 36 = some (.getfield 9, 3, 1, 1, 2, 1) := by decide +kernel
theorem f36_39 : mFetch 36 39 = some (.iconst 1, 1, 0, 0, 0, 0) := by decide +kernel
theorem f36_40 : mFetch 36 40 = some (.iaload, 1, 0, 0, 0, 0) := by decide +kernel
theorem f36_41 : mFetch 36 41 = some (.putfield 78, 3, 0, 1, 0, 0) := by decide +kernel
theorem f36_44 : mFetch 36 44 = some (.iconst 1, 1, 0, 0, 0, 0) := by decide +kernel
theorem f36_45 : mFetch 36 45 = some (.ireturn, 1, 0, 0, 0, 0) := by decide +kernel
theorem b36_0 {X : (Nat → Int) × Nat} {d : Nat} {s : mSt} {Q : mQ} {a1 : Nat} (h1 : isBd a1) (h_1 : Sp X d 40 [mR 3, mI 0, mI 1, mI 9] s (fun r s' => ∃ v : Int, r = some (mI v) ∧ Wp X (d + 1) 36 8 [some (mR 3), some (mR a1)] [mI v] s' Q)) : Wp X (d + 1) 36 0 [some (mR 3), some (mR a1)] [] s Q := Wp_step k36 f36_0 (Wp_step k36 f36_1 (Wp_step k36 f36_2 (Wp_step k36 f36_3 (Wp_step k36 f36_5 ⟨⟨kf_3, Nat.le_of_ble_eq_true rfl⟩, Nat.le_refl _, _, rfl, Sp_E h_1⟩))))
theorem b36_8 {X : (Nat → Int) × Nat} {d : Nat} {s : mSt} {Q : mQ} {a1 : Nat} {xt0 : Int} (h1 : isBd a1) (h_1 : xt0 = 0 → Wp X d 36 22 [some (mR 3), some (mR a1)] [] s Q) (h_2 : ¬ xt0 = 0 → Wp X d 36 11 [some (mR 3), some (mR a1)] [] s Q) : Wp X d 36 8 [some (mR 3), some (mR a1)] [mI xt0] s Q := Wp_step k36 f36_8 ⟨h_1, h_2⟩
theorem b36_11 {X : (Nat → Int) × Nat} {d : Nat} {s : mSt} {Q : mQ} {a1 : Nat} (h1 : isBd a1) (h_1 : Sp X d 40 [mR 3, mI 1, mI 1, mI 20] s (fun r s' => ∃ v : Int, r = some (mI v) ∧ Wp X (d + 1) 36 19 [some (mR 3), some (mR a1)] [mI v] s' Q)) : Wp X (d + 1) 36 11 [some (mR 3), some (mR a1)] [] s Q := Wp_step k36 f36_11 (Wp_step k36 f36_12 (Wp_step k36 f36_13 (Wp_step k36 f36_14 (Wp_step k36 f36_16 ⟨⟨kf_3, Nat.le_of_ble_eq_true rfl⟩, Nat.le_refl _, _, rfl, Sp_E h_1⟩))))
theorem b36_19 {X : (Nat → Int) × Nat} {d : Nat} {s : mSt} {Q : mQ} {a1 : Nat} {xt0 : Int} (h1 : isBd a1) (h_1 : ¬ xt0 = 0 → Wp X d 36 24 [some (mR 3), some (mR a1)] [] s Q) (h_2 : xt0 = 0 → Wp X d 36 22 [some (mR 3), some (mR a1)] [] s Q) : Wp X d 36 19 [some (mR 3), some (mR a1)] [mI xt0] s Q := Wp_step k36 f36_19 ⟨h_1, h_2⟩
theorem b36_22 {X : (Nat → Int) × Nat} {d : Nat} {s : mSt} {Q : mQ} {a1 : Nat} (h1 : isBd a1) (h_1 : Q (some (mI 0)) s) : Wp X d 36 22 [some (mR 3), some (mR a1)] [] s Q := Wp_step k36 f36_22 (Wp_step k36 f36_23 ⟨⟨rfl, (Or.inl rfl)⟩, h_1⟩)
theorem b36_24 {X : (Nat → Int) × Nat} {d : Nat} {s : mSt} {Q : mQ} {a1 : Nat} (h1 : isBd a1) (h_1 : Q (some (mI 1)) (uS (uS s a1 0 (s 4 0)) a1 1 ((uS s a1 0 (s 4 0)) 4 1))) : Wp X d 36 24 [some (mR 3), some (mR a1)] [] s Q := Wp_step k36 f36_24 (Wp_step k36 f36_25 (Wp_step k36 f36_26 ⟨kf_3, 4, rf_3_1, Wp_step k36 f36_29 (Wp_step k36 f36_30 ⟨3, af_4, ⟨by decide, by decide⟩, Wp_step k36 f36_31 ⟨(bd_k h1), Wp_step k36 f36_34 (Wp_step k36 f36_35 (Wp_step k36 f36_36 ⟨kf_3, 4, rf_3_1, Wp_step k36 f36_39 (Wp_step k36 f36_40 ⟨3, af_4, ⟨by decide, by decide⟩, Wp_step k36 f36_41 ⟨(bd_k h1), Wp_step k36 f36_44 (Wp_step k36 f36_45 ⟨⟨rfl, (Or.inr rfl)⟩, h_1⟩)⟩⟩)⟩))⟩⟩)⟩))
theorem e36 {X : (Nat → Int) × Nat} {d : Nat} {s : mSt} {Q : mQ} {a1 : Nat} (h : Wp X d 36 0 [some (mR 3), some (mR a1)] [] s Q) : Sp X d 36 [mR 3, mR a1] s Q := Sp_of (show mCe 36 = 0 by decide +kernel) (by rw [show mML 36 = 2 by decide +kernel]; rfl) (Nat.le_trans (Nat.le_of_ble_eq_true (show Nat.ble (mArgs _).length 2 = true from rfl)) (show 2 ≤ mML 36 by decide +kernel)) h
-- 37 ClashDay$DayReader.readPaper(LClashDay$Board;)Z
theorem k37 : mRk 37 = 2 := by decide +kernel
theorem f37_0 : mFetch 37 0 = some (.aload_n 0, 1, 0, 0, 0, 0) := by decide +kernel
theorem f37_1 : mFetch 37 1 = some (.iconst 0, 1, 0, 0, 0, 0) := by decide +kernel
theorem f37_2 : mFetch 37 2 = some (.iconst 0, 1, 0, 0, 0, 0) := by decide +kernel
theorem f37_3 : mFetch 37 3 = some (.bipush 15, 2, 0, 0, 0, 0) := by decide +kernel
theorem f37_5 : mFetch 37 5 = some (.invokevirtual 71, 3, 40, 0, 4, 1) := by decide +kernel
theorem f37_8 : mFetch 37 8 = some (.ifCond .eq 14, 3, 22, 0, 0, 0) := by decide +kernel
theorem f37_11 : mFetch 37 11 = some (.aload_n 0, 1, 0, 0, 0, 0) := by decide +kernel
theorem f37_12 : mFetch 37 12 = some (.iconst 1, 1, 0, 0, 0, 0) := by decide +kernel
theorem f37_13 : mFetch 37 13 = some (.iconst 1, 1, 0, 0, 0, 0) := by decide +kernel
theorem f37_14 : mFetch 37 14 = some (.bipush 6, 2, 0, 0, 0, 0) := by decide +kernel
theorem f37_16 : mFetch 37 16 = some (.invokevirtual 71, 3, 40, 0, 4, 1) := by decide +kernel
theorem f37_19 : mFetch 37 19 = some (.ifCond .ne 5, 3, 24, 0, 0, 0) := by decide +kernel
theorem f37_22 : mFetch 37 22 = some (.iconst 0, 1, 0, 0, 0, 0) := by decide +kernel
theorem f37_23 : mFetch 37 23 = some (.ireturn, 1, 0, 0, 0, 0) := by decide +kernel
theorem f37_24 : mFetch 37 24 = some (.aload_n 1, 1, 0, 0, 0, 0) := by decide +kernel
theorem f37_25 : mFetch 37 25 = some (.aload_n 0, 1, 0, 0, 0, 0) := by decide +kernel
theorem f37_26 : mFetch 37 26 = some (.getfield 9, 3, 1, 1, 2, 1) := by decide +kernel
theorem f37_29 : mFetch 37 29 = some (.iconst 0, 1, 0, 0, 0, 0) := by decide +kernel
theorem f37_30 : mFetch 37 30 = some (.iaload, 1, 0, 0, 0, 0) := by decide +kernel
theorem f37_31 : mFetch 37 31 = some (.aload_n 0, 1, 0, 0, 0, 0) := by decide +kernel
theorem f37_32 : mFetch 37 32 = some (.getfield 9, 3, 1, 1, 2, 1) := by decide +kernel
theorem f37_35 : mFetch 37 35 = some (.iconst 1, 1, 0, 0, 0, 0) := by decide +kernel
theorem f37_36 : mFetch 37 36 = some (.iaload, 1, 0, 0, 0, 0) := by decide +kernel
theorem f37_37 : mFetch 37 37 = some (.invokevirtual 81, 3, 4, 0, 3, 0) := by decide +kernel
theorem f37_40 : mFetch 37 40 = some (.iconst 1, 1, 0, 0, 0, 0) := by decide +kernel
theorem f37_41 : mFetch 37 41 = some (.ireturn, 1, 0, 0, 0, 0) := by decide +kernel
theorem b37_0 {X : (Nat → Int) × Nat} {d : Nat} {s : mSt} {Q : mQ} {a1 : Nat} (h1 : isBd a1) (h_1 : Sp X d 40 [mR 3, mI 0, mI 0, mI 15] s (fun r s' => ∃ v : Int, r = some (mI v) ∧ Wp X (d + 1) 37 8 [some (mR 3), some (mR a1)] [mI v] s' Q)) : Wp X (d + 1) 37 0 [some (mR 3), some (mR a1)] [] s Q := Wp_step k37 f37_0 (Wp_step k37 f37_1 (Wp_step k37 f37_2 (Wp_step k37 f37_3 (Wp_step k37 f37_5 ⟨⟨kf_3, Nat.le_of_ble_eq_true rfl⟩, Nat.le_refl _, _, rfl, Sp_E h_1⟩))))
theorem b37_8 {X : (Nat → Int) × Nat} {d : Nat} {s : mSt} {Q : mQ} {a1 : Nat} {xt0 : Int} (h1 : isBd a1) (h_1 : xt0 = 0 → Wp X d 37 22 [some (mR 3), some (mR a1)] [] s Q) (h_2 : ¬ xt0 = 0 → Wp X d 37 11 [some (mR 3), some (mR a1)] [] s Q) : Wp X d 37 8 [some (mR 3), some (mR a1)] [mI xt0] s Q := Wp_step k37 f37_8 ⟨h_1, h_2⟩
theorem b37_11 {X : (Nat → Int) × Nat} {d : Nat} {s : mSt} {Q : mQ} {a1 : Nat} (h1 : isBd a1) (h_1 : Sp X d 40 [mR 3, mI 1, mI 1, mI 6] s (fun r s' => ∃ v : Int, r = some (mI v) ∧ Wp X (d + 1) 37 19 [some (mR 3), some (mR a1)] [mI v] s' Q)) : Wp X (d + 1) 37 11 [some (mR 3), some (mR a1)] [] s Q := Wp_step k37 f37_11 (Wp_step k37 f37_12 (Wp_step k37 f37_13 (Wp_step k37 f37_14 (Wp_step k37 f37_16 ⟨⟨kf_3, Nat.le_of_ble_eq_true rfl⟩, Nat.le_refl _, _, rfl, Sp_E h_1⟩))))
theorem b37_19 {X : (Nat → Int) × Nat} {d : Nat} {s : mSt} {Q : mQ} {a1 : Nat} {xt0 : Int} (h1 : isBd a1) (h_1 : ¬ xt0 = 0 → Wp X d 37 24 [some (mR 3), some (mR a1)] [] s Q) (h_2 : xt0 = 0 → Wp X d 37 22 [some (mR 3), some (mR a1)] [] s Q) : Wp X d 37 19 [some (mR 3), some (mR a1)] [mI xt0] s Q := Wp_step k37 f37_19 ⟨h_1, h_2⟩
theorem b37_22 {X : (Nat → Int) × Nat} {d : Nat} {s : mSt} {Q : mQ} {a1 : Nat} (h1 : isBd a1) (h_1 : Q (some (mI 0)) s) : Wp X d 37 22 [some (mR 3), some (mR a1)] [] s Q := Wp_step k37 f37_22 (Wp_step k37 f37_23 ⟨⟨rfl, (Or.inl rfl)⟩, h_1⟩)
theorem b37_24 {X : (Nat → Int) × Nat} {d : Nat} {s : mSt} {Q : mQ} {a1 : Nat} (h1 : isBd a1) (h_1 : Sp X d 4 [mR a1, mI (s 4 0), mI (s 4 1)] s (fun r s' => r = none ∧ Wp X (d + 1) 37 40 [some (mR 3), some (mR a1)] [] s' Q)) : Wp X (d + 1) 37 24 [some (mR 3), some (mR a1)] [] s Q := Wp_step k37 f37_24 (Wp_step k37 f37_25 (Wp_step k37 f37_26 ⟨kf_3, 4, rf_3_1, Wp_step k37 f37_29 (Wp_step k37 f37_30 ⟨3, af_4, ⟨by decide, by decide⟩, Wp_step k37 f37_31 (Wp_step k37 f37_32 ⟨kf_3, 4, rf_3_1, Wp_step k37 f37_35 (Wp_step k37 f37_36 ⟨3, af_4, ⟨by decide, by decide⟩, Wp_step k37 f37_37 ⟨⟨(bd_k h1), Nat.le_of_ble_eq_true rfl⟩, Nat.le_refl _, _, rfl, Sp_V h_1⟩⟩)⟩)⟩)⟩))
theorem b37_40 {X : (Nat → Int) × Nat} {d : Nat} {s : mSt} {Q : mQ} {a1 : Nat} (h1 : isBd a1) (h_1 : Q (some (mI 1)) s) : Wp X d 37 40 [some (mR 3), some (mR a1)] [] s Q := Wp_step k37 f37_40 (Wp_step k37 f37_41 ⟨⟨rfl, (Or.inr rfl)⟩, h_1⟩)
theorem e37 {X : (Nat → Int) × Nat} {d : Nat} {s : mSt} {Q : mQ} {a1 : Nat} (h : Wp X d 37 0 [some (mR 3), some (mR a1)] [] s Q) : Sp X d 37 [mR 3, mR a1] s Q := Sp_of (show mCe 37 = 0 by decide +kernel) (by rw [show mML 37 = 2 by decide +kernel]; rfl) (Nat.le_trans (Nat.le_of_ble_eq_true (show Nat.ble (mArgs _).length 2 = true from rfl)) (show 2 ≤ mML 37 by decide +kernel)) h
-- 38 ClashDay$DayReader.readCandidate(LClashDay$Board;)Z
theorem k38 : mRk 38 = 2 := by decide +kernel
theorem f38_0 : mFetch 38 0 = some (.iconst 1, 1, 0, 0, 0, 0) := by decide +kernel
theorem f38_1 : mFetch 38 1 = some (.aload_n 1, 1, 0, 0, 0, 0) := by decide +kernel
theorem f38_2 : mFetch 38 2 = some (.getfield 49, 3, 0, 2, 0, 0) := by decide +kernel
theorem f38_5 : mFetch 38 5 = some (.ishl, 1, 0, 0, 0, 0) := by decide +kernel
theorem f38_6 : mFetch 38 6 = some (.iconst 1, 1, 0, 0, 0, 0) := by decide +kernel
theorem f38_7 : mFetch 38 7 = some (.isub, 1, 0, 0, 0, 0) := by decide +kernel
theorem f38_8 : mFetch 38 8 = some (.istore_n 2, 1, 0, 0, 0, 0) := by decide +kernel
theorem f38_9 : mFetch 38 9 = some (.aload_n 0, 1, 0, 0, 0, 0) := by decide +kernel
theorem f38_10 : mFetch 38 10 = some (.iconst 0, 1, 0, 0, 0, 0) := by decide +kernel
theorem f38_11 : mFetch 38 11 = some (.iconst 1, 1, 0, 0, 0, 0) := by decide +kernel
theorem f38_12 : mFetch 38 12 = some (.iload_n 2, 1, 0, 0, 0, 0) := by decide +kernel
theorem f38_13 : mFetch 38 13 = some (.invokevirtual 71, 3, 40, 0, 4, 1) := by decide +kernel
theorem f38_16 : mFetch 38 16 = some (.ifCond .eq 24, 3, 40, 0, 0, 0) := by decide +kernel
theorem f38_19 : mFetch 38 19 = some (.aload_n 0, 1, 0, 0, 0, 0) := by decide +kernel
theorem f38_20 : mFetch 38 20 = some (.iconst 1, 1, 0, 0, 0, 0) := by decide +kernel
theorem f38_21 : mFetch 38 21 = some (.iconst 0, 1, 0, 0, 0, 0) := by decide +kernel
theorem f38_22 : mFetch 38 22 = some (.bipush 100, 2, 0, 0, 0, 0) := by decide +kernel
theorem f38_24 : mFetch 38 24 = some (.invokevirtual 71, 3, 40, 0, 4, 1) := by decide +kernel
theorem f38_27 : mFetch 38 27 = some (.ifCond .eq 13, 3, 40, 0, 0, 0) := by decide +kernel
theorem f38_30 : mFetch 38 30 = some (.aload_n 0, 1, 0, 0, 0, 0) := by decide +kernel
theorem f38_31 : mFetch 38 31 = some (.iconst 2, 1, 0, 0, 0, 0) := by decide +kernel
theorem f38_32 : mFetch 38 32 = some (.iconst 0, 1, 0, 0, 0, 0) := by decide +kernel
theorem f38_33 : mFetch 38 33 = some (.iconst 3, 1, 0, 0, 0, 0) := by decide +kernel
theorem f38_34 : mFetch 38 34 = some (.invokevirtual 71, 3, 40, 0, 4, 1) := by decide +kernel
theorem f38_37 : mFetch 38 37 = some (.ifCond .ne 5, 3, 42, 0, 0, 0) := by decide +kernel
theorem f38_40 : mFetch 38 40 = some (.iconst 0, 1, 0, 0, 0, 0) := by decide +kernel
theorem f38_41 : mFetch 38 41 = some (.ireturn, 1, 0, 0, 0, 0) := by decide +kernel
theorem f38_42 : mFetch 38 42 = some (.aload_n 1, 1, 0, 0, 0, 0) := by decide +kernel
theorem f38_43 : mFetch 38 43 = some (.aload_n 0, 1, 0, 0, 0, 0) := by decide +kernel
theorem f38_44 : mFetch 38 44 = some (.getfield 9, 3, 1, 1, 2, 1) := by decide +kernel
theorem f38_47 : mFetch 38 47 = some (.iconst 0, 1, 0, 0, 0, 0) := by decide +kernel
theorem f38_48 : mFetch 38 48 = some (.iaload, 1, 0, 0, 0, 0) := by decide +kernel
theorem f38_49 : mFetch 38 49 = some (.aload_n 0, 1, 0, 0, 0, 0) := by decide +kernel
theorem f38_50 : mFetch 38 50 = some (.getfield 9, 3, 1, 1, 2, 1) := by decide +kernel
theorem f38_53 : mFetch 38 53 = some (.iconst 1, 1, 0, 0, 0, 0) := by decide +kernel
theorem f38_54 : mFetch 38 54 = some (.iaload, 1, 0, 0, 0, 0) := by decide +kernel
theorem f38_55 : mFetch 38 55 = some (.aload_n 0, 1, 0, 0, 0, 0) := by decide +kernel
theorem f38_56 : mFetch 38 56 = some (.getfield 9, 3, 1, 1, 2, 1) := by decide +kernel
theorem f38_59 : mFetch 38 59 = some (.iconst 2, 1, 0, 0, 0, 0) := by decide +kernel
theorem f38_60 : mFetch 38 60 = some (.iaload, 1, 0, 0, 0, 0) := by decide +kernel
theorem f38_61 : mFetch 38 61 = some (.invokevirtual 85, 3, 5, 0, 4, 0) := by decide +kernel
theorem f38_64 : mFetch 38 64 = some (.iconst 1, 1, 0, 0, 0, 0) := by decide +kernel
theorem f38_65 : mFetch 38 65 = some (.ireturn, 1, 0, 0, 0, 0) := by decide +kernel
theorem b38_0 {X : (Nat → Int) × Nat} {d : Nat} {s : mSt} {Q : mQ} {a1 : Nat} {l2 : Option mV} (h1 : isBd a1) (h_1 : Sp X d 40 [mR 3, mI 0, mI 1, mI (w32 ((iShl 1 (s a1 2)) - 1))] s (fun r s' => ∃ v : Int, r = some (mI v) ∧ Wp X (d + 1) 38 16 [some (mR 3), some (mR a1), some (mI (w32 ((iShl 1 (s a1 2)) - 1)))] [mI v] s' Q)) : Wp X (d + 1) 38 0 [some (mR 3), some (mR a1), l2] [] s Q := Wp_step k38 f38_0 (Wp_step k38 f38_1 (Wp_step k38 f38_2 ⟨(bd_k h1), Wp_step k38 f38_5 (Wp_step k38 f38_6 (Wp_step k38 f38_7 (Wp_step k38 f38_8 (Wp_step k38 f38_9 (Wp_step k38 f38_10 (Wp_step k38 f38_11 (Wp_step k38 f38_12 (Wp_step k38 f38_13 ⟨⟨kf_3, Nat.le_of_ble_eq_true rfl⟩, Nat.le_refl _, _, rfl, Sp_E h_1⟩))))))))⟩))
theorem b38_16 {X : (Nat → Int) × Nat} {d : Nat} {s : mSt} {Q : mQ} {a1 : Nat} {x2 : Int} {xt0 : Int} (h1 : isBd a1) (h_1 : xt0 = 0 → Wp X d 38 40 [some (mR 3), some (mR a1), some (mI x2)] [] s Q) (h_2 : ¬ xt0 = 0 → Wp X d 38 19 [some (mR 3), some (mR a1), some (mI x2)] [] s Q) : Wp X d 38 16 [some (mR 3), some (mR a1), some (mI x2)] [mI xt0] s Q := Wp_step k38 f38_16 ⟨h_1, h_2⟩
theorem b38_19 {X : (Nat → Int) × Nat} {d : Nat} {s : mSt} {Q : mQ} {a1 : Nat} {x2 : Int} (h1 : isBd a1) (h_1 : Sp X d 40 [mR 3, mI 1, mI 0, mI 100] s (fun r s' => ∃ v : Int, r = some (mI v) ∧ Wp X (d + 1) 38 27 [some (mR 3), some (mR a1), some (mI x2)] [mI v] s' Q)) : Wp X (d + 1) 38 19 [some (mR 3), some (mR a1), some (mI x2)] [] s Q := Wp_step k38 f38_19 (Wp_step k38 f38_20 (Wp_step k38 f38_21 (Wp_step k38 f38_22 (Wp_step k38 f38_24 ⟨⟨kf_3, Nat.le_of_ble_eq_true rfl⟩, Nat.le_refl _, _, rfl, Sp_E h_1⟩))))
theorem b38_27 {X : (Nat → Int) × Nat} {d : Nat} {s : mSt} {Q : mQ} {a1 : Nat} {x2 : Int} {xt0 : Int} (h1 : isBd a1) (h_1 : xt0 = 0 → Wp X d 38 40 [some (mR 3), some (mR a1), some (mI x2)] [] s Q) (h_2 : ¬ xt0 = 0 → Wp X d 38 30 [some (mR 3), some (mR a1), some (mI x2)] [] s Q) : Wp X d 38 27 [some (mR 3), some (mR a1), some (mI x2)] [mI xt0] s Q := Wp_step k38 f38_27 ⟨h_1, h_2⟩
theorem b38_30 {X : (Nat → Int) × Nat} {d : Nat} {s : mSt} {Q : mQ} {a1 : Nat} {x2 : Int} (h1 : isBd a1) (h_1 : Sp X d 40 [mR 3, mI 2, mI 0, mI 3] s (fun r s' => ∃ v : Int, r = some (mI v) ∧ Wp X (d + 1) 38 37 [some (mR 3), some (mR a1), some (mI x2)] [mI v] s' Q)) : Wp X (d + 1) 38 30 [some (mR 3), some (mR a1), some (mI x2)] [] s Q := Wp_step k38 f38_30 (Wp_step k38 f38_31 (Wp_step k38 f38_32 (Wp_step k38 f38_33 (Wp_step k38 f38_34 ⟨⟨kf_3, Nat.le_of_ble_eq_true rfl⟩, Nat.le_refl _, _, rfl, Sp_E h_1⟩))))
theorem b38_37 {X : (Nat → Int) × Nat} {d : Nat} {s : mSt} {Q : mQ} {a1 : Nat} {x2 : Int} {xt0 : Int} (h1 : isBd a1) (h_1 : ¬ xt0 = 0 → Wp X d 38 42 [some (mR 3), some (mR a1), some (mI x2)] [] s Q) (h_2 : xt0 = 0 → Wp X d 38 40 [some (mR 3), some (mR a1), some (mI x2)] [] s Q) : Wp X d 38 37 [some (mR 3), some (mR a1), some (mI x2)] [mI xt0] s Q := Wp_step k38 f38_37 ⟨h_1, h_2⟩
theorem b38_40 {X : (Nat → Int) × Nat} {d : Nat} {s : mSt} {Q : mQ} {a1 : Nat} {x2 : Int} (h1 : isBd a1) (h_1 : Q (some (mI 0)) s) : Wp X d 38 40 [some (mR 3), some (mR a1), some (mI x2)] [] s Q := Wp_step k38 f38_40 (Wp_step k38 f38_41 ⟨⟨rfl, (Or.inl rfl)⟩, h_1⟩)
theorem b38_42 {X : (Nat → Int) × Nat} {d : Nat} {s : mSt} {Q : mQ} {a1 : Nat} {x2 : Int} (h1 : isBd a1) (h_1 : Sp X d 5 [mR a1, mI (s 4 0), mI (s 4 1), mI (s 4 2)] s (fun r s' => r = none ∧ Wp X (d + 1) 38 64 [some (mR 3), some (mR a1), some (mI x2)] [] s' Q)) : Wp X (d + 1) 38 42 [some (mR 3), some (mR a1), some (mI x2)] [] s Q := Wp_step k38 f38_42 (Wp_step k38 f38_43 (Wp_step k38 f38_44 ⟨kf_3, 4, rf_3_1, Wp_step k38 f38_47 (Wp_step k38 f38_48 ⟨3, af_4, ⟨by decide, by decide⟩, Wp_step k38 f38_49 (Wp_step k38 f38_50 ⟨kf_3, 4, rf_3_1, Wp_step k38 f38_53 (Wp_step k38 f38_54 ⟨3, af_4, ⟨by decide, by decide⟩, Wp_step k38 f38_55 (Wp_step k38 f38_56 ⟨kf_3, 4, rf_3_1, Wp_step k38 f38_59 (Wp_step k38 f38_60 ⟨3, af_4, ⟨by decide, by decide⟩, Wp_step k38 f38_61 ⟨⟨(bd_k h1), Nat.le_of_ble_eq_true rfl⟩, Nat.le_refl _, _, rfl, Sp_V h_1⟩⟩)⟩)⟩)⟩)⟩)⟩))
theorem b38_64 {X : (Nat → Int) × Nat} {d : Nat} {s : mSt} {Q : mQ} {a1 : Nat} {x2 : Int} (h1 : isBd a1) (h_1 : Q (some (mI 1)) s) : Wp X d 38 64 [some (mR 3), some (mR a1), some (mI x2)] [] s Q := Wp_step k38 f38_64 (Wp_step k38 f38_65 ⟨⟨rfl, (Or.inr rfl)⟩, h_1⟩)
theorem e38 {X : (Nat → Int) × Nat} {d : Nat} {s : mSt} {Q : mQ} {a1 : Nat} (h : Wp X d 38 0 [some (mR 3), some (mR a1), none] [] s Q) : Sp X d 38 [mR 3, mR a1] s Q := Sp_of (show mCe 38 = 0 by decide +kernel) (by rw [show mML 38 = 3 by decide +kernel]; rfl) (Nat.le_trans (Nat.le_of_ble_eq_true (show Nat.ble (mArgs _).length 3 = true from rfl)) (show 3 ≤ mML 38 by decide +kernel)) h
-- 39 ClashDay$DayReader.readTaken(LClashDay$Board;)Z
theorem k39 : mRk 39 = 2 := by decide +kernel
theorem f39_0 : mFetch 39 0 = some (.aload_n 0, 1, 0, 0, 0, 0) := by decide +kernel
theorem f39_1 : mFetch 39 1 = some (.iconst 0, 1, 0, 0, 0, 0) := by decide +kernel
theorem f39_2 : mFetch 39 2 = some (.iconst 0, 1, 0, 0, 0, 0) := by decide +kernel
theorem f39_3 : mFetch 39 3 = some (.bipush 29, 2, 0, 0, 0, 0) := by decide +kernel
theorem f39_5 : mFetch 39 5 = some (.invokevirtual 71, 3, 40, 0, 4, 1) := by decide +kernel
theorem f39_8 : mFetch 39 8 = some (.ifCond .eq 14, 3, 22, 0, 0, 0) := by decide +kernel
theorem f39_11 : mFetch 39 11 = some (.aload_n 0, 1, 0, 0, 0, 0) := by decide +kernel
theorem f39_12 : mFetch 39 12 = some (.iconst 1, 1, 0, 0, 0, 0) := by decide +kernel
theorem f39_13 : mFetch 39 13 = some (.iconst 0, 1, 0, 0, 0, 0) := by decide +kernel
theorem f39_14 : mFetch 39 14 = some (.bipush 9, 2, 0, 0, 0, 0) := by decide +kernel
theorem f39_16 : mFetch 39 16 = some (.invokevirtual 71, 3, 40, 0, 4, 1) := by decide +kernel
theorem f39_19 : mFetch 39 19 = some (.ifCond .ne 5, 3, 24, 0, 0, 0) := by decide +kernel
theorem f39_22 : mFetch 39 22 = some (.iconst 0, 1, 0, 0, 0, 0) := by decide +kernel
theorem f39_23 : mFetch 39 23 = some (.ireturn, 1, 0, 0, 0, 0) := by decide +kernel
theorem f39_24 : mFetch 39 24 = some (.aload_n 1, 1, 0, 0, 0, 0) := by decide +kernel
theorem f39_25 : mFetch 39 25 = some (.getfield 89, 3, 0, 11, 2, 0) := by decide +kernel
theorem f39_28 : mFetch 39 28 = some (.aload_n 0, 1, 0, 0, 0, 0) := by decide +kernel
theorem f39_29 : mFetch 39 29 = some (.getfield 9, 3, 1, 1, 2, 1) := by decide +kernel
theorem f39_32 : mFetch 39 32 = some (.iconst 0, 1, 0, 0, 0, 0) := by decide +kernel
theorem f39_33 : mFetch 39 33 = some (.iaload, 1, 0, 0, 0, 0) := by decide +kernel
theorem f39_34 : mFetch 39 34 = some (.aload_n 0, 1, 0, 0, 0, 0) := by decide +kernel
theorem f39_35 : mFetch 39 35 = some (.getfield 9, 3, 1, 1, 2, 1) := by decide +kernel
theorem f39_38 : mFetch 39 38 = some (.iconst 1, 1, 0, 0, 0, 0) := by decide +kernel
theorem f39_39 : mFetch 39 39 = some (.iaload, 1, 0, 0, 0, 0) := by decide +kernel
theorem f39_40 : mFetch 39 40 = some (.iastore, 1, 0, 0, 0, 0) := by decide +kernel
theorem f39_41 : mFetch 39 41 = some (.iconst 1, 1, 0, 0, 0, 0) := by decide +kernel
theorem f39_42 : mFetch 39 42 = some (.ireturn, 1, 0, 0, 0, 0) := by decide +kernel
theorem b39_0 {X : (Nat → Int) × Nat} {d : Nat} {s : mSt} {Q : mQ} {a1 : Nat} (h1 : isBd a1) (h_1 : Sp X d 40 [mR 3, mI 0, mI 0, mI 29] s (fun r s' => ∃ v : Int, r = some (mI v) ∧ Wp X (d + 1) 39 8 [some (mR 3), some (mR a1)] [mI v] s' Q)) : Wp X (d + 1) 39 0 [some (mR 3), some (mR a1)] [] s Q := Wp_step k39 f39_0 (Wp_step k39 f39_1 (Wp_step k39 f39_2 (Wp_step k39 f39_3 (Wp_step k39 f39_5 ⟨⟨kf_3, Nat.le_of_ble_eq_true rfl⟩, Nat.le_refl _, _, rfl, Sp_E h_1⟩))))
theorem b39_8 {X : (Nat → Int) × Nat} {d : Nat} {s : mSt} {Q : mQ} {a1 : Nat} {xt0 : Int} (h1 : isBd a1) (h_1 : xt0 = 0 → Wp X d 39 22 [some (mR 3), some (mR a1)] [] s Q) (h_2 : ¬ xt0 = 0 → Wp X d 39 11 [some (mR 3), some (mR a1)] [] s Q) : Wp X d 39 8 [some (mR 3), some (mR a1)] [mI xt0] s Q := Wp_step k39 f39_8 ⟨h_1, h_2⟩
theorem b39_11 {X : (Nat → Int) × Nat} {d : Nat} {s : mSt} {Q : mQ} {a1 : Nat} (h1 : isBd a1) (h_1 : Sp X d 40 [mR 3, mI 1, mI 0, mI 9] s (fun r s' => ∃ v : Int, r = some (mI v) ∧ Wp X (d + 1) 39 19 [some (mR 3), some (mR a1)] [mI v] s' Q)) : Wp X (d + 1) 39 11 [some (mR 3), some (mR a1)] [] s Q := Wp_step k39 f39_11 (Wp_step k39 f39_12 (Wp_step k39 f39_13 (Wp_step k39 f39_14 (Wp_step k39 f39_16 ⟨⟨kf_3, Nat.le_of_ble_eq_true rfl⟩, Nat.le_refl _, _, rfl, Sp_E h_1⟩))))
theorem b39_19 {X : (Nat → Int) × Nat} {d : Nat} {s : mSt} {Q : mQ} {a1 : Nat} {xt0 : Int} (h1 : isBd a1) (h_1 : ¬ xt0 = 0 → Wp X d 39 24 [some (mR 3), some (mR a1)] [] s Q) (h_2 : xt0 = 0 → Wp X d 39 22 [some (mR 3), some (mR a1)] [] s Q) : Wp X d 39 19 [some (mR 3), some (mR a1)] [mI xt0] s Q := Wp_step k39 f39_19 ⟨h_1, h_2⟩
theorem b39_22 {X : (Nat → Int) × Nat} {d : Nat} {s : mSt} {Q : mQ} {a1 : Nat} (h1 : isBd a1) (h_1 : Q (some (mI 0)) s) : Wp X d 39 22 [some (mR 3), some (mR a1)] [] s Q := Wp_step k39 f39_22 (Wp_step k39 f39_23 ⟨⟨rfl, (Or.inl rfl)⟩, h_1⟩)
theorem b39_24 {X : (Nat → Int) × Nat} {d : Nat} {s : mSt} {Q : mQ} {a1 : Nat} (h1 : isBd a1) (h_1 : 0 ≤ (s 4 0) ∧ (s 4 0) < 30) (h_2 : Q (some (mI 1)) (uS s (a1 + 6) ((s 4 0).toNat) (s 4 1))) : Wp X d 39 24 [some (mR 3), some (mR a1)] [] s Q := Wp_step k39 f39_24 (Wp_step k39 f39_25 ⟨(bd_k h1), (a1 + 6), (bd_r11 h1), Wp_step k39 f39_28 (Wp_step k39 f39_29 ⟨kf_3, 4, rf_3_1, Wp_step k39 f39_32 (Wp_step k39 f39_33 ⟨3, af_4, ⟨by decide, by decide⟩, Wp_step k39 f39_34 (Wp_step k39 f39_35 ⟨kf_3, 4, rf_3_1, Wp_step k39 f39_38 (Wp_step k39 f39_39 ⟨3, af_4, ⟨by decide, by decide⟩, Wp_step k39 f39_40 ⟨30, (bd_a11 h1), h_1, Wp_step k39 f39_41 (Wp_step k39 f39_42 ⟨⟨rfl, (Or.inr rfl)⟩, h_2⟩)⟩⟩)⟩)⟩)⟩)⟩)
theorem e39 {X : (Nat → Int) × Nat} {d : Nat} {s : mSt} {Q : mQ} {a1 : Nat} (h : Wp X d 39 0 [some (mR 3), some (mR a1)] [] s Q) : Sp X d 39 [mR 3, mR a1] s Q := Sp_of (show mCe 39 = 0 by decide +kernel) (by rw [show mML 39 = 2 by decide +kernel]; rfl) (Nat.le_trans (Nat.le_of_ble_eq_true (show Nat.ble (mArgs _).length 2 = true from rfl)) (show 2 ≤ mML 39 by decide +kernel)) h
-- 40 ClashDay$DayReader.readNumber(III)Z
theorem k40 : mRk 40 = 2 := by decide +kernel
theorem f40_0 : mFetch 40 0 = some (.aload_n 0, 1, 0, 0, 0, 0) := by decide +kernel
theorem f40_1 : mFetch 40 1 = some (.getfield 15, 3, 1, 0, 2, 1) := by decide +kernel
theorem f40_4 : mFetch 40 4 = some (.iload_n 2, 1, 0, 0, 0, 0) := by decide +kernel
theorem f40_5 : mFetch 40 5 = some (.iload_n 3, 1, 0, 0, 0, 0) := by decide +kernel
theorem f40_6 : mFetch 40 6 = some (.invokevirtual 92, 3, 95, 0, 3, 8) := by decide +kernel
theorem f40_9 : mFetch 40 9 = some (.istore 4, 2, 0, 0, 0, 0) := by decide +kernel
theorem f40_11 : mFetch 40 11 = some (.iload 4, 2, 0, 0, 0, 0) := by decide +kernel
theorem f40_13 : mFetch 40 13 = some (.iconst (-1), 1, 0, 0, 0, 0) := by decide +kernel
theorem f40_14 : mFetch 40 14 = some (.if_icmp .eq 13, 3, 27, 0, 0, 0) := by decide +kernel
theorem f40_17 : mFetch 40 17 = some (.aload_n 0, 1, 0, 0, 0, 0) := by decide +kernel
theorem f40_18 : mFetch 40 18 = some (.getfield 15, 3, 1, 0, 2, 1) := by decide +kernel
theorem f40_21 : mFetch 40 21 = some (.iload 4, 2, 0, 0, 0, 0) := by decide +kernel
theorem f40_23 : mFetch 40 23 = some (.invokevirtual 45, 3, 94, 0, 2, 8) := by decide +kernel
theorem f40_26 : mFetch 40 26 = some (.ireturn, 1, 0, 0, 0, 0) := by decide +kernel
theorem f40_27 : mFetch 40 27 = some (.aload_n 0, 1, 0, 0, 0, 0) := by decide +kernel
theorem f40_28 : mFetch 40 28 = some (.getfield 9, 3, 1, 1, 2, 1) := by decide +kernel
theorem f40_31 : mFetch 40 31 = some (.iload_n 1, 1, 0, 0, 0, 0) := by decide +kernel
theorem f40_32 : mFetch 40 32 = some (.aload_n 0, 1, 0, 0, 0, 0) := by decide +kernel
theorem f40_33 : mFetch 40 33 = some (.getfield 15, 3, 1, 0, 2, 1) := by decide +kernel
theorem f40_36 : mFetch 40 36 = some (.getfield 96, 3, 8, 5, 0, 0) := by decide +kernel
theorem f40_39 : mFetch 40 39 = some (.iastore, 1, 0, 0, 0, 0) := by decide +kernel
theorem f40_40 : mFetch 40 40 = some (.aload_n 0, 1, 0, 0, 0, 0) := by decide +kernel
theorem f40_41 : mFetch 40 41 = some (.getfield 15, 3, 1, 0, 2, 1) := by decide +kernel
theorem f40_44 : mFetch 40 44 = some (.invokevirtual 55, 3, 90, 0, 1, 8) := by decide +kernel
theorem f40_47 : mFetch 40 47 = some (.iconst 1, 1, 0, 0, 0, 0) := by decide +kernel
theorem f40_48 : mFetch 40 48 = some (.ireturn, 1, 0, 0, 0, 0) := by decide +kernel
theorem b40_0 {X : (Nat → Int) × Nat} {d : Nat} {s : mSt} {Q : mQ} {x1 : Int} {x2 : Int} {x3 : Int} {l4 : Option mV} (h_1 : Sp X d 95 [mR 1, mI x2, mI x3] s (fun r s' => ∃ v : Int, r = some (mI v) ∧ Wp X (d + 1) 40 9 [some (mR 3), some (mI x1), some (mI x2), some (mI x3), l4] [mI v] s' Q)) : Wp X (d + 1) 40 0 [some (mR 3), some (mI x1), some (mI x2), some (mI x3), l4] [] s Q := Wp_step k40 f40_0 (Wp_step k40 f40_1 ⟨kf_3, 1, rf_3_0, Wp_step k40 f40_4 (Wp_step k40 f40_5 (Wp_step k40 f40_6 ⟨⟨kf_1, Nat.le_of_ble_eq_true rfl⟩, Nat.le_refl _, _, rfl, Sp_E h_1⟩))⟩)
theorem b40_9 {X : (Nat → Int) × Nat} {d : Nat} {s : mSt} {Q : mQ} {x1 : Int} {x2 : Int} {x3 : Int} {l4 : Option mV} {xt0 : Int} (h_1 : xt0 = (-1) → Wp X d 40 27 [some (mR 3), some (mI x1), some (mI x2), some (mI x3), some (mI xt0)] [] s Q) (h_2 : ¬ xt0 = (-1) → Wp X d 40 17 [some (mR 3), some (mI x1), some (mI x2), some (mI x3), some (mI xt0)] [] s Q) : Wp X d 40 9 [some (mR 3), some (mI x1), some (mI x2), some (mI x3), l4] [mI xt0] s Q := Wp_step k40 f40_9 (Wp_step k40 f40_11 (Wp_step k40 f40_13 (Wp_step k40 f40_14 ⟨h_1, h_2⟩)))
theorem b40_17 {X : (Nat → Int) × Nat} {d : Nat} {s : mSt} {Q : mQ} {x1 : Int} {x2 : Int} {x3 : Int} {x4 : Int} (h_1 : Sp X d 94 [mR 1, mI x4] s (fun r s' => ∃ v : Int, r = some (mI v) ∧ Wp X (d + 1) 40 26 [some (mR 3), some (mI x1), some (mI x2), some (mI x3), some (mI x4)] [mI v] s' Q)) : Wp X (d + 1) 40 17 [some (mR 3), some (mI x1), some (mI x2), some (mI x3), some (mI x4)] [] s Q := Wp_step k40 f40_17 (Wp_step k40 f40_18 ⟨kf_3, 1, rf_3_0, Wp_step k40 f40_21 (Wp_step k40 f40_23 ⟨⟨kf_1, Nat.le_of_ble_eq_true rfl⟩, Nat.le_refl _, _, rfl, Sp_E h_1⟩)⟩)
theorem b40_26 {X : (Nat → Int) × Nat} {d : Nat} {s : mSt} {Q : mQ} {x1 : Int} {x2 : Int} {x3 : Int} {x4 : Int} {xt0 : Int} (h_1 : Q (some (mI xt0)) s) (h_2 : xt0 = 0 ∨ xt0 = 1) : Wp X d 40 26 [some (mR 3), some (mI x1), some (mI x2), some (mI x3), some (mI x4)] [mI xt0] s Q := Wp_step k40 f40_26 ⟨⟨rfl, h_2⟩, h_1⟩
theorem b40_27 {X : (Nat → Int) × Nat} {d : Nat} {s : mSt} {Q : mQ} {x1 : Int} {x2 : Int} {x3 : Int} {x4 : Int} (h_1 : 0 ≤ x1 ∧ x1 < 3) (h_2 : Sp X d 90 [mR 1] (uS s 4 x1.toNat (s 1 5)) (fun r s' => r = none ∧ Wp X (d + 1) 40 47 [some (mR 3), some (mI x1), some (mI x2), some (mI x3), some (mI x4)] [] s' Q)) : Wp X (d + 1) 40 27 [some (mR 3), some (mI x1), some (mI x2), some (mI x3), some (mI x4)] [] s Q := Wp_step k40 f40_27 (Wp_step k40 f40_28 ⟨kf_3, 4, rf_3_1, Wp_step k40 f40_31 (Wp_step k40 f40_32 (Wp_step k40 f40_33 ⟨kf_3, 1, rf_3_0, Wp_step k40 f40_36 ⟨kf_1, Wp_step k40 f40_39 ⟨3, af_4, h_1, Wp_step k40 f40_40 (Wp_step k40 f40_41 ⟨kf_3, 1, rf_3_0, Wp_step k40 f40_44 ⟨⟨kf_1, Nat.le_of_ble_eq_true rfl⟩, Nat.le_refl _, _, rfl, Sp_V h_2⟩⟩)⟩⟩⟩))⟩)
theorem b40_47 {X : (Nat → Int) × Nat} {d : Nat} {s : mSt} {Q : mQ} {x1 : Int} {x2 : Int} {x3 : Int} {x4 : Int} (h_1 : Q (some (mI 1)) s) : Wp X d 40 47 [some (mR 3), some (mI x1), some (mI x2), some (mI x3), some (mI x4)] [] s Q := Wp_step k40 f40_47 (Wp_step k40 f40_48 ⟨⟨rfl, (Or.inr rfl)⟩, h_1⟩)
theorem e40 {X : (Nat → Int) × Nat} {d : Nat} {s : mSt} {Q : mQ} {x1 : Int} {x2 : Int} {x3 : Int} (h : Wp X d 40 0 [some (mR 3), some (mI x1), some (mI x2), some (mI x3), none] [] s Q) : Sp X d 40 [mR 3, mI x1, mI x2, mI x3] s Q := Sp_of (show mCe 40 = 0 by decide +kernel) (by rw [show mML 40 = 5 by decide +kernel]; rfl) (Nat.le_trans (Nat.le_of_ble_eq_true (show Nat.ble (mArgs _).length 5 = true from rfl)) (show 5 ≤ mML 40 by decide +kernel)) h
-- 42 ClashDay$Lines.sign(LClashDay$Board;II)C
theorem k42 : mRk 42 = 3 := by decide +kernel
theorem f42_0 : mFetch 42 0 = some (.aload_n 0, 1, 0, 0, 0, 0) := by decide +kernel
theorem f42_1 : mFetch 42 1 = some (.iload_n 1, 1, 0, 0, 0, 0) := by decide +kernel
theorem f42_2 : mFetch 42 2 = some (.iload_n 2, 1, 0, 0, 0, 0) := by decide +kernel
theorem f42_3 : mFetch 42 3 = some (.invokevirtual 26, 3, 20, 0, 3, 0) := by decide +kernel
theorem f42_6 : mFetch 42 6 = some (.ifCond .eq 6, 3, 12, 0, 0, 0) := by decide +kernel
theorem f42_9 : mFetch 42 9 = some (.bipush 107, 2, 0, 0, 0, 0) := by decide +kernel
theorem f42_11 : mFetch 42 11 = some (.ireturn, 1, 0, 0, 0, 0) := by decide +kernel
theorem f42_12 : mFetch 42 12 = some (.iconst 0, 1, 0, 0, 0, 0) := by decide +kernel
theorem f42_13 : mFetch 42 13 = some (.istore_n 3, 1, 0, 0, 0, 0) := by decide +kernel
theorem f42_14 : mFetch 42 14 = some (.iload_n 3, 1, 0, 0, 0, 0) := by decide +kernel
theorem f42_15 : mFetch 42 15 = some (.aload_n 0, 1, 0, 0, 0, 0) := by decide +kernel
theorem f42_16 : mFetch 42 16 = some (.getfield 32, 3, 0, 2, 0, 0) := by decide +kernel
theorem f42_19 : mFetch 42 19 = some (.if_icmp .ge 50, 3, 69, 0, 0, 0) := by decide +kernel
theorem f42_22 : mFetch 42 22 = some (.aload_n 0, 1, 0, 0, 0, 0) := by decide +kernel
theorem f42_23 : mFetch 42 23 = some (.iload_n 1, 1, 0, 0, 0, 0) := by decide +kernel
theorem f42_24 : mFetch 42 24 = some (.iload_n 3, 1, 0, 0, 0, 0) := by decide +kernel
theorem f42_25 : mFetch 42 25 = some (.invokevirtual 36, 3, 12, 0, 3, 0) := by decide +kernel
theorem f42_28 : mFetch 42 28 = some (.ifCond .eq 35, 3, 63, 0, 0, 0) := by decide +kernel
theorem f42_31 : mFetch 42 31 = some (.iload_n 2, 1, 0, 0, 0, 0) := by decide +kernel
theorem f42_32 : mFetch 42 32 = some (.aload_n 0, 1, 0, 0, 0, 0) := by decide +kernel
theorem f42_33 : mFetch 42 33 = some (.iload_n 1, 1, 0, 0, 0, 0) := by decide +kernel
theorem f42_34 : mFetch 42 34 = some (.iload_n 3, 1, 0, 0, 0, 0) := by decide +kernel
theorem f42_35 : mFetch 42 35 = some (.invokevirtual 39, 3, 16, 0, 3, 0) := by decide +kernel
theorem f42_38 : mFetch 42 38 = some (.isub, 1, 0, 0, 0, 0) := by decide +kernel
theorem f42_39 : mFetch 42 39 = some (.istore 4, 2, 0, 0, 0, 0) := by decide +kernel
theorem f42_41 : mFetch 42 41 = some (.iload 4, 2, 0, 0, 0, 0) := by decide +kernel
theorem f42_43 : mFetch 42 43 = some (.ifCond .lt 20, 3, 63, 0, 0, 0) := by decide +kernel
theorem f42_46 : mFetch 42 46 = some (.iload 4, 2, 0, 0, 0, 0) := by decide +kernel
theorem f42_48 : mFetch 42 48 = some (.aload_n 0, 1, 0, 0, 0, 0) := by decide +kernel
theorem f42_49 : mFetch 42 49 = some (.iload_n 1, 1, 0, 0, 0, 0) := by decide +kernel
theorem f42_50 : mFetch 42 50 = some (.iload_n 3, 1, 0, 0, 0, 0) := by decide +kernel
theorem f42_51 : mFetch 42 51 = some (.invokevirtual 43, 3, 14, 0, 3, 0) := by decide +kernel
theorem f42_54 : mFetch 42 54 = some (.if_icmp .ge 9, 3, 63, 0, 0, 0) := by decide +kernel
theorem f42_57 : mFetch 42 57 = some (.bipush 65, 2, 0, 0, 0, 0) := by decide +kernel
theorem f42_59 : mFetch 42 59 = some (.iload_n 3, 1, 0, 0, 0, 0) := by decide +kernel
theorem f42_60 : mFetch 42 60 = some (.iadd, 1, 0, 0, 0, 0) := by decide +kernel
theorem f42_61 : mFetch 42 61 = some (.i2c, 1, 0, 0, 0, 0) := by decide +kernel
theorem f42_62 : mFetch 42 62 = some (.ireturn, 1, 0, 0, 0, 0) := by decide +kernel
theorem f42_63 : mFetch 42 63 = some (.iinc 3 1, 3, 0, 0, 0, 0) := by decide +kernel
theorem f42_66 : mFetch 42 66 = some (.goto (-52), 3, 14, 0, 0, 0) := by decide +kernel
theorem f42_69 : mFetch 42 69 = some (.bipush 46, 2, 0, 0, 0, 0) := by decide +kernel
theorem f42_71 : mFetch 42 71 = some (.ireturn, 1, 0, 0, 0, 0) := by decide +kernel
theorem b42_0 {X : (Nat → Int) × Nat} {d : Nat} {s : mSt} {Q : mQ} {a0 : Nat} {x1 : Int} {x2 : Int} {l3 : Option mV} {l4 : Option mV} (h0 : isBd a0) (h_1 : Sp X d 20 [mR a0, mI x1, mI x2] s (fun r s' => ∃ v : Int, r = some (mI v) ∧ Wp X (d + 1) 42 6 [some (mR a0), some (mI x1), some (mI x2), l3, l4] [mI v] s' Q)) : Wp X (d + 1) 42 0 [some (mR a0), some (mI x1), some (mI x2), l3, l4] [] s Q := Wp_step k42 f42_0 (Wp_step k42 f42_1 (Wp_step k42 f42_2 (Wp_step k42 f42_3 ⟨⟨(bd_k h0), Nat.le_of_ble_eq_true rfl⟩, Nat.le_refl _, _, rfl, Sp_E h_1⟩)))
theorem b42_6 {X : (Nat → Int) × Nat} {d : Nat} {s : mSt} {Q : mQ} {a0 : Nat} {x1 : Int} {x2 : Int} {l3 : Option mV} {l4 : Option mV} {xt0 : Int} (h0 : isBd a0) (h_1 : xt0 = 0 → Wp X d 42 12 [some (mR a0), some (mI x1), some (mI x2), l3, l4] [] s Q) (h_2 : ¬ xt0 = 0 → Wp X d 42 9 [some (mR a0), some (mI x1), some (mI x2), l3, l4] [] s Q) : Wp X d 42 6 [some (mR a0), some (mI x1), some (mI x2), l3, l4] [mI xt0] s Q := Wp_step k42 f42_6 ⟨h_1, h_2⟩
theorem b42_9 {X : (Nat → Int) × Nat} {d : Nat} {s : mSt} {Q : mQ} {a0 : Nat} {x1 : Int} {x2 : Int} {l3 : Option mV} {l4 : Option mV} (h0 : isBd a0) (h_1 : Q (some (mI 107)) s) : Wp X d 42 9 [some (mR a0), some (mI x1), some (mI x2), l3, l4] [] s Q := Wp_step k42 f42_9 (Wp_step k42 f42_11 ⟨⟨rfl, ⟨by decide, by decide⟩⟩, h_1⟩)
theorem b42_12 {X : (Nat → Int) × Nat} {d : Nat} {s : mSt} {Q : mQ} {a0 : Nat} {x1 : Int} {x2 : Int} {l3 : Option mV} {l4 : Option mV} (h0 : isBd a0) (h_1 : Wp X d 42 14 [some (mR a0), some (mI x1), some (mI x2), some (mI 0), l4] [] s Q) : Wp X d 42 12 [some (mR a0), some (mI x1), some (mI x2), l3, l4] [] s Q := Wp_step k42 f42_12 (Wp_step k42 f42_13 (h_1))
theorem b42_14 {X : (Nat → Int) × Nat} {d : Nat} {s : mSt} {Q : mQ} {a0 : Nat} {x1 : Int} {x2 : Int} {x3 : Int} {l4 : Option mV} (h0 : isBd a0) (h_1 : (s a0 2) ≤ x3 → Wp X d 42 69 [some (mR a0), some (mI x1), some (mI x2), some (mI x3), l4] [] s Q) (h_2 : ¬ (s a0 2) ≤ x3 → Wp X d 42 22 [some (mR a0), some (mI x1), some (mI x2), some (mI x3), l4] [] s Q) : Wp X d 42 14 [some (mR a0), some (mI x1), some (mI x2), some (mI x3), l4] [] s Q := Wp_step k42 f42_14 (Wp_step k42 f42_15 (Wp_step k42 f42_16 ⟨(bd_k h0), Wp_step k42 f42_19 ⟨h_1, h_2⟩⟩))
theorem b42_22 {X : (Nat → Int) × Nat} {d : Nat} {s : mSt} {Q : mQ} {a0 : Nat} {x1 : Int} {x2 : Int} {x3 : Int} {l4 : Option mV} (h0 : isBd a0) (h_1 : Sp X d 12 [mR a0, mI x1, mI x3] s (fun r s' => ∃ v : Int, r = some (mI v) ∧ Wp X (d + 1) 42 28 [some (mR a0), some (mI x1), some (mI x2), some (mI x3), l4] [mI v] s' Q)) : Wp X (d + 1) 42 22 [some (mR a0), some (mI x1), some (mI x2), some (mI x3), l4] [] s Q := Wp_step k42 f42_22 (Wp_step k42 f42_23 (Wp_step k42 f42_24 (Wp_step k42 f42_25 ⟨⟨(bd_k h0), Nat.le_of_ble_eq_true rfl⟩, Nat.le_refl _, _, rfl, Sp_E h_1⟩)))
theorem b42_28 {X : (Nat → Int) × Nat} {d : Nat} {s : mSt} {Q : mQ} {a0 : Nat} {x1 : Int} {x2 : Int} {x3 : Int} {l4 : Option mV} {xt0 : Int} (h0 : isBd a0) (h_1 : xt0 = 0 → Wp X d 42 63 [some (mR a0), some (mI x1), some (mI x2), some (mI x3), l4] [] s Q) (h_2 : ¬ xt0 = 0 → Wp X d 42 31 [some (mR a0), some (mI x1), some (mI x2), some (mI x3), l4] [] s Q) : Wp X d 42 28 [some (mR a0), some (mI x1), some (mI x2), some (mI x3), l4] [mI xt0] s Q := Wp_step k42 f42_28 ⟨h_1, h_2⟩
theorem b42_31 {X : (Nat → Int) × Nat} {d : Nat} {s : mSt} {Q : mQ} {a0 : Nat} {x1 : Int} {x2 : Int} {x3 : Int} {l4 : Option mV} (h0 : isBd a0) (h_1 : Sp X d 16 [mR a0, mI x1, mI x3] s (fun r s' => ∃ v : Int, r = some (mI v) ∧ Wp X (d + 1) 42 38 [some (mR a0), some (mI x1), some (mI x2), some (mI x3), l4] [mI v, mI x2] s' Q)) : Wp X (d + 1) 42 31 [some (mR a0), some (mI x1), some (mI x2), some (mI x3), l4] [] s Q := Wp_step k42 f42_31 (Wp_step k42 f42_32 (Wp_step k42 f42_33 (Wp_step k42 f42_34 (Wp_step k42 f42_35 ⟨⟨(bd_k h0), Nat.le_of_ble_eq_true rfl⟩, Nat.le_refl _, _, rfl, Sp_E h_1⟩))))
theorem b42_38 {X : (Nat → Int) × Nat} {d : Nat} {s : mSt} {Q : mQ} {a0 : Nat} {x1 : Int} {x2 : Int} {x3 : Int} {l4 : Option mV} {xt0 : Int} {xt1 : Int} (h0 : isBd a0) (h_1 : (w32 (xt0 - xt1)) < 0 → Wp X d 42 63 [some (mR a0), some (mI x1), some (mI x2), some (mI x3), some (mI (w32 (xt0 - xt1)))] [] s Q) (h_2 : ¬ (w32 (xt0 - xt1)) < 0 → Wp X d 42 46 [some (mR a0), some (mI x1), some (mI x2), some (mI x3), some (mI (w32 (xt0 - xt1)))] [] s Q) : Wp X d 42 38 [some (mR a0), some (mI x1), some (mI x2), some (mI x3), l4] [mI xt1, mI xt0] s Q := Wp_step k42 f42_38 (Wp_step k42 f42_39 (Wp_step k42 f42_41 (Wp_step k42 f42_43 ⟨h_1, h_2⟩)))
theorem b42_46 {X : (Nat → Int) × Nat} {d : Nat} {s : mSt} {Q : mQ} {a0 : Nat} {x1 : Int} {x2 : Int} {x3 : Int} {x4 : Int} (h0 : isBd a0) (h_1 : Sp X d 14 [mR a0, mI x1, mI x3] s (fun r s' => ∃ v : Int, r = some (mI v) ∧ Wp X (d + 1) 42 54 [some (mR a0), some (mI x1), some (mI x2), some (mI x3), some (mI x4)] [mI v, mI x4] s' Q)) : Wp X (d + 1) 42 46 [some (mR a0), some (mI x1), some (mI x2), some (mI x3), some (mI x4)] [] s Q := Wp_step k42 f42_46 (Wp_step k42 f42_48 (Wp_step k42 f42_49 (Wp_step k42 f42_50 (Wp_step k42 f42_51 ⟨⟨(bd_k h0), Nat.le_of_ble_eq_true rfl⟩, Nat.le_refl _, _, rfl, Sp_E h_1⟩))))
theorem b42_54 {X : (Nat → Int) × Nat} {d : Nat} {s : mSt} {Q : mQ} {a0 : Nat} {x1 : Int} {x2 : Int} {x3 : Int} {x4 : Int} {xt0 : Int} {xt1 : Int} (h0 : isBd a0) (h_1 : xt1 ≤ xt0 → Wp X d 42 63 [some (mR a0), some (mI x1), some (mI x2), some (mI x3), some (mI x4)] [] s Q) (h_2 : ¬ xt1 ≤ xt0 → Wp X d 42 57 [some (mR a0), some (mI x1), some (mI x2), some (mI x3), some (mI x4)] [] s Q) : Wp X d 42 54 [some (mR a0), some (mI x1), some (mI x2), some (mI x3), some (mI x4)] [mI xt1, mI xt0] s Q := Wp_step k42 f42_54 ⟨h_1, h_2⟩
theorem b42_57 {X : (Nat → Int) × Nat} {d : Nat} {s : mSt} {Q : mQ} {a0 : Nat} {x1 : Int} {x2 : Int} {x3 : Int} {x4 : Int} (h0 : isBd a0) (h_1 : Q (some (mI ((w32 (65 + x3)) % 65536))) s) (h_2 : 0 ≤ ((w32 (65 + x3)) % 65536) ∧ ((w32 (65 + x3)) % 65536) < 65536) : Wp X d 42 57 [some (mR a0), some (mI x1), some (mI x2), some (mI x3), some (mI x4)] [] s Q := Wp_step k42 f42_57 (Wp_step k42 f42_59 (Wp_step k42 f42_60 (Wp_step k42 f42_61 (Wp_step k42 f42_62 ⟨⟨rfl, h_2⟩, h_1⟩))))
theorem b42_63 {X : (Nat → Int) × Nat} {d : Nat} {s : mSt} {Q : mQ} {a0 : Nat} {x1 : Int} {x2 : Int} {x3 : Int} {l4 : Option mV} (h0 : isBd a0) (h_1 : Wp X d 42 14 [some (mR a0), some (mI x1), some (mI x2), some (mI (w32 (x3 + 1))), l4] [] s Q) : Wp X d 42 63 [some (mR a0), some (mI x1), some (mI x2), some (mI x3), l4] [] s Q := Wp_step k42 f42_63 (Wp_step k42 f42_66 (h_1))
theorem b42_69 {X : (Nat → Int) × Nat} {d : Nat} {s : mSt} {Q : mQ} {a0 : Nat} {x1 : Int} {x2 : Int} {x3 : Int} {l4 : Option mV} (h0 : isBd a0) (h_1 : Q (some (mI 46)) s) : Wp X d 42 69 [some (mR a0), some (mI x1), some (mI x2), some (mI x3), l4] [] s Q := Wp_step k42 f42_69 (Wp_step k42 f42_71 ⟨⟨rfl, ⟨by decide, by decide⟩⟩, h_1⟩)
theorem e42 {X : (Nat → Int) × Nat} {d : Nat} {s : mSt} {Q : mQ} {a0 : Nat} {x1 : Int} {x2 : Int} (h : Wp X d 42 0 [some (mR a0), some (mI x1), some (mI x2), none, none] [] s Q) : Sp X d 42 [mR a0, mI x1, mI x2] s Q := Sp_of (show mCe 42 = 0 by decide +kernel) (by rw [show mML 42 = 5 by decide +kernel]; rfl) (Nat.le_trans (Nat.le_of_ble_eq_true (show Nat.ble (mArgs _).length 5 = true from rfl)) (show 5 ≤ mML 42 by decide +kernel)) h
-- 43 ClashDay$Lines.spell(LClashDay$Board;II)V
theorem k43 : mRk 43 = 0 := by decide +kernel
theorem f43_0 : mFetch 43 0 = some (.aload_n 0, 1, 0, 0, 0, 0) := by decide +kernel
theorem f43_1 : mFetch 43 1 = some (.getfield 16, 3, 2, 1, 2, 1) := by decide +kernel
theorem f43_4 : mFetch 43 4 = some (.iload_n 3, 1, 0, 0, 0, 0) := by decide +kernel
theorem f43_5 : mFetch 43 5 = some (.iconst 0, 1, 0, 0, 0, 0) := by decide +kernel
theorem f43_6 : mFetch 43 6 = some (.iastore, 1, 0, 0, 0, 0) := by decide +kernel
theorem f43_7 : mFetch 43 7 = some (.iconst 0, 1, 0, 0, 0, 0) := by decide +kernel
theorem f43_8 : mFetch 43 8 = some (.istore 4, 2, 0, 0, 0, 0) := by decide +kernel
theorem f43_10 : mFetch 43 10 = some (.iconst 1, 1, 0, 0, 0, 0) := by decide +kernel
theorem f43_11 : mFetch 43 11 = some (.istore 5, 2, 0, 0, 0, 0) := by decide +kernel
theorem f43_13 : mFetch 43 13 = some (.iload 5, 2, 0, 0, 0, 0) := by decide +kernel
theorem f43_15 : mFetch 43 15 = some (.bipush 30, 2, 0, 0, 0, 0) := by decide +kernel
theorem f43_17 : mFetch 43 17 = some (.if_icmp .gt 53, 3, 70, 0, 0, 0) := by decide +kernel
theorem f43_20 : mFetch 43 20 = some (.aload_n 1, 1, 0, 0, 0, 0) := by decide +kernel
theorem f43_21 : mFetch 43 21 = some (.iload_n 2, 1, 0, 0, 0, 0) := by decide +kernel
theorem f43_22 : mFetch 43 22 = some (.iload 4, 2, 0, 0, 0, 0) := by decide +kernel
theorem f43_24 : mFetch 43 24 = some (.invokestatic 46, 3, 42, 0, 3, 99) := by decide +kernel
theorem f43_27 : mFetch 43 27 = some (.istore 6, 2, 0, 0, 0, 0) := by decide +kernel
theorem f43_29 : mFetch 43 29 = some (.iload 5, 2, 0, 0, 0, 0) := by decide +kernel
theorem f43_31 : mFetch 43 31 = some (.bipush 30, 2, 0, 0, 0, 0) := by decide +kernel
theorem f43_33 : mFetch 43 33 = some (.if_icmp .eq 15, 3, 48, 0, 0, 0) := by decide +kernel
theorem f43_36 : mFetch 43 36 = some (.aload_n 1, 1, 0, 0, 0, 0) := by decide +kernel
theorem f43_37 : mFetch 43 37 = some (.iload_n 2, 1, 0, 0, 0, 0) := by decide +kernel
theorem f43_38 : mFetch 43 38 = some (.iload 5, 2, 0, 0, 0, 0) := by decide +kernel
theorem f43_40 : mFetch 43 40 = some (.invokestatic 46, 3, 42, 0, 3, 99) := by decide +kernel
theorem f43_43 : mFetch 43 43 = some (.iload 6, 2, 0, 0, 0, 0) := by decide +kernel
theorem f43_45 : mFetch 43 45 = some (.if_icmp .eq 19, 3, 64, 0, 0, 0) := by decide +kernel
theorem f43_48 : mFetch 43 48 = some (.aload_n 0, 1, 0, 0, 0, 0) := by decide +kernel
theorem f43_49 : mFetch 43 49 = some (.iload_n 3, 1, 0, 0, 0, 0) := by decide +kernel
theorem f43_50 : mFetch 43 50 = some (.iload 5, 2, 0, 0, 0, 0) := by decide +kernel
theorem f43_52 : mFetch 43 52 = some (.iload 4, 2, 0, 0, 0, 0) := by decide +kernel
theorem f43_54 : mFetch 43 54 = some (.isub, 1, 0, 0, 0, 0) := by decide +kernel
theorem f43_55 : mFetch 43 55 = some (.iload 6, 2, 0, 0, 0, 0) := by decide +kernel
theorem f43_57 : mFetch 43 57 = some (.invokevirtual 50, 3, 44, 0, 4, 2) := by decide +kernel
theorem f43_60 : mFetch 43 60 = some (.iload 5, 2, 0, 0, 0, 0) := by decide +kernel
theorem f43_62 : mFetch 43 62 = some (.istore 4, 2, 0, 0, 0, 0) := by decide +kernel
theorem f43_64 : mFetch 43 64 = some (.iinc 5 1, 3, 0, 0, 0, 0) := by decide +kernel
theorem f43_67 : mFetch 43 67 = some (.goto (-54), 3, 13, 0, 0, 0) := by decide +kernel
theorem f43_70 : mFetch 43 70 = some (.return_, 1, 0, 0, 0, 0) := by decide +kernel
theorem b43_0 {X : (Nat → Int) × Nat} {d : Nat} {s : mSt} {Q : mQ} {a1 : Nat} {x2 : Int} {x3 : Int} {l4 : Option mV} {l5 : Option mV} {l6 : Option mV} (h1 : isBd a1) (h_1 : 0 ≤ x3 ∧ x3 < 2) (h_2 : Wp X d 43 13 [some (mR 76), some (mR a1), some (mI x2), some (mI x3), some (mI 0), some (mI 1), l6] [] (uS s 80 x3.toNat 0) Q) : Wp X d 43 0 [some (mR 76), some (mR a1), some (mI x2), some (mI x3), l4, l5, l6] [] s Q := Wp_step k43 f43_0 (Wp_step k43 f43_1 ⟨kf_76, 80, rf_76_1, Wp_step k43 f43_4 (Wp_step k43 f43_5 (Wp_step k43 f43_6 ⟨2, af_80, h_1, Wp_step k43 f43_7 (Wp_step k43 f43_8 (Wp_step k43 f43_10 (Wp_step k43 f43_11 (h_2))))⟩))⟩)
theorem b43_13 {X : (Nat → Int) × Nat} {d : Nat} {s : mSt} {Q : mQ} {a1 : Nat} {x2 : Int} {x3 : Int} {x4 : Int} {x5 : Int} {l6 : Option mV} (h1 : isBd a1) (h_1 : 30 < x5 → Wp X d 43 70 [some (mR 76), some (mR a1), some (mI x2), some (mI x3), some (mI x4), some (mI x5), l6] [] s Q) (h_2 : ¬ 30 < x5 → Wp X d 43 20 [some (mR 76), some (mR a1), some (mI x2), some (mI x3), some (mI x4), some (mI x5), l6] [] s Q) : Wp X d 43 13 [some (mR 76), some (mR a1), some (mI x2), some (mI x3), some (mI x4), some (mI x5), l6] [] s Q := Wp_step k43 f43_13 (Wp_step k43 f43_15 (Wp_step k43 f43_17 ⟨h_1, h_2⟩))
theorem b43_20 {X : (Nat → Int) × Nat} {d : Nat} {s : mSt} {Q : mQ} {a1 : Nat} {x2 : Int} {x3 : Int} {x4 : Int} {x5 : Int} {l6 : Option mV} (h1 : isBd a1) (h_1 : Sp X d 42 [mR a1, mI x2, mI x4] s (fun r s' => ∃ v : Int, r = some (mI v) ∧ Wp X (d + 1) 43 27 [some (mR 76), some (mR a1), some (mI x2), some (mI x3), some (mI x4), some (mI x5), l6] [mI v] s' Q)) : Wp X (d + 1) 43 20 [some (mR 76), some (mR a1), some (mI x2), some (mI x3), some (mI x4), some (mI x5), l6] [] s Q := Wp_step k43 f43_20 (Wp_step k43 f43_21 (Wp_step k43 f43_22 (Wp_step k43 f43_24 ⟨⟨Nat.le_of_ble_eq_true rfl, Nat.le_refl _⟩, _, rfl, Sp_E h_1⟩)))
theorem b43_27 {X : (Nat → Int) × Nat} {d : Nat} {s : mSt} {Q : mQ} {a1 : Nat} {x2 : Int} {x3 : Int} {x4 : Int} {x5 : Int} {l6 : Option mV} {xt0 : Int} (h1 : isBd a1) (h_1 : x5 = 30 → Wp X d 43 48 [some (mR 76), some (mR a1), some (mI x2), some (mI x3), some (mI x4), some (mI x5), some (mI xt0)] [] s Q) (h_2 : ¬ x5 = 30 → Wp X d 43 36 [some (mR 76), some (mR a1), some (mI x2), some (mI x3), some (mI x4), some (mI x5), some (mI xt0)] [] s Q) : Wp X d 43 27 [some (mR 76), some (mR a1), some (mI x2), some (mI x3), some (mI x4), some (mI x5), l6] [mI xt0] s Q := Wp_step k43 f43_27 (Wp_step k43 f43_29 (Wp_step k43 f43_31 (Wp_step k43 f43_33 ⟨h_1, h_2⟩)))
theorem b43_36 {X : (Nat → Int) × Nat} {d : Nat} {s : mSt} {Q : mQ} {a1 : Nat} {x2 : Int} {x3 : Int} {x4 : Int} {x5 : Int} {x6 : Int} (h1 : isBd a1) (h_1 : Sp X d 42 [mR a1, mI x2, mI x5] s (fun r s' => ∃ v : Int, r = some (mI v) ∧ Wp X (d + 1) 43 43 [some (mR 76), some (mR a1), some (mI x2), some (mI x3), some (mI x4), some (mI x5), some (mI x6)] [mI v] s' Q)) : Wp X (d + 1) 43 36 [some (mR 76), some (mR a1), some (mI x2), some (mI x3), some (mI x4), some (mI x5), some (mI x6)] [] s Q := Wp_step k43 f43_36 (Wp_step k43 f43_37 (Wp_step k43 f43_38 (Wp_step k43 f43_40 ⟨⟨Nat.le_of_ble_eq_true rfl, Nat.le_refl _⟩, _, rfl, Sp_E h_1⟩)))
theorem b43_43 {X : (Nat → Int) × Nat} {d : Nat} {s : mSt} {Q : mQ} {a1 : Nat} {x2 : Int} {x3 : Int} {x4 : Int} {x5 : Int} {x6 : Int} {xt0 : Int} (h1 : isBd a1) (h_1 : xt0 = x6 → Wp X d 43 64 [some (mR 76), some (mR a1), some (mI x2), some (mI x3), some (mI x4), some (mI x5), some (mI x6)] [] s Q) (h_2 : ¬ xt0 = x6 → Wp X d 43 48 [some (mR 76), some (mR a1), some (mI x2), some (mI x3), some (mI x4), some (mI x5), some (mI x6)] [] s Q) : Wp X d 43 43 [some (mR 76), some (mR a1), some (mI x2), some (mI x3), some (mI x4), some (mI x5), some (mI x6)] [mI xt0] s Q := Wp_step k43 f43_43 (Wp_step k43 f43_45 ⟨h_1, h_2⟩)
theorem b43_48 {X : (Nat → Int) × Nat} {d : Nat} {s : mSt} {Q : mQ} {a1 : Nat} {x2 : Int} {x3 : Int} {x4 : Int} {x5 : Int} {x6 : Int} (h1 : isBd a1) (h_1 : Sp X d 44 [mR 76, mI x3, mI (w32 (x5 - x4)), mI x6] s (fun r s' => r = none ∧ Wp X (d + 1) 43 60 [some (mR 76), some (mR a1), some (mI x2), some (mI x3), some (mI x4), some (mI x5), some (mI x6)] [] s' Q)) : Wp X (d + 1) 43 48 [some (mR 76), some (mR a1), some (mI x2), some (mI x3), some (mI x4), some (mI x5), some (mI x6)] [] s Q := Wp_step k43 f43_48 (Wp_step k43 f43_49 (Wp_step k43 f43_50 (Wp_step k43 f43_52 (Wp_step k43 f43_54 (Wp_step k43 f43_55 (Wp_step k43 f43_57 ⟨⟨kf_76, Nat.le_of_ble_eq_true rfl⟩, Nat.le_refl _, _, rfl, Sp_V h_1⟩))))))
theorem b43_60 {X : (Nat → Int) × Nat} {d : Nat} {s : mSt} {Q : mQ} {a1 : Nat} {x2 : Int} {x3 : Int} {x4 : Int} {x5 : Int} {x6 : Int} (h1 : isBd a1) (h_1 : Wp X d 43 64 [some (mR 76), some (mR a1), some (mI x2), some (mI x3), some (mI x5), some (mI x5), some (mI x6)] [] s Q) : Wp X d 43 60 [some (mR 76), some (mR a1), some (mI x2), some (mI x3), some (mI x4), some (mI x5), some (mI x6)] [] s Q := Wp_step k43 f43_60 (Wp_step k43 f43_62 (h_1))
theorem b43_64 {X : (Nat → Int) × Nat} {d : Nat} {s : mSt} {Q : mQ} {a1 : Nat} {x2 : Int} {x3 : Int} {x4 : Int} {x5 : Int} {x6 : Int} (h1 : isBd a1) (h_1 : Wp X d 43 13 [some (mR 76), some (mR a1), some (mI x2), some (mI x3), some (mI x4), some (mI (w32 (x5 + 1))), some (mI x6)] [] s Q) : Wp X d 43 64 [some (mR 76), some (mR a1), some (mI x2), some (mI x3), some (mI x4), some (mI x5), some (mI x6)] [] s Q := Wp_step k43 f43_64 (Wp_step k43 f43_67 (h_1))
theorem b43_70 {X : (Nat → Int) × Nat} {d : Nat} {s : mSt} {Q : mQ} {a1 : Nat} {x2 : Int} {x3 : Int} {x4 : Int} {x5 : Int} {l6 : Option mV} (h1 : isBd a1) (h_1 : Q none s) : Wp X d 43 70 [some (mR 76), some (mR a1), some (mI x2), some (mI x3), some (mI x4), some (mI x5), l6] [] s Q := Wp_step k43 f43_70 ⟨⟨rfl, Or.inl rfl⟩, h_1⟩
theorem e43 {X : (Nat → Int) × Nat} {d : Nat} {s : mSt} {Q : mQ} {a1 : Nat} {x2 : Int} {x3 : Int} (h : Wp X d 43 0 [some (mR 76), some (mR a1), some (mI x2), some (mI x3), none, none, none] [] s Q) : Sp X d 43 [mR 76, mR a1, mI x2, mI x3] s Q := Sp_of (show mCe 43 = 0 by decide +kernel) (by rw [show mML 43 = 7 by decide +kernel]; rfl) (Nat.le_trans (Nat.le_of_ble_eq_true (show Nat.ble (mArgs _).length 7 = true from rfl)) (show 7 ≤ mML 43 by decide +kernel)) h
-- 44 ClashDay$Lines.spellRun(IIC)V
theorem k44 : mRk 44 = 0 := by decide +kernel
theorem f44_0 : mFetch 44 0 = some (.iload_n 2, 1, 0, 0, 0, 0) := by decide +kernel
theorem f44_1 : mFetch 44 1 = some (.bipush 10, 2, 0, 0, 0, 0) := by decide +kernel
theorem f44_3 : mFetch 44 3 = some (.if_icmp .lt 16, 3, 19, 0, 0, 0) := by decide +kernel
theorem f44_6 : mFetch 44 6 = some (.aload_n 0, 1, 0, 0, 0, 0) := by decide +kernel
theorem f44_7 : mFetch 44 7 = some (.iload_n 1, 1, 0, 0, 0, 0) := by decide +kernel
theorem f44_8 : mFetch 44 8 = some (.bipush 48, 2, 0, 0, 0, 0) := by decide +kernel
theorem f44_10 : mFetch 44 10 = some (.iload_n 2, 1, 0, 0, 0, 0) := by decide +kernel
theorem f44_11 : mFetch 44 11 = some (.bipush 10, 2, 0, 0, 0, 0) := by decide +kernel
theorem f44_13 : mFetch 44 13 = some (.idiv, 1, 0, 0, 0, 0) := by decide +kernel
theorem f44_14 : mFetch 44 14 = some (.iadd, 1, 0, 0, 0, 0) := by decide +kernel
theorem f44_15 : mFetch 44 15 = some (.i2c, 1, 0, 0, 0, 0) := by decide +kernel
theorem f44_16 : mFetch 44 16 = some (.invokevirtual 54, 3, 45, 0, 3, 2) := by decide +kernel
theorem f44_19 : mFetch 44 19 = some (.iload_n 2, 1, 0, 0, 0, 0) := by decide +kernel
theorem f44_20 : mFetch 44 20 = some (.iconst 2, 1, 0, 0, 0, 0) := by decide +kernel
theorem f44_21 : mFetch 44 21 = some (.if_icmp .lt 16, 3, 37, 0, 0, 0) := by decide +kernel
theorem f44_24 : mFetch 44 24 = some (.aload_n 0, 1, 0, 0, 0, 0) := by decide +kernel
theorem f44_25 : mFetch 44 25 = some (.iload_n 1, 1, 0, 0, 0, 0) := by decide +kernel
theorem f44_26 : mFetch 44 26 = some (.bipush 48, 2, 0, 0, 0, 0) := by decide +kernel
theorem f44_28 : mFetch 44 28 = some (.iload_n 2, 1, 0, 0, 0, 0) := by decide +kernel
theorem f44_29 : mFetch 44 29 = some (.bipush 10, 2, 0, 0, 0, 0) := by decide +kernel
theorem f44_31 : mFetch 44 31 = some (.irem, 1, 0, 0, 0, 0) := by decide +kernel
theorem f44_32 : mFetch 44 32 = some (.iadd, 1, 0, 0, 0, 0) := by decide +kernel
theorem f44_33 : mFetch 44 33 = some (.i2c, 1, 0, 0, 0, 0) := by decide +kernel
theorem f44_34 : mFetch 44 34 = some (.invokevirtual 54, 3, 45, 0, 3, 2) := by decide +kernel
theorem f44_37 : mFetch 44 37 = some (.aload_n 0, 1, 0, 0, 0, 0) := by decide +kernel
theorem f44_38 : mFetch 44 38 = some (.iload_n 1, 1, 0, 0, 0, 0) := by decide +kernel
theorem f44_39 : mFetch 44 39 = some (.iload_n 3, 1, 0, 0, 0, 0) := by decide +kernel
theorem f44_40 : mFetch 44 40 = some (.invokevirtual 54, 3, 45, 0, 3, 2) := by decide +kernel
theorem f44_43 : mFetch 44 43 = some (.return_, 1, 0, 0, 0, 0) := by decide +kernel
theorem b44_0 {X : (Nat → Int) × Nat} {d : Nat} {s : mSt} {Q : mQ} {x1 : Int} {x2 : Int} {x3 : Int} (h_1 : x2 < 10 → Wp X d 44 19 [some (mR 76), some (mI x1), some (mI x2), some (mI x3)] [] s Q) (h_2 : ¬ x2 < 10 → Wp X d 44 6 [some (mR 76), some (mI x1), some (mI x2), some (mI x3)] [] s Q) : Wp X d 44 0 [some (mR 76), some (mI x1), some (mI x2), some (mI x3)] [] s Q := Wp_step k44 f44_0 (Wp_step k44 f44_1 (Wp_step k44 f44_3 ⟨h_1, h_2⟩))
theorem b44_6 {X : (Nat → Int) × Nat} {d : Nat} {s : mSt} {Q : mQ} {x1 : Int} {x2 : Int} {x3 : Int} (h_1 : Sp X d 45 [mR 76, mI x1, mI ((w32 (48 + (w32 (Int.tdiv x2 10)))) % 65536)] s (fun r s' => r = none ∧ Wp X (d + 1) 44 19 [some (mR 76), some (mI x1), some (mI x2), some (mI x3)] [] s' Q)) : Wp X (d + 1) 44 6 [some (mR 76), some (mI x1), some (mI x2), some (mI x3)] [] s Q := Wp_step k44 f44_6 (Wp_step k44 f44_7 (Wp_step k44 f44_8 (Wp_step k44 f44_10 (Wp_step k44 f44_11 (Wp_step k44 f44_13 ⟨(by decide), Wp_step k44 f44_14 (Wp_step k44 f44_15 (Wp_step k44 f44_16 ⟨⟨kf_76, Nat.le_of_ble_eq_true rfl⟩, Nat.le_refl _, _, rfl, Sp_V h_1⟩))⟩)))))
theorem b44_19 {X : (Nat → Int) × Nat} {d : Nat} {s : mSt} {Q : mQ} {x1 : Int} {x2 : Int} {x3 : Int} (h_1 : x2 < 2 → Wp X d 44 37 [some (mR 76), some (mI x1), some (mI x2), some (mI x3)] [] s Q) (h_2 : ¬ x2 < 2 → Wp X d 44 24 [some (mR 76), some (mI x1), some (mI x2), some (mI x3)] [] s Q) : Wp X d 44 19 [some (mR 76), some (mI x1), some (mI x2), some (mI x3)] [] s Q := Wp_step k44 f44_19 (Wp_step k44 f44_20 (Wp_step k44 f44_21 ⟨h_1, h_2⟩))
theorem b44_24 {X : (Nat → Int) × Nat} {d : Nat} {s : mSt} {Q : mQ} {x1 : Int} {x2 : Int} {x3 : Int} (h_1 : Sp X d 45 [mR 76, mI x1, mI ((w32 (48 + (Int.tmod x2 10))) % 65536)] s (fun r s' => r = none ∧ Wp X (d + 1) 44 37 [some (mR 76), some (mI x1), some (mI x2), some (mI x3)] [] s' Q)) : Wp X (d + 1) 44 24 [some (mR 76), some (mI x1), some (mI x2), some (mI x3)] [] s Q := Wp_step k44 f44_24 (Wp_step k44 f44_25 (Wp_step k44 f44_26 (Wp_step k44 f44_28 (Wp_step k44 f44_29 (Wp_step k44 f44_31 ⟨(by decide), Wp_step k44 f44_32 (Wp_step k44 f44_33 (Wp_step k44 f44_34 ⟨⟨kf_76, Nat.le_of_ble_eq_true rfl⟩, Nat.le_refl _, _, rfl, Sp_V h_1⟩))⟩)))))
theorem b44_37 {X : (Nat → Int) × Nat} {d : Nat} {s : mSt} {Q : mQ} {x1 : Int} {x2 : Int} {x3 : Int} (h_1 : Sp X d 45 [mR 76, mI x1, mI x3] s (fun r s' => r = none ∧ Wp X (d + 1) 44 43 [some (mR 76), some (mI x1), some (mI x2), some (mI x3)] [] s' Q)) : Wp X (d + 1) 44 37 [some (mR 76), some (mI x1), some (mI x2), some (mI x3)] [] s Q := Wp_step k44 f44_37 (Wp_step k44 f44_38 (Wp_step k44 f44_39 (Wp_step k44 f44_40 ⟨⟨kf_76, Nat.le_of_ble_eq_true rfl⟩, Nat.le_refl _, _, rfl, Sp_V h_1⟩)))
theorem b44_43 {X : (Nat → Int) × Nat} {d : Nat} {s : mSt} {Q : mQ} {x1 : Int} {x2 : Int} {x3 : Int} (h_1 : Q none s) : Wp X d 44 43 [some (mR 76), some (mI x1), some (mI x2), some (mI x3)] [] s Q := Wp_step k44 f44_43 ⟨⟨rfl, Or.inl rfl⟩, h_1⟩
theorem e44 {X : (Nat → Int) × Nat} {d : Nat} {s : mSt} {Q : mQ} {x1 : Int} {x2 : Int} {x3 : Int} (h : Wp X d 44 0 [some (mR 76), some (mI x1), some (mI x2), some (mI x3)] [] s Q) : Sp X d 44 [mR 76, mI x1, mI x2, mI x3] s Q := Sp_of (show mCe 44 = 0 by decide +kernel) (by rw [show mML 44 = 4 by decide +kernel]; rfl) (Nat.le_trans (Nat.le_of_ble_eq_true (show Nat.ble (mArgs _).length 4 = true from rfl)) (show 4 ≤ mML 44 by decide +kernel)) h
