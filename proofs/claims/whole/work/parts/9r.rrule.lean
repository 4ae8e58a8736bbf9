/-! a RULE read: the reference -/
def wvA (w : Int) : Int := if 0 ≤ w ∧ w < 11 then w else -1
theorem cWv : (3348070794885 : Int) = cW 0 ∧ (538449491 : Int) = cW 1 ∧ (6050369 : Int) = cW 2 ∧ (595572 : Int) = cW 3 ∧ (479437459 : Int) = cW 4 ∧ (366100 : Int) = cW 5 ∧ (211232360 : Int) = cW 6 ∧ (769611 : Int) = cW 7 ∧ (87673 : Int) = cW 8 ∧ (24739718599 : Int) = cW 9 ∧ (677454 : Int) = cW 10 := by decide +kernel
theorem v181 {X : (Nat → Int) × Nat} {d : Nat} {s : mSt} {Q : mQ}
  (z1 : TRq s)
  (z2 : ∀ s1 : mSt, (iwR s (3348070794885 : Int) ∧ s1 = uS s 407 8 (skR s : Int)) → Q (some (mI 0)) s1)
  (z3 : ∀ s2 : mSt, (¬ iwR s (3348070794885 : Int) ∧ s2 = uS s 407 8 (skR s : Int)) → TRq s2)
  (z4 : ∀ s2 : mSt, (¬ iwR s (3348070794885 : Int) ∧ s2 = uS s 407 8 (skR s : Int)) → ∀ s3 : mSt, (iwR s2 (538449491 : Int) ∧ s3 = uS s2 407 8 (skR s2 : Int)) → Q (some (mI 1)) s3)
  (z5 : ∀ s2 : mSt, (¬ iwR s (3348070794885 : Int) ∧ s2 = uS s 407 8 (skR s : Int)) → ∀ s4 : mSt, (¬ iwR s2 (538449491 : Int) ∧ s4 = uS s2 407 8 (skR s2 : Int)) → TRq s4)
  (z6 : ∀ s2 : mSt, (¬ iwR s (3348070794885 : Int) ∧ s2 = uS s 407 8 (skR s : Int)) → ∀ s4 : mSt, (¬ iwR s2 (538449491 : Int) ∧ s4 = uS s2 407 8 (skR s2 : Int)) → ∀ s5 : mSt, (iwR s4 (6050369 : Int) ∧ s5 = uS s4 407 8 (skR s4 : Int)) → Q (some (mI 2)) s5)
  (z7 : ∀ s2 : mSt, (¬ iwR s (3348070794885 : Int) ∧ s2 = uS s 407 8 (skR s : Int)) → ∀ s4 : mSt, (¬ iwR s2 (538449491 : Int) ∧ s4 = uS s2 407 8 (skR s2 : Int)) → ∀ s6 : mSt, (¬ iwR s4 (6050369 : Int) ∧ s6 = uS s4 407 8 (skR s4 : Int)) → TRq s6)
  (z8 : ∀ s2 : mSt, (¬ iwR s (3348070794885 : Int) ∧ s2 = uS s 407 8 (skR s : Int)) → ∀ s4 : mSt, (¬ iwR s2 (538449491 : Int) ∧ s4 = uS s2 407 8 (skR s2 : Int)) → ∀ s6 : mSt, (¬ iwR s4 (6050369 : Int) ∧ s6 = uS s4 407 8 (skR s4 : Int)) → ∀ s7 : mSt, (iwR s6 (595572 : Int) ∧ s7 = uS s6 407 8 (skR s6 : Int)) → Q (some (mI 3)) s7)
  (z9 : ∀ s2 : mSt, (¬ iwR s (3348070794885 : Int) ∧ s2 = uS s 407 8 (skR s : Int)) → ∀ s4 : mSt, (¬ iwR s2 (538449491 : Int) ∧ s4 = uS s2 407 8 (skR s2 : Int)) → ∀ s6 : mSt, (¬ iwR s4 (6050369 : Int) ∧ s6 = uS s4 407 8 (skR s4 : Int)) → ∀ s8 : mSt, (¬ iwR s6 (595572 : Int) ∧ s8 = uS s6 407 8 (skR s6 : Int)) → TRq s8)
  (z10 : ∀ s2 : mSt, (¬ iwR s (3348070794885 : Int) ∧ s2 = uS s 407 8 (skR s : Int)) → ∀ s4 : mSt, (¬ iwR s2 (538449491 : Int) ∧ s4 = uS s2 407 8 (skR s2 : Int)) → ∀ s6 : mSt, (¬ iwR s4 (6050369 : Int) ∧ s6 = uS s4 407 8 (skR s4 : Int)) → ∀ s8 : mSt, (¬ iwR s6 (595572 : Int) ∧ s8 = uS s6 407 8 (skR s6 : Int)) → ∀ s9 : mSt, (iwR s8 (479437459 : Int) ∧ s9 = uS s8 407 8 (skR s8 : Int)) → Q (some (mI 4)) s9)
  (z11 : ∀ s2 : mSt, (¬ iwR s (3348070794885 : Int) ∧ s2 = uS s 407 8 (skR s : Int)) → ∀ s4 : mSt, (¬ iwR s2 (538449491 : Int) ∧ s4 = uS s2 407 8 (skR s2 : Int)) → ∀ s6 : mSt, (¬ iwR s4 (6050369 : Int) ∧ s6 = uS s4 407 8 (skR s4 : Int)) → ∀ s8 : mSt, (¬ iwR s6 (595572 : Int) ∧ s8 = uS s6 407 8 (skR s6 : Int)) → ∀ s10 : mSt, (¬ iwR s8 (479437459 : Int) ∧ s10 = uS s8 407 8 (skR s8 : Int)) → TRq s10)
  (z12 : ∀ s2 : mSt, (¬ iwR s (3348070794885 : Int) ∧ s2 = uS s 407 8 (skR s : Int)) → ∀ s4 : mSt, (¬ iwR s2 (538449491 : Int) ∧ s4 = uS s2 407 8 (skR s2 : Int)) → ∀ s6 : mSt, (¬ iwR s4 (6050369 : Int) ∧ s6 = uS s4 407 8 (skR s4 : Int)) → ∀ s8 : mSt, (¬ iwR s6 (595572 : Int) ∧ s8 = uS s6 407 8 (skR s6 : Int)) → ∀ s10 : mSt, (¬ iwR s8 (479437459 : Int) ∧ s10 = uS s8 407 8 (skR s8 : Int)) → ∀ s11 : mSt, (iwR s10 (366100 : Int) ∧ s11 = uS s10 407 8 (skR s10 : Int)) → Q (some (mI 5)) s11)
  (z13 : ∀ s2 : mSt, (¬ iwR s (3348070794885 : Int) ∧ s2 = uS s 407 8 (skR s : Int)) → ∀ s4 : mSt, (¬ iwR s2 (538449491 : Int) ∧ s4 = uS s2 407 8 (skR s2 : Int)) → ∀ s6 : mSt, (¬ iwR s4 (6050369 : Int) ∧ s6 = uS s4 407 8 (skR s4 : Int)) → ∀ s8 : mSt, (¬ iwR s6 (595572 : Int) ∧ s8 = uS s6 407 8 (skR s6 : Int)) → ∀ s10 : mSt, (¬ iwR s8 (479437459 : Int) ∧ s10 = uS s8 407 8 (skR s8 : Int)) → ∀ s12 : mSt, (¬ iwR s10 (366100 : Int) ∧ s12 = uS s10 407 8 (skR s10 : Int)) → TRq s12)
  (z14 : ∀ s2 : mSt, (¬ iwR s (3348070794885 : Int) ∧ s2 = uS s 407 8 (skR s : Int)) → ∀ s4 : mSt, (¬ iwR s2 (538449491 : Int) ∧ s4 = uS s2 407 8 (skR s2 : Int)) → ∀ s6 : mSt, (¬ iwR s4 (6050369 : Int) ∧ s6 = uS s4 407 8 (skR s4 : Int)) → ∀ s8 : mSt, (¬ iwR s6 (595572 : Int) ∧ s8 = uS s6 407 8 (skR s6 : Int)) → ∀ s10 : mSt, (¬ iwR s8 (479437459 : Int) ∧ s10 = uS s8 407 8 (skR s8 : Int)) → ∀ s12 : mSt, (¬ iwR s10 (366100 : Int) ∧ s12 = uS s10 407 8 (skR s10 : Int)) → ∀ s13 : mSt, (iwR s12 (211232360 : Int) ∧ s13 = uS s12 407 8 (skR s12 : Int)) → Q (some (mI 6)) s13)
  (z15 : ∀ s2 : mSt, (¬ iwR s (3348070794885 : Int) ∧ s2 = uS s 407 8 (skR s : Int)) → ∀ s4 : mSt, (¬ iwR s2 (538449491 : Int) ∧ s4 = uS s2 407 8 (skR s2 : Int)) → ∀ s6 : mSt, (¬ iwR s4 (6050369 : Int) ∧ s6 = uS s4 407 8 (skR s4 : Int)) → ∀ s8 : mSt, (¬ iwR s6 (595572 : Int) ∧ s8 = uS s6 407 8 (skR s6 : Int)) → ∀ s10 : mSt, (¬ iwR s8 (479437459 : Int) ∧ s10 = uS s8 407 8 (skR s8 : Int)) → ∀ s12 : mSt, (¬ iwR s10 (366100 : Int) ∧ s12 = uS s10 407 8 (skR s10 : Int)) → ∀ s14 : mSt, (¬ iwR s12 (211232360 : Int) ∧ s14 = uS s12 407 8 (skR s12 : Int)) → TRq s14)
  (z16 : ∀ s2 : mSt, (¬ iwR s (3348070794885 : Int) ∧ s2 = uS s 407 8 (skR s : Int)) → ∀ s4 : mSt, (¬ iwR s2 (538449491 : Int) ∧ s4 = uS s2 407 8 (skR s2 : Int)) → ∀ s6 : mSt, (¬ iwR s4 (6050369 : Int) ∧ s6 = uS s4 407 8 (skR s4 : Int)) → ∀ s8 : mSt, (¬ iwR s6 (595572 : Int) ∧ s8 = uS s6 407 8 (skR s6 : Int)) → ∀ s10 : mSt, (¬ iwR s8 (479437459 : Int) ∧ s10 = uS s8 407 8 (skR s8 : Int)) → ∀ s12 : mSt, (¬ iwR s10 (366100 : Int) ∧ s12 = uS s10 407 8 (skR s10 : Int)) → ∀ s14 : mSt, (¬ iwR s12 (211232360 : Int) ∧ s14 = uS s12 407 8 (skR s12 : Int)) → ∀ s15 : mSt, (iwR s14 (769611 : Int) ∧ s15 = uS s14 407 8 (skR s14 : Int)) → Q (some (mI 7)) s15)
  (z17 : ∀ s2 : mSt, (¬ iwR s (3348070794885 : Int) ∧ s2 = uS s 407 8 (skR s : Int)) → ∀ s4 : mSt, (¬ iwR s2 (538449491 : Int) ∧ s4 = uS s2 407 8 (skR s2 : Int)) → ∀ s6 : mSt, (¬ iwR s4 (6050369 : Int) ∧ s6 = uS s4 407 8 (skR s4 : Int)) → ∀ s8 : mSt, (¬ iwR s6 (595572 : Int) ∧ s8 = uS s6 407 8 (skR s6 : Int)) → ∀ s10 : mSt, (¬ iwR s8 (479437459 : Int) ∧ s10 = uS s8 407 8 (skR s8 : Int)) → ∀ s12 : mSt, (¬ iwR s10 (366100 : Int) ∧ s12 = uS s10 407 8 (skR s10 : Int)) → ∀ s14 : mSt, (¬ iwR s12 (211232360 : Int) ∧ s14 = uS s12 407 8 (skR s12 : Int)) → ∀ s16 : mSt, (¬ iwR s14 (769611 : Int) ∧ s16 = uS s14 407 8 (skR s14 : Int)) → TRq s16)
  (z18 : ∀ s2 : mSt, (¬ iwR s (3348070794885 : Int) ∧ s2 = uS s 407 8 (skR s : Int)) → ∀ s4 : mSt, (¬ iwR s2 (538449491 : Int) ∧ s4 = uS s2 407 8 (skR s2 : Int)) → ∀ s6 : mSt, (¬ iwR s4 (6050369 : Int) ∧ s6 = uS s4 407 8 (skR s4 : Int)) → ∀ s8 : mSt, (¬ iwR s6 (595572 : Int) ∧ s8 = uS s6 407 8 (skR s6 : Int)) → ∀ s10 : mSt, (¬ iwR s8 (479437459 : Int) ∧ s10 = uS s8 407 8 (skR s8 : Int)) → ∀ s12 : mSt, (¬ iwR s10 (366100 : Int) ∧ s12 = uS s10 407 8 (skR s10 : Int)) → ∀ s14 : mSt, (¬ iwR s12 (211232360 : Int) ∧ s14 = uS s12 407 8 (skR s12 : Int)) → ∀ s16 : mSt, (¬ iwR s14 (769611 : Int) ∧ s16 = uS s14 407 8 (skR s14 : Int)) → ∀ s17 : mSt, (iwR s16 (87673 : Int) ∧ s17 = uS s16 407 8 (skR s16 : Int)) → Q (some (mI 8)) s17)
  (z19 : ∀ s2 : mSt, (¬ iwR s (3348070794885 : Int) ∧ s2 = uS s 407 8 (skR s : Int)) → ∀ s4 : mSt, (¬ iwR s2 (538449491 : Int) ∧ s4 = uS s2 407 8 (skR s2 : Int)) → ∀ s6 : mSt, (¬ iwR s4 (6050369 : Int) ∧ s6 = uS s4 407 8 (skR s4 : Int)) → ∀ s8 : mSt, (¬ iwR s6 (595572 : Int) ∧ s8 = uS s6 407 8 (skR s6 : Int)) → ∀ s10 : mSt, (¬ iwR s8 (479437459 : Int) ∧ s10 = uS s8 407 8 (skR s8 : Int)) → ∀ s12 : mSt, (¬ iwR s10 (366100 : Int) ∧ s12 = uS s10 407 8 (skR s10 : Int)) → ∀ s14 : mSt, (¬ iwR s12 (211232360 : Int) ∧ s14 = uS s12 407 8 (skR s12 : Int)) → ∀ s16 : mSt, (¬ iwR s14 (769611 : Int) ∧ s16 = uS s14 407 8 (skR s14 : Int)) → ∀ s18 : mSt, (¬ iwR s16 (87673 : Int) ∧ s18 = uS s16 407 8 (skR s16 : Int)) → TRq s18)
  (z20 : ∀ s2 : mSt, (¬ iwR s (3348070794885 : Int) ∧ s2 = uS s 407 8 (skR s : Int)) → ∀ s4 : mSt, (¬ iwR s2 (538449491 : Int) ∧ s4 = uS s2 407 8 (skR s2 : Int)) → ∀ s6 : mSt, (¬ iwR s4 (6050369 : Int) ∧ s6 = uS s4 407 8 (skR s4 : Int)) → ∀ s8 : mSt, (¬ iwR s6 (595572 : Int) ∧ s8 = uS s6 407 8 (skR s6 : Int)) → ∀ s10 : mSt, (¬ iwR s8 (479437459 : Int) ∧ s10 = uS s8 407 8 (skR s8 : Int)) → ∀ s12 : mSt, (¬ iwR s10 (366100 : Int) ∧ s12 = uS s10 407 8 (skR s10 : Int)) → ∀ s14 : mSt, (¬ iwR s12 (211232360 : Int) ∧ s14 = uS s12 407 8 (skR s12 : Int)) → ∀ s16 : mSt, (¬ iwR s14 (769611 : Int) ∧ s16 = uS s14 407 8 (skR s14 : Int)) → ∀ s18 : mSt, (¬ iwR s16 (87673 : Int) ∧ s18 = uS s16 407 8 (skR s16 : Int)) → ∀ s19 : mSt, (iwR s18 (24739718599 : Int) ∧ s19 = uS s18 407 8 (skR s18 : Int)) → Q (some (mI 9)) s19)
  (z21 : ∀ s2 : mSt, (¬ iwR s (3348070794885 : Int) ∧ s2 = uS s 407 8 (skR s : Int)) → ∀ s4 : mSt, (¬ iwR s2 (538449491 : Int) ∧ s4 = uS s2 407 8 (skR s2 : Int)) → ∀ s6 : mSt, (¬ iwR s4 (6050369 : Int) ∧ s6 = uS s4 407 8 (skR s4 : Int)) → ∀ s8 : mSt, (¬ iwR s6 (595572 : Int) ∧ s8 = uS s6 407 8 (skR s6 : Int)) → ∀ s10 : mSt, (¬ iwR s8 (479437459 : Int) ∧ s10 = uS s8 407 8 (skR s8 : Int)) → ∀ s12 : mSt, (¬ iwR s10 (366100 : Int) ∧ s12 = uS s10 407 8 (skR s10 : Int)) → ∀ s14 : mSt, (¬ iwR s12 (211232360 : Int) ∧ s14 = uS s12 407 8 (skR s12 : Int)) → ∀ s16 : mSt, (¬ iwR s14 (769611 : Int) ∧ s16 = uS s14 407 8 (skR s14 : Int)) → ∀ s18 : mSt, (¬ iwR s16 (87673 : Int) ∧ s18 = uS s16 407 8 (skR s16 : Int)) → ∀ s20 : mSt, (¬ iwR s18 (24739718599 : Int) ∧ s20 = uS s18 407 8 (skR s18 : Int)) → TRq s20)
  (z22 : ∀ s2 : mSt, (¬ iwR s (3348070794885 : Int) ∧ s2 = uS s 407 8 (skR s : Int)) → ∀ s4 : mSt, (¬ iwR s2 (538449491 : Int) ∧ s4 = uS s2 407 8 (skR s2 : Int)) → ∀ s6 : mSt, (¬ iwR s4 (6050369 : Int) ∧ s6 = uS s4 407 8 (skR s4 : Int)) → ∀ s8 : mSt, (¬ iwR s6 (595572 : Int) ∧ s8 = uS s6 407 8 (skR s6 : Int)) → ∀ s10 : mSt, (¬ iwR s8 (479437459 : Int) ∧ s10 = uS s8 407 8 (skR s8 : Int)) → ∀ s12 : mSt, (¬ iwR s10 (366100 : Int) ∧ s12 = uS s10 407 8 (skR s10 : Int)) → ∀ s14 : mSt, (¬ iwR s12 (211232360 : Int) ∧ s14 = uS s12 407 8 (skR s12 : Int)) → ∀ s16 : mSt, (¬ iwR s14 (769611 : Int) ∧ s16 = uS s14 407 8 (skR s14 : Int)) → ∀ s18 : mSt, (¬ iwR s16 (87673 : Int) ∧ s18 = uS s16 407 8 (skR s16 : Int)) → ∀ s20 : mSt, (¬ iwR s18 (24739718599 : Int) ∧ s20 = uS s18 407 8 (skR s18 : Int)) → ∀ s21 : mSt, (iwR s20 (677454 : Int) ∧ s21 = uS s20 407 8 (skR s20 : Int)) → Q (some (mI 10)) s21)
  (z23 : ∀ s2 : mSt, (¬ iwR s (3348070794885 : Int) ∧ s2 = uS s 407 8 (skR s : Int)) → ∀ s4 : mSt, (¬ iwR s2 (538449491 : Int) ∧ s4 = uS s2 407 8 (skR s2 : Int)) → ∀ s6 : mSt, (¬ iwR s4 (6050369 : Int) ∧ s6 = uS s4 407 8 (skR s4 : Int)) → ∀ s8 : mSt, (¬ iwR s6 (595572 : Int) ∧ s8 = uS s6 407 8 (skR s6 : Int)) → ∀ s10 : mSt, (¬ iwR s8 (479437459 : Int) ∧ s10 = uS s8 407 8 (skR s8 : Int)) → ∀ s12 : mSt, (¬ iwR s10 (366100 : Int) ∧ s12 = uS s10 407 8 (skR s10 : Int)) → ∀ s14 : mSt, (¬ iwR s12 (211232360 : Int) ∧ s14 = uS s12 407 8 (skR s12 : Int)) → ∀ s16 : mSt, (¬ iwR s14 (769611 : Int) ∧ s16 = uS s14 407 8 (skR s14 : Int)) → ∀ s18 : mSt, (¬ iwR s16 (87673 : Int) ∧ s18 = uS s16 407 8 (skR s16 : Int)) → ∀ s20 : mSt, (¬ iwR s18 (24739718599 : Int) ∧ s20 = uS s18 407 8 (skR s18 : Int)) → ∀ s22 : mSt, (¬ iwR s20 (677454 : Int) ∧ s22 = uS s20 407 8 (skR s20 : Int)) → Q (some (mI (-1))) s22) :
  Sp X (d + 2) 181 [mR 407] s Q := e181 (b181_0 (c177 z1 (fun s1 q1 => ⟨1, rfl, b181_7 (fun q => absurd q (by decide)) (fun _ => b181_10 (z2 s1 q1))⟩) (fun s2 q2 => ⟨0, rfl, b181_7 (fun _ => b181_12 (c177 (z3 s2 q2) (fun s3 q3 => ⟨1, rfl, b181_19 (fun q => absurd q (by decide)) (fun _ => b181_22 (z4 s2 q2 s3 q3))⟩) (fun s4 q4 => ⟨0, rfl, b181_19 (fun _ => b181_24 (c177 (z5 s2 q2 s4 q4) (fun s5 q5 => ⟨1, rfl, b181_31 (fun q => absurd q (by decide)) (fun _ => b181_34 (z6 s2 q2 s4 q4 s5 q5))⟩) (fun s6 q6 => ⟨0, rfl, b181_31 (fun _ => b181_36 (c177 (z7 s2 q2 s4 q4 s6 q6) (fun s7 q7 => ⟨1, rfl, b181_43 (fun q => absurd q (by decide)) (fun _ => b181_46 (z8 s2 q2 s4 q4 s6 q6 s7 q7))⟩) (fun s8 q8 => ⟨0, rfl, b181_43 (fun _ => b181_48 (c177 (z9 s2 q2 s4 q4 s6 q6 s8 q8) (fun s9 q9 => ⟨1, rfl, b181_55 (fun q => absurd q (by decide)) (fun _ => b181_58 (z10 s2 q2 s4 q4 s6 q6 s8 q8 s9 q9))⟩) (fun s10 q10 => ⟨0, rfl, b181_55 (fun _ => b181_60 (c177 (z11 s2 q2 s4 q4 s6 q6 s8 q8 s10 q10) (fun s11 q11 => ⟨1, rfl, b181_67 (fun q => absurd q (by decide)) (fun _ => b181_70 (z12 s2 q2 s4 q4 s6 q6 s8 q8 s10 q10 s11 q11))⟩) (fun s12 q12 => ⟨0, rfl, b181_67 (fun _ => b181_72 (c177 (z13 s2 q2 s4 q4 s6 q6 s8 q8 s10 q10 s12 q12) (fun s13 q13 => ⟨1, rfl, b181_79 (fun q => absurd q (by decide)) (fun _ => b181_82 (z14 s2 q2 s4 q4 s6 q6 s8 q8 s10 q10 s12 q12 s13 q13))⟩) (fun s14 q14 => ⟨0, rfl, b181_79 (fun _ => b181_85 (c177 (z15 s2 q2 s4 q4 s6 q6 s8 q8 s10 q10 s12 q12 s14 q14) (fun s15 q15 => ⟨1, rfl, b181_92 (fun q => absurd q (by decide)) (fun _ => b181_95 (z16 s2 q2 s4 q4 s6 q6 s8 q8 s10 q10 s12 q12 s14 q14 s15 q15))⟩) (fun s16 q16 => ⟨0, rfl, b181_92 (fun _ => b181_98 (c177 (z17 s2 q2 s4 q4 s6 q6 s8 q8 s10 q10 s12 q12 s14 q14 s16 q16) (fun s17 q17 => ⟨1, rfl, b181_105 (fun q => absurd q (by decide)) (fun _ => b181_108 (z18 s2 q2 s4 q4 s6 q6 s8 q8 s10 q10 s12 q12 s14 q14 s16 q16 s17 q17))⟩) (fun s18 q18 => ⟨0, rfl, b181_105 (fun _ => b181_111 (c177 (z19 s2 q2 s4 q4 s6 q6 s8 q8 s10 q10 s12 q12 s14 q14 s16 q16 s18 q18) (fun s19 q19 => ⟨1, rfl, b181_118 (fun q => absurd q (by decide)) (fun _ => b181_121 (b181_142 (z20 s2 q2 s4 q4 s6 q6 s8 q8 s10 q10 s12 q12 s14 q14 s16 q16 s18 q18 s19 q19)))⟩) (fun s20 q20 => ⟨0, rfl, b181_118 (fun _ => b181_126 (c177 (z21 s2 q2 s4 q4 s6 q6 s8 q8 s10 q10 s12 q12 s14 q14 s16 q16 s18 q18 s20 q20) (fun s21 q21 => ⟨1, rfl, b181_133 (fun q => absurd q (by decide)) (fun _ => b181_136 (b181_142 (z22 s2 q2 s4 q4 s6 q6 s8 q8 s10 q10 s12 q12 s14 q14 s16 q16 s18 q18 s20 q20 s21 q21)))⟩) (fun s22 q22 => ⟨0, rfl, b181_133 (fun _ => b181_141 (b181_142 (z23 s2 q2 s4 q4 s6 q6 s8 q8 s10 q10 s12 q12 s14 q14 s16 q16 s18 q18 s20 q20 s22 q22))) (fun q => absurd q (by decide))⟩))) (fun q => absurd q (by decide))⟩))) (fun q => absurd q (by decide))⟩))) (fun q => absurd q (by decide))⟩))) (fun q => absurd q (by decide))⟩))) (fun q => absurd q (by decide))⟩))) (fun q => absurd q (by decide))⟩))) (fun q => absurd q (by decide))⟩))) (fun q => absurd q (by decide))⟩))) (fun q => absurd q (by decide))⟩))) (fun q => absurd q (by decide))⟩)))

theorem R8q {s t u : mSt} (h : t = uS s 407 8 (skR s : Int)) (e : u = uS t 407 8 (skR t : Int)) : u = uS s 407 8 (skR s : Int) := by
  rw [e, h, R8s]
theorem iw9 {s t : mSt} (h : t = uS s 407 8 (skR s : Int)) (x : Int) : iwR t x ↔ iwR s x := by rw [h, iw8]
theorem c181 {X : (Nat → Int) × Nat} {d : Nat} {s : mSt} {Q : mQ} (p1 : TRq s) (k : ∀ (v : Int) (t : mSt), (v = wvA (wnA (TR s) (nR s) (skR s)) ∧ t = uS s 407 8 (skR s : Int)) → Q (some (mI v)) t) : Sp X (d + 2) 181 [mR 407] s Q := by
  have h := p1
  have c := cWv
  have w0 := iw_k h (k := 0) (by decide) c.1
  have w1 := iw_k h (k := 1) (by decide) c.2.1
  have w2 := iw_k h (k := 2) (by decide) c.2.2.1
  have w3 := iw_k h (k := 3) (by decide) c.2.2.2.1
  have w4 := iw_k h (k := 4) (by decide) c.2.2.2.2.1
  have w5 := iw_k h (k := 5) (by decide) c.2.2.2.2.2.1
  have w6 := iw_k h (k := 6) (by decide) c.2.2.2.2.2.2.1
  have w7 := iw_k h (k := 7) (by decide) c.2.2.2.2.2.2.2.1
  have w8 := iw_k h (k := 8) (by decide) c.2.2.2.2.2.2.2.2.1
  have w9 := iw_k h (k := 9) (by decide) c.2.2.2.2.2.2.2.2.2.1
  have w10 := iw_k h (k := 10) (by decide) c.2.2.2.2.2.2.2.2.2.2
  refine v181 h ?_ ?_ ?_ ?_ ?_ ?_ ?_ ?_ ?_ ?_ ?_ ?_ ?_ ?_ ?_ ?_ ?_ ?_ ?_ ?_ ?_ ?_
  · rintro  u ⟨p, e⟩
    refine k _ u ⟨?_, e⟩
    rw [w0.1 p]; rfl
  · rintro t0 ⟨n0, e0⟩
    have q0 := e0
    rw [q0]; exact TRq_s h
  · rintro t0 ⟨n0, e0⟩ u ⟨p, e⟩
    have q0 := e0
    refine k _ u ⟨?_, R8q q0 e⟩
    rw [iw9 q0] at p
    rw [w1.1 p]; rfl
  · rintro t0 ⟨n0, e0⟩ t1 ⟨n1, e1⟩
    have q0 := e0
    have q1 := R8q q0 e1
    rw [q1]; exact TRq_s h
  · rintro t0 ⟨n0, e0⟩ t1 ⟨n1, e1⟩ u ⟨p, e⟩
    have q0 := e0
    have q1 := R8q q0 e1
    refine k _ u ⟨?_, R8q q1 e⟩
    rw [iw9 q1] at p
    rw [w2.1 p]; rfl
  · rintro t0 ⟨n0, e0⟩ t1 ⟨n1, e1⟩ t2 ⟨n2, e2⟩
    have q0 := e0
    have q1 := R8q q0 e1
    have q2 := R8q q1 e2
    rw [q2]; exact TRq_s h
  · rintro t0 ⟨n0, e0⟩ t1 ⟨n1, e1⟩ t2 ⟨n2, e2⟩ u ⟨p, e⟩
    have q0 := e0
    have q1 := R8q q0 e1
    have q2 := R8q q1 e2
    refine k _ u ⟨?_, R8q q2 e⟩
    rw [iw9 q2] at p
    rw [w3.1 p]; rfl
  · rintro t0 ⟨n0, e0⟩ t1 ⟨n1, e1⟩ t2 ⟨n2, e2⟩ t3 ⟨n3, e3⟩
    have q0 := e0
    have q1 := R8q q0 e1
    have q2 := R8q q1 e2
    have q3 := R8q q2 e3
    rw [q3]; exact TRq_s h
  · rintro t0 ⟨n0, e0⟩ t1 ⟨n1, e1⟩ t2 ⟨n2, e2⟩ t3 ⟨n3, e3⟩ u ⟨p, e⟩
    have q0 := e0
    have q1 := R8q q0 e1
    have q2 := R8q q1 e2
    have q3 := R8q q2 e3
    refine k _ u ⟨?_, R8q q3 e⟩
    rw [iw9 q3] at p
    rw [w4.1 p]; rfl
  · rintro t0 ⟨n0, e0⟩ t1 ⟨n1, e1⟩ t2 ⟨n2, e2⟩ t3 ⟨n3, e3⟩ t4 ⟨n4, e4⟩
    have q0 := e0
    have q1 := R8q q0 e1
    have q2 := R8q q1 e2
    have q3 := R8q q2 e3
    have q4 := R8q q3 e4
    rw [q4]; exact TRq_s h
  · rintro t0 ⟨n0, e0⟩ t1 ⟨n1, e1⟩ t2 ⟨n2, e2⟩ t3 ⟨n3, e3⟩ t4 ⟨n4, e4⟩ u ⟨p, e⟩
    have q0 := e0
    have q1 := R8q q0 e1
    have q2 := R8q q1 e2
    have q3 := R8q q2 e3
    have q4 := R8q q3 e4
    refine k _ u ⟨?_, R8q q4 e⟩
    rw [iw9 q4] at p
    rw [w5.1 p]; rfl
  · rintro t0 ⟨n0, e0⟩ t1 ⟨n1, e1⟩ t2 ⟨n2, e2⟩ t3 ⟨n3, e3⟩ t4 ⟨n4, e4⟩ t5 ⟨n5, e5⟩
    have q0 := e0
    have q1 := R8q q0 e1
    have q2 := R8q q1 e2
    have q3 := R8q q2 e3
    have q4 := R8q q3 e4
    have q5 := R8q q4 e5
    rw [q5]; exact TRq_s h
  · rintro t0 ⟨n0, e0⟩ t1 ⟨n1, e1⟩ t2 ⟨n2, e2⟩ t3 ⟨n3, e3⟩ t4 ⟨n4, e4⟩ t5 ⟨n5, e5⟩ u ⟨p, e⟩
    have q0 := e0
    have q1 := R8q q0 e1
    have q2 := R8q q1 e2
    have q3 := R8q q2 e3
    have q4 := R8q q3 e4
    have q5 := R8q q4 e5
    refine k _ u ⟨?_, R8q q5 e⟩
    rw [iw9 q5] at p
    rw [w6.1 p]; rfl
  · rintro t0 ⟨n0, e0⟩ t1 ⟨n1, e1⟩ t2 ⟨n2, e2⟩ t3 ⟨n3, e3⟩ t4 ⟨n4, e4⟩ t5 ⟨n5, e5⟩ t6 ⟨n6, e6⟩
    have q0 := e0
    have q1 := R8q q0 e1
    have q2 := R8q q1 e2
    have q3 := R8q q2 e3
    have q4 := R8q q3 e4
    have q5 := R8q q4 e5
    have q6 := R8q q5 e6
    rw [q6]; exact TRq_s h
  · rintro t0 ⟨n0, e0⟩ t1 ⟨n1, e1⟩ t2 ⟨n2, e2⟩ t3 ⟨n3, e3⟩ t4 ⟨n4, e4⟩ t5 ⟨n5, e5⟩ t6 ⟨n6, e6⟩ u ⟨p, e⟩
    have q0 := e0
    have q1 := R8q q0 e1
    have q2 := R8q q1 e2
    have q3 := R8q q2 e3
    have q4 := R8q q3 e4
    have q5 := R8q q4 e5
    have q6 := R8q q5 e6
    refine k _ u ⟨?_, R8q q6 e⟩
    rw [iw9 q6] at p
    rw [w7.1 p]; rfl
  · rintro t0 ⟨n0, e0⟩ t1 ⟨n1, e1⟩ t2 ⟨n2, e2⟩ t3 ⟨n3, e3⟩ t4 ⟨n4, e4⟩ t5 ⟨n5, e5⟩ t6 ⟨n6, e6⟩ t7 ⟨n7, e7⟩
    have q0 := e0
    have q1 := R8q q0 e1
    have q2 := R8q q1 e2
    have q3 := R8q q2 e3
    have q4 := R8q q3 e4
    have q5 := R8q q4 e5
    have q6 := R8q q5 e6
    have q7 := R8q q6 e7
    rw [q7]; exact TRq_s h
  · rintro t0 ⟨n0, e0⟩ t1 ⟨n1, e1⟩ t2 ⟨n2, e2⟩ t3 ⟨n3, e3⟩ t4 ⟨n4, e4⟩ t5 ⟨n5, e5⟩ t6 ⟨n6, e6⟩ t7 ⟨n7, e7⟩ u ⟨p, e⟩
    have q0 := e0
    have q1 := R8q q0 e1
    have q2 := R8q q1 e2
    have q3 := R8q q2 e3
    have q4 := R8q q3 e4
    have q5 := R8q q4 e5
    have q6 := R8q q5 e6
    have q7 := R8q q6 e7
    refine k _ u ⟨?_, R8q q7 e⟩
    rw [iw9 q7] at p
    rw [w8.1 p]; rfl
  · rintro t0 ⟨n0, e0⟩ t1 ⟨n1, e1⟩ t2 ⟨n2, e2⟩ t3 ⟨n3, e3⟩ t4 ⟨n4, e4⟩ t5 ⟨n5, e5⟩ t6 ⟨n6, e6⟩ t7 ⟨n7, e7⟩ t8 ⟨n8, e8⟩
    have q0 := e0
    have q1 := R8q q0 e1
    have q2 := R8q q1 e2
    have q3 := R8q q2 e3
    have q4 := R8q q3 e4
    have q5 := R8q q4 e5
    have q6 := R8q q5 e6
    have q7 := R8q q6 e7
    have q8 := R8q q7 e8
    rw [q8]; exact TRq_s h
  · rintro t0 ⟨n0, e0⟩ t1 ⟨n1, e1⟩ t2 ⟨n2, e2⟩ t3 ⟨n3, e3⟩ t4 ⟨n4, e4⟩ t5 ⟨n5, e5⟩ t6 ⟨n6, e6⟩ t7 ⟨n7, e7⟩ t8 ⟨n8, e8⟩ u ⟨p, e⟩
    have q0 := e0
    have q1 := R8q q0 e1
    have q2 := R8q q1 e2
    have q3 := R8q q2 e3
    have q4 := R8q q3 e4
    have q5 := R8q q4 e5
    have q6 := R8q q5 e6
    have q7 := R8q q6 e7
    have q8 := R8q q7 e8
    refine k _ u ⟨?_, R8q q8 e⟩
    rw [iw9 q8] at p
    rw [w9.1 p]; rfl
  · rintro t0 ⟨n0, e0⟩ t1 ⟨n1, e1⟩ t2 ⟨n2, e2⟩ t3 ⟨n3, e3⟩ t4 ⟨n4, e4⟩ t5 ⟨n5, e5⟩ t6 ⟨n6, e6⟩ t7 ⟨n7, e7⟩ t8 ⟨n8, e8⟩ t9 ⟨n9, e9⟩
    have q0 := e0
    have q1 := R8q q0 e1
    have q2 := R8q q1 e2
    have q3 := R8q q2 e3
    have q4 := R8q q3 e4
    have q5 := R8q q4 e5
    have q6 := R8q q5 e6
    have q7 := R8q q6 e7
    have q8 := R8q q7 e8
    have q9 := R8q q8 e9
    rw [q9]; exact TRq_s h
  · rintro t0 ⟨n0, e0⟩ t1 ⟨n1, e1⟩ t2 ⟨n2, e2⟩ t3 ⟨n3, e3⟩ t4 ⟨n4, e4⟩ t5 ⟨n5, e5⟩ t6 ⟨n6, e6⟩ t7 ⟨n7, e7⟩ t8 ⟨n8, e8⟩ t9 ⟨n9, e9⟩ u ⟨p, e⟩
    have q0 := e0
    have q1 := R8q q0 e1
    have q2 := R8q q1 e2
    have q3 := R8q q2 e3
    have q4 := R8q q3 e4
    have q5 := R8q q4 e5
    have q6 := R8q q5 e6
    have q7 := R8q q6 e7
    have q8 := R8q q7 e8
    have q9 := R8q q8 e9
    refine k _ u ⟨?_, R8q q9 e⟩
    rw [iw9 q9] at p
    rw [w10.1 p]; rfl
  · rintro t0 ⟨n0, e0⟩ t1 ⟨n1, e1⟩ t2 ⟨n2, e2⟩ t3 ⟨n3, e3⟩ t4 ⟨n4, e4⟩ t5 ⟨n5, e5⟩ t6 ⟨n6, e6⟩ t7 ⟨n7, e7⟩ t8 ⟨n8, e8⟩ t9 ⟨n9, e9⟩ t10 ⟨n10, e10⟩
    have q0 := e0
    have q1 := R8q q0 e1
    rw [iw9 q0] at n1
    have q2 := R8q q1 e2
    rw [iw9 q1] at n2
    have q3 := R8q q2 e3
    rw [iw9 q2] at n3
    have q4 := R8q q3 e4
    rw [iw9 q3] at n4
    have q5 := R8q q4 e5
    rw [iw9 q4] at n5
    have q6 := R8q q5 e6
    rw [iw9 q5] at n6
    have q7 := R8q q6 e7
    rw [iw9 q6] at n7
    have q8 := R8q q7 e8
    rw [iw9 q7] at n8
    have q9 := R8q q8 e9
    rw [iw9 q8] at n9
    have q10 := R8q q9 e10
    rw [iw9 q9] at n10
    refine k _ t10 ⟨?_, q10⟩
    unfold wvA
    rw [if_neg]
    rintro ⟨a, b⟩
    have hh : wnA (TR s) (nR s) (skR s) = 0 ∨ wnA (TR s) (nR s) (skR s) = 1 ∨ wnA (TR s) (nR s) (skR s) = 2 ∨ wnA (TR s) (nR s) (skR s) = 3 ∨ wnA (TR s) (nR s) (skR s) = 4 ∨ wnA (TR s) (nR s) (skR s) = 5 ∨ wnA (TR s) (nR s) (skR s) = 6 ∨ wnA (TR s) (nR s) (skR s) = 7 ∨ wnA (TR s) (nR s) (skR s) = 8 ∨ wnA (TR s) (nR s) (skR s) = 9 ∨ wnA (TR s) (nR s) (skR s) = 10 := by omega
    rcases hh with z | z | z | z | z | z | z | z | z | z | z
    · exact n0 (w0.2 z)
    · exact n1 (w1.2 z)
    · exact n2 (w2.2 z)
    · exact n3 (w3.2 z)
    · exact n4 (w4.2 z)
    · exact n5 (w5.2 z)
    · exact n6 (w6.2 z)
    · exact n7 (w7.2 z)
    · exact n8 (w8.2 z)
    · exact n9 (w9.2 z)
    · exact n10 (w10.2 z)
