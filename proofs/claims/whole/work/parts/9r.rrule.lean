/-! a RULE read: the reference -/
def wvA (w : Int) : Int := if 0 ≤ w ∧ w < 11 then w else -1
theorem cWv : (3348070794885 : Int) = cW 0 ∧ (538449491 : Int) = cW 1 ∧ (6050369 : Int) = cW 2 ∧ (595572 : Int) = cW 3 ∧ (479437459 : Int) = cW 4 ∧ (366100 : Int) = cW 5 ∧ (211232360 : Int) = cW 6 ∧ (769611 : Int) = cW 7 ∧ (87673 : Int) = cW 8 ∧ (24739718599 : Int) = cW 9 ∧ (677454 : Int) = cW 10 := by decide +kernel
theorem v181 {X : (Nat → Int) × Nat} {d : Nat} {s : mSt} {Q : mQ}
  (z1 : TRq s)
  (z2 : ∀ s1 : mSt, (iwR s (3348070794885 : Int) ∧ s1 = uS s 407 8 (skR s : Int)) → Q (some (mI 0)) s1)
  (z3 : ∀ s2 : mSt, (¬ iwR s (3348070794885 : Int) ∧ s2 = uS s 407 8 (skR s : Int)) → TRq s2)
  (z4 : ∀ s2 : mSt, (¬ iwR s (3348070794885 : Int) ∧ s2 = uS s 407 8 (skR s : Int)) → ∀ s3 : mSt, (iwR s2 (538449491 : Int) ∧ s3 = uS s2 407 8 (skR s2 : Int)) → Q (some (mI 1)) s3)
  (z5 : ∀ s2 : mSt, (¬ iwR s (3348070794885 : Int) ∧ s2 = uS s 407 8 (skR s : Int)) → ∀ s4 : mSt, (¬ iwR s2 (538449491 : Int) ∧ s4 = uS s2 407 8 (skR s2 : Int)) → TRq s4)
  (z6 : ∀ s2 : mSt, (¬ iwR s (3348070794885 : Int) ∧ s2 = uS s 407 8 (skR s : Int)) → ∀ s4 : mSt, (¬ iwR s2 (538449491 : Int) ∧ s4 = uS s2 407 8 (skR s2 : Int)) → ∀ s5 : mSt, (iwR s4 (6050369 : Int) ∧ s5 = uS s4 407 8 (skR s4 : Int)) → Q (some (mI 2)) s5)
  (z7 : ∀ s2 : mSt, (¬ iwR s (3348070794885 : Int) ∧ s2 = uS s 407 8 (skR s : Int)) → ∀ s4 : mSt, (¬ iwR s2 (538449491 : Int) ∧ s4 = uS s2 407 8 (skR s2 : Int)) → ∀ s6 : mSt, (¬ iwR s4 (6050369 : Int) ∧ s6 = uS s4 407 8 (skR s4 : Int)) → TRq s6)
  (z8 : ∀ s2 : mSt, (¬ iwR s (3348070794885 : Int) ∧ s2 = uS s 407 8 (skR s : Int)) → ∀ s4 : mSt, (¬ iwR s2 (538449491 : Int) ∧ s4 = uS s2 407 8 (skR s2 : Int)) → ∀ s6 : mSt, (¬ iwR s4 (6050369 : Int) ∧ s6 = uS s4 407 8 (skR s4 : Int)) → ∀ s7 : mSt, (iwR s6 (595572 : Int) ∧ s7 = uS s6 407 8 (skR s6 : Int)) → Q (some (mI 3)) s7)
  (z9 : ∀ s2 : mSt, (¬ iwR s (3348070794885 : Int) ∧ s2 = uS s 407 8 (skR s : Int)) → ∀ s4 : mSt, (¬ iwR s2 (538449491 : Int) ∧ s4 = uS s2 407 8 (skR s2 : Int)) → ∀ s6 : mSt, (¬ iwR s4 (6050369 : Int) ∧ s6 = uS s4 407 8 (skR s4 : Int)) → ∀ s8 : mSt, (¬ iwR s6 (595572 : Int) ∧ s8 = uS s6 407 8 (skR s6 : Int)) → TRq s8)
  (z10 : ∀ s2 : mSt, (¬ iwR s (3348070794885 : Int) ∧ s2 = uS s 407 8 (skR s : Int)) → ∀ s4 : mSt, (¬ iwR s2 (538449491 : Int) ∧ s4 = uS s2 407 8 (skR s2 : Int)) → ∀ s6 : mSt, (¬ iwR s4 (6050369 : Int) ∧ s6 = uS s4 407 8 (skR s4 : Int)) → ∀ s8 : mSt, (¬ iwR s6 (595572 : Int) ∧ s8 = uS s6 407 8 (skR s6 : Int)) → ∀ s9 : mSt, (iwR s8 (479437459 : Int) ∧ s9 = uS s8 407 8 (skR s8 : Int)) → Q (some (mI 4)) s9)
  (z11 : ∀ s2 : mSt, (¬ iwR s (3348070794885 : Int) ∧ s2 = uS s 407 8 (skR s : Int)) → ∀ s4 : mSt, (¬ iwR s2 (538449491 : Int) ∧ s4 = uS s2 407 8 (skR s2 : Int)) → ∀ s6 : mSt, (¬ iwR s4 (6050369 : Int) ∧ s6 = uS s4 407 8 (skR s4 : Int)) → ∀ s8 : mSt, (¬ iwR s6 (595572 : Int) ∧ s8 = uS s6 407 8 (skR s6 : Int)) → ∀ s10 : mSt, (¬ iwR s8 (479437459 : Int) ∧ s10 = uS s8 407 8 (skR s8 : Int)) → TRq s10)
  (z12 : ∀ s2 : mSt, (¬ iwR s (3348070794885 : Int) ∧ s2 = uS s 407 8 (skR s : Int)) → ∀ s4 : mSt, (¬ iwR s2 (538449491 : Int) ∧ s4 = uS s2 407 8 (skR s2 : Int)) → ∀ s6 : mSt, (¬ iwR s4 (6050369 : Int) ∧ s6 = uS s4 407 8 (skR s4 : Int)) → ∀ s8 : mSt, (¬ iwR s6 (595572 : Int) ∧ s8 = uS s6 407 8 (skR s6 : Int)) → ∀ s10 : mSt, (¬ iwR s8 (479437459 : Int) ∧ s10 = uS s8 407 8 (skR s8 : Int)) → ∀ s11 : mSt, (iwR s10 (366100 : Int) ∧ s11 = uS s10 407 8 (skR s10 : Int)) → Q (some (mI 5)) s11)
  (z13 : ∀ s2 : mSt, (¬ iwR s (3348070794885 : Int) ∧ s2 = uS s 407 8 (skR s : Int)) → ∀ s4 : mSt, (¬ iwR s2 (538449491 : Int) ∧ s4 = uS s2 407 8 (skR s2 : Int)) → ∀ s6 : mSt, (¬ iwR s4 (6050369 : Int) ∧ s6 = uS s4 407 8 (skR s4 : Int)) → ∀ s8 : mSt, (¬ iwR s6 (595572 : Int) ∧ s8 = uS s6 407 8 (skR s6 : Int)) → ∀ s10 : mSt, (¬ iwR s8 (479437459 : Int) ∧ s10 = uS s8 407 8 (skR s8 : Int)) → ∀ s12 : mSt, (¬ iwR s10 (366100 : Int) ∧ s12 = uS s10 407 8 (skR s10 : Int)) → TRq s12)
  (z14 : ∀ s2 : mSt, (¬ iwR s (3348070794885 : Int) ∧ s2 = uS s 407 8 (skR s : Int)) → ∀ s4 : mSt, (¬ iwR s2 (538449491 : Int) ∧ s4 = uS s2 407 8 (skR s2 : Int)) → ∀ s6 : mSt, (¬ iwR s4 (6050369 : Int) ∧ s6 = uS s4 407 8 (skR s4 : Int)) → ∀ s8 : mSt, (¬ iwR s6 (595572 : Int) ∧ s8 = uS s6 407 8 (skR s6 : Int)) → ∀ s10 : mSt, (¬ iwR s8 (479437459 : Int) ∧ s10 = uS s8 407 8 (skR s8 : Int)) → ∀ s12 : mSt, (¬ iwR s10 (366100 : Int) ∧ s12 = uS s10 407 8 (skR s10 : Int)) → ∀ s13 : mSt, (iwR s12 (211232360 : Int) ∧ s13 = uS s12 407 8 (skR s12 : Int)) → Q (some (mI 6)) s13)
  (z15 : ∀ s2 : mSt, (¬ iwR s (3348070794885 : Int) ∧ s2 = uS s 407 8 (skR s : Int)) → ∀ s4 : mSt, (¬ iwR s2 (538449491 : Int) ∧ s4 = uS s2 407 8 (skR s2 : Int)) → ∀ s6 : mSt, (¬ iwR s4 (6050369 : Int) ∧ s6 = uS s4 407 8 (skR s4 : Int)) → ∀ s8 : mSt, (¬ iwR s6 (595572 : Int) ∧ s8 = uS s6 407 8 (skR s6 : Int)) → ∀ s10 : mSt, (¬ iwR s8 (479437459 : Int) ∧ s10 = uS s8 407 8 (skR s8 : Int)) → ∀ s12 : mSt, (¬ iwR s10 (366100 : Int) ∧ s12 = uS s10 407 8 (skR s10 : Int)) → ∀ s14 : mSt, (¬ iwR s12 (211232360 : Int) ∧ s14 = uS s12 407 8 (skR s12 : Int)) → TRq s14)
  (z16 : ∀ s2 : mSt, (¬ iwR s (3348070794885 : Int) ∧ s2 = uS s 407 8 (skR s : Int)) → ∀ s4 : mSt, (¬ iwR s2 (538449491 : Int) ∧ s4 = uS s2 407 8 (skR s2 : Int)) → ∀ s6 : mSt, (¬ iwR s4 (6050369 : Int) ∧ s6 = uS s4 407 8 (skR s4 : Int)) → ∀ s8 : mSt, (¬ iwR s6 (595572 : Int) ∧ s8 = uS s6 407 8 (skR s6 : Int)) → ∀ s10 : mSt, (¬ iwR s8 (479437459 : Int) ∧ s10 = uS s8 407 8 (skR s8 : Int)) → ∀ s12 : mSt, (¬ iwR s10 (366100 : Int) ∧ s12 = uS s10 407 8 (skR s10 : Int)) → ∀ s14 : mSt, (¬ iwR s12 (211232360 : Int) ∧ s14 = uS s12 407 8 (skR s12 : Int)) → ∀ s15 : mSt, (iwR s14 (769611 : Int) ∧ s15 = uS s14 407 8 (skR s14 : Int)) → Q (some (mI 7)) s15)
  (z17 : ∀ s2 : mSt, (¬ iwR s (3348070794885 : Int) ∧ s2 = uS s 407 8 (skR s : Int)) → ∀ s4 : mSt, (¬ iwR s2 (538449491 : Int) ∧ s4 = uS s2 407 8 (skR s2 : Int)) → ∀ s6 : mSt, (¬ iwR s4 (6050369 : Int) ∧ s6 = uS s4 407 8 (skR s4 : Int)) → ∀ s8 : mSt, (¬ iwR s6 (595572 : Int) ∧ s8 = uS s6 407 8 (skR s6 : Int)) → ∀ s10 : mSt, (¬ iwR s8 (479437459 : Int) ∧ s10 = uS s8 407 8 (skR s8 : Int)) → ∀ s12 : mSt, (¬ iwR s10 (366100 : Int) ∧ s12 = uS s10 407 8 (skR s10 : Int)) → ∀ s14 : mSt, (¬ iwR s12 (211232360 : Int) ∧ s14 = uS s12 407 8 (skR s12 : Int)) → ∀ s16 : mSt, (¬ iwR s14 (769611 : Int) ∧ s16 = uS s14 407 8 (skR s14 : Int)) → TRq s16)
  (z18 : ∀ s2 : mSt, (¬ iwR s (3348070794885 : Int) ∧ s2 = uS s 407 8 (skR s : Int)) → ∀ s4 : mSt, (¬ iwR s2 (538449491 : Int) ∧ s4 = uS s2 407 8 (skR s2 : Int)) → ∀ s6 : mSt, (¬ iwR s4 (6050369 : Int) ∧ s6 = uS s4 407 8 (skR s4 : Int)) → ∀ s8 : mSt, (¬ iwR s6 (595572 : Int) ∧ s8 = uS s6 407 8 (skR s6 : Int)) → ∀ s10 : mSt, (¬ iwR s8 (479437459 : Int) ∧ s10 = uS s8 407 8 (skR s8 : Int)) → ∀ s12 : mSt, (¬ iwR s10 (366100 : Int) ∧ s12 = uS s10 407 8 (skR s10 : Int)) → ∀ s14 : mSt, (¬ iwR s12 (211232360 : Int) ∧ s14 = uS s12 407 8 (skR s12 : Int)) → ∀ s16 : mSt, (¬ iwR s14 (769611 : Int) ∧ s16 = uS s14 407 8 (skR s14 : Int)) → ∀ s17 : mSt, (iwR s16 (87673 : Int) ∧ s17 = uS s16 407 8 (skR s16 : Int)) → Q (some (mI 8)) s17)
  (z19 : ∀ s2 : mSt, (¬ iwR s (3348070794885 : Int) ∧ s2 = uS s 407 8 (skR s : Int)) → ∀ s4 : mSt, (¬ iwR s2 (538449491 : Int) ∧ s4 = uS s2 407 8 (skR s2 : Int)) → ∀ s6 : mSt, (¬ iwR s4 (6050369 : Int) ∧ s6 = uS s4 407 8 (skR s4 : Int)) → ∀ s8 : mSt, (¬ iwR s6 (595572 : Int) ∧ s8 = uS s6 407 8 (skR s6 : Int)) → ∀ s10 : mSt, (¬ iwR s8 (479437459 : Int) ∧ s10 = uS s8 407 8 (skR s8 : Int)) → ∀ s12 : mSt, (¬ iwR s10 (366100 : Int) ∧ s12 = uS s10 407 8 (skR s10 : Int)) → ∀ s14 : mSt, (¬ iwR s12 (211232360 : Int) ∧ s14 = uS s12 407 8 (skR s12 : Int)) → ∀ s16 : mSt, (¬ iwR s14 (769611 : Int) ∧ s16 = uS s14 407 8 (skR s14 : Int)) → ∀ s18 : mSt, (¬ iwR s16 (87673 : Int) ∧ s18 = uS s16 407 8 (skR s16 : Int)) → TRq s18)
  (z20 : ∀ s2 : mSt, (¬ iwR s (3348070794885 : Int) ∧ s2 = uS s 407 8 (skR s : Int)) → ∀ s4 : mSt, (¬ iwR s2 (538449491 : Int) ∧ s4 = uS s2 407 8 (skR s2 : Int)) → ∀ s6 : mSt, (¬ iwR s4 (6050369 : Int) ∧ s6 = uS s4 407 8 (skR s4 : Int)) → ∀ s8 : mSt, (¬ iwR s6 (595572 : Int) ∧ s8 = uS s6 407 8 (skR s6 : Int)) → ∀ s10 : mSt, (¬ iwR s8 (479437459 : Int) ∧ s10 = uS s8 407 8 (skR s8 : Int)) → ∀ s12 : mSt, (¬ iwR s10 (366100 : Int) ∧ s12 = uS s10 407 8 (skR s10 : Int)) → ∀ s14 : mSt, (¬ iwR s12 (211232360 : Int) ∧ s14 = uS s12 407 8 (skR s12 : Int)) → ∀ s16 : mSt, (¬ iwR s14 (769611 : Int) ∧ s16 = uS s14 407 8 (skR s14 : Int)) → ∀ s18 : mSt, (¬ iwR s16 (87673 : Int) ∧ s18 = uS s16 407 8 (skR s16 : Int)) → ∀ s19 : mSt, (iwR s18 (24739718599 : Int) ∧ s19 = uS s18 407 8 (skR s18 : Int)) → Q (some (mI 9)) s19)
  (z21 : ∀ s2 : mSt, (¬ iwR s (3348070794885 : Int) ∧ s2 = uS s 407 8 (skR s : Int)) → ∀ s4 : mSt, (¬ iwR s2 (538449491 : Int) ∧ s4 = uS s2 407 8 (skR s2 : Int)) → ∀ s6 : mSt, (¬ iwR s4 (6050369 : Int) ∧ s6 = uS s4 407 8 (skR s4 : Int)) → ∀ s8 : mSt, (¬ iwR s6 (595572 : Int) ∧ s8 = uS s6 407 8 (skR s6 : Int)) → ∀ s10 : mSt, (¬ iwR s8 (479437459 : Int) ∧ s10 = uS s8 407 8 (skR s8 : Int)) → ∀ s12 : mSt, (¬ iwR s10 (366100 : Int) ∧ s12 = uS s10 407 8 (skR s10 : Int)) → ∀ s14 : mSt, (¬ iwR s12 (211232360 : Int) ∧ s14 = uS s12 407 8 (skR s12 : Int)) → ∀ s16 : mSt, (¬ iwR s14 (769611 : Int) ∧ s16 = uS s14 407 8 (skR s14 : Int)) → ∀ s18 : mSt, (¬ iwR s16 (87673 : Int) ∧ s18 = uS s16 407 8 (skR s16 : Int)) → ∀ s20 : mSt, (¬ iwR s18 (24739718599 : Int) ∧ s20 = uS s18 407 8 (skR s18 : Int)) → TRq s20)
  (z22 : ∀ s2 : mSt, (¬ iwR s (3348070794885 : Int) ∧ s2 = uS s 407 8 (skR s : Int)) → ∀ s4 : mSt, (¬ iwR s2 (538449491 : Int) ∧ s4 = uS s2 407 8 (skR s2 : Int)) → ∀ s6 : mSt, (¬ iwR s4 (6050369 : Int) ∧ s6 = uS s4 407 8 (skR s4 : Int)) → ∀ s8 : mSt, (¬ iwR s6 (595572 : Int) ∧ s8 = uS s6 407 8 (skR s6 : Int)) → ∀ s10 : mSt, (¬ iwR s8 (479437459 : Int) ∧ s10 = uS s8 407 8 (skR s8 : Int)) → ∀ s12 : mSt, (¬ iwR s10 (366100 : Int) ∧ s12 = uS s10 407 8 (skR s10 : Int)) → ∀ s14 : mSt, (¬ iwR s12 (211232360 : Int) ∧ s14 = uS s12 407 8 (skR s12 : Int)) → ∀ s16 : mSt, (¬ iwR s14 (769611 : Int) ∧ s16 = uS s14 407 8 (skR s14 : Int)) → ∀ s18 : mSt, (¬ iwR s16 (87673 : Int) ∧ s18 = uS s16 407 8 (skR s16 : Int)) → ∀ s20 : mSt, (¬ iwR s18 (24739718599 : Int) ∧ s20 = uS s18 407 8 (skR s18 : Int)) → ∀ s21 : mSt, (iwR s20 (677454 : Int) ∧ s21 = uS s20 407 8 (skR s20 : Int)) → Q (some (mI 10)) s21)
  (z23 : ∀ s2 : mSt, (¬ iwR s (3348070794885 : Int) ∧ s2 = uS s 407 8 (skR s : Int)) → ∀ s4 : mSt, (¬ iwR s2 (538449491 : Int) ∧ s4 = uS s2 407 8 (skR s2 : Int)) → ∀ s6 : mSt, (¬ iwR s4 (6050369 : Int) ∧ s6 = uS s4 407 8 (skR s4 : Int)) → ∀ s8 : mSt, (¬ iwR s6 (595572 : Int) ∧ s8 = uS s6 407 8 (skR s6 : Int)) → ∀ s10 : mSt, (¬ iwR s8 (479437459 : Int) ∧ s10 = uS s8 407 8 (skR s8 : Int)) → ∀ s12 : mSt, (¬ iwR s10 (366100 : Int) ∧ s12 = uS s10 407 8 (skR s10 : Int)) → ∀ s14 : mSt, (¬ iwR s12 (211232360 : Int) ∧ s14 = uS s12 407 8 (skR s12 : Int)) → ∀ s16 : mSt, (¬ iwR s14 (769611 : Int) ∧ s16 = uS s14 407 8 (skR s14 : Int)) → ∀ s18 : mSt, (¬ iwR s16 (87673 : Int) ∧ s18 = uS s16 407 8 (skR s16 : Int)) → ∀ s20 : mSt, (¬ iwR s18 (24739718599 : Int) ∧ s20 = uS s18 407 8 (skR s18 : Int)) → ∀ s22 : mSt, (¬ iwR s20 (677454 : Int) ∧ s22 = uS s20 407 8 (skR s20 : Int)) → Q (some (mI (-1))) s22) :
  Sp X (d + 2) 181 [mR 407] s Q := e181 (b181_0 (c177 z1 (fun s1 q1 => ⟨1, rfl, b181_7 (fun q => absurd q (by decide)) (fun _ => b181_10 (z2 s1 q1))⟩) (fun s2 q2 => ⟨0, rfl, b181_7 (fun _ => b181_12 (c177 (z3 s2 q2) (fun s3 q3 => ⟨1, rfl, b181_19 (fun q => absurd q (by decide)) (fun _ => b181_22 (z4 s2 q2 s3 q3))⟩) (fun s4 q4 => ⟨0, rfl, b181_19 (fun _ => b181_24 (c177 (z5 s2 q2 s4 q4) (fun s5 q5 => ⟨1, rfl, b181_31 (fun q => absurd q (by decide)) (fun _ => b181_34 (z6 s2 q2 s4 q4 s5 q5))⟩) (fun s6 q6 => ⟨0, rfl, b181_31 (fun _ => b181_36 (c177 (z7 s2 q2 s4 q4 s6 q6) (fun s7 q7 => ⟨1, rfl, b181_43 (fun q => absurd q (by decide)) (fun _ => b181_46 (z8 s2 q2 s4 q4 s6 q6 s7 q7))⟩) (fun s8 q8 => ⟨0, rfl, b181_43 (fun _ => b181_48 (c177 (z9 s2 q2 s4 q4 s6 q6 s8 q8) (fun s9 q9 => ⟨1, rfl, b181_55 (fun q => absurd q (by decide)) (fun _ => b181_58 (z10 s2 q2 s4 q4 s6 q6 s8 q8 s9 q9))⟩) (fun s10 q10 => ⟨0, rfl, b181_55 (fun _ => b181_60 (c177 (z11 s2 q2 s4 q4 s6 q6 s8 q8 s10 q10) (fun s11 q11 => ⟨1, rfl, b181_67 (fun q => absurd q (by decide)) (fun _ => b181_70 (z12 s2 q2 s4 q4 s6 q6 s8 q8 s10 q10 s11 q11))⟩) (fun s12 q12 => ⟨0, rfl, b181_67 (fun _ => b181_72 (c177 (z13 s2 q2 s4 q4 s6 q6 s8 q8 s10 q10 s12 q12) (fun s13 q13 => ⟨1, rfl, b181_79 (fun q => absurd q (by decide)) (fun _ => b181_82 (z14 s2 q2 s4 q4 s6 q6 s8 q8 s10 q10 s12 q12 s13 q13))⟩) (fun s14 q14 => ⟨0, rfl, b181_79 (fun _ => b181_85 (c177 (z15 s2 q2 s4 q4 s6 q6 s8 q8 s10 q10 s12 q12 s14 q14) (fun s15 q15 => ⟨1, rfl, b181_92 (fun q => absurd q (by decide)) (fun _ => b181_95 (z16 s2 q2 s4 q4 s6 q6 s8 q8 s10 q10 s12 q12 s14 q14 s15 q15))⟩) (fun s16 q16 => ⟨0, rfl, b181_92 (fun _ => b181_98 (c177 (z17 s2 q2 s4 q4 s6 q6 s8 q8 s10 q10 s12 q12 s14 q14 s16 q16) (fun s17 q17 => ⟨1, rfl, b181_105 (fun q => absurd q (by decide)) (fun _ => b181_108 (z18 s2 q2 s4 q4 s6 q6 s8 q8 s10 q10 s12 q12 s14 q14 s16 q16 s17 q17))⟩) (fun s18 q18 => ⟨0, rfl, b181_105 (fun _ => b181_111 (c177 (z19 s2 q2 s4 q4 s6 q6 s8 q8 s10 q10 s12 q12 s14 q14 s16 q16 s18 q18) (fun s19 q19 => ⟨1, rfl, b181_118 (fun q => absurd q (by decide)) (fun _ => b181_121 (b181_142 (z20 s2 q2 s4 q4 s6 q6 s8 q8 s10 q10 s12 q12 s14 q14 s16 q16 s18 q18 s19 q19)))⟩) (fun s20 q20 => ⟨0, rfl, b181_118 (fun _ => b181_126 (c177 (z21 s2 q2 s4 q4 s6 q6 s8 q8 s10 q10 s12 q12 s14 q14 s16 q16 s18 q18 s20 q20) (fun s21 q21 => ⟨1, rfl, b181_133 (fun q => absurd q (by decide)) (fun _ => b181_136 (b181_142 (z22 s2 q2 s4 q4 s6 q6 s8 q8 s10 q10 s12 q12 s14 q14 s16 q16 s18 q18 s20 q20 s21 q21)))⟩) (fun s22 q22 => ⟨0, rfl, b181_133 (fun _ => b181_141 (b181_142 (z23 s2 q2 s4 q4 s6 q6 s8 q8 s10 q10 s12 q12 s14 q14 s16 q16 s18 q18 s20 q20 s22 q22))) (fun q => absurd q (by decide))⟩))) (fun q => absurd q (by decide))⟩))) (fun q => absurd q (by decide))⟩))) (fun q => absurd q (by decide))⟩))) (fun q => absurd q (by decide))⟩))) (fun q => absurd q (by decide))⟩))) (fun q => absurd q (by decide))⟩))) (fun q => absurd q (by decide))⟩))) (fun q => absurd q (by decide))⟩))) (fun q => absurd q (by decide))⟩))) (fun q => absurd q (by decide))⟩)))

theorem R8q {s t u : mSt} (h : t = uS s 407 8 (skR s : Int)) (e : u = uS t 407 8 (skR t : Int)) : u = uS s 407 8 (skR s : Int) := by
  rw [e, h, R8s]
theorem iw9 {s t : mSt} (h : t = uS s 407 8 (skR s : Int)) (x : Int) : iwR t x ↔ iwR s x := by rw [h, iw8]
theorem c181 {X : (Nat → Int) × Nat} {d : Nat} {s : mSt} {Q : mQ} (p1 : TRq s) (k : ∀ (v : Int) (t : mSt), (v = wvA (wnA (TR s) (nR s) (skR s)) ∧ t = uS s 407 8 (skR s : Int)) → Q (some (mI v)) t) : Sp X (d + 2) 181 [mR 407] s Q := by
  have h := p1
  have c := cWv
  have w0 := iw_k h (k := 0) (by decide) c.1
  have w1 := iw_k h (k := 1) (by decide) c.2.1
  have w2 := iw_k h (k := 2) (by decide) c.2.2.1
  have w3 := iw_k h (k := 3) (by decide) c.2.2.2.1
  have w4 := iw_k h (k := 4) (by decide) c.2.2.2.2.1
  have w5 := iw_k h (k := 5) (by decide) c.2.2.2.2.2.1
  have w6 := iw_k h (k := 6) (by decide) c.2.2.2.2.2.2.1
  have w7 := iw_k h (k := 7) (by decide) c.2.2.2.2.2.2.2.1
  have w8 := iw_k h (k := 8) (by decide) c.2.2.2.2.2.2.2.2.1
  have w9 := iw_k h (k := 9) (by decide) c.2.2.2.2.2.2.2.2.2.1
  have w10 := iw_k h (k := 10) (by decide) c.2.2.2.2.2.2.2.2.2.2
  refine v181 h ?_ ?_ ?_ ?_ ?_ ?_ ?_ ?_ ?_ ?_ ?_ ?_ ?_ ?_ ?_ ?_ ?_ ?_ ?_ ?_ ?_ ?_
  · rintro  u ⟨p, e⟩
    refine k _ u ⟨?_, e⟩
    rw [w0.1 p]; rfl
  · rintro t0 ⟨n0, e0⟩
    have q0 := e0
    rw [q0]; exact TRq_s h
  · rintro t0 ⟨n0, e0⟩ u ⟨p, e⟩
    have q0 := e0
    refine k _ u ⟨?_, R8q q0 e⟩
    rw [iw9 q0] at p
    rw [w1.1 p]; rfl
  · rintro t0 ⟨n0, e0⟩ t1 ⟨n1, e1⟩
    have q0 := e0
    have q1 := R8q q0 e1
    rw [q1]; exact TRq_s h
  · rintro t0 ⟨n0, e0⟩ t1 ⟨n1, e1⟩ u ⟨p, e⟩
    have q0 := e0
    have q1 := R8q q0 e1
    refine k _ u ⟨?_, R8q q1 e⟩
    rw [iw9 q1] at p
    rw [w2.1 p]; rfl
  · rintro t0 ⟨n0, e0⟩ t1 ⟨n1, e1⟩ t2 ⟨n2, e2⟩
    have q0 := e0
    have q1 := R8q q0 e1
    have q2 := R8q q1 e2
    rw [q2]; exact TRq_s h
  · rintro t0 ⟨n0, e0⟩ t1 ⟨n1, e1⟩ t2 ⟨n2, e2⟩ u ⟨p, e⟩
    have q0 := e0
    have q1 := R8q q0 e1
    have q2 := R8q q1 e2
    refine k _ u ⟨?_, R8q q2 e⟩
    rw [iw9 q2] at p
    rw [w3.1 p]; rfl
  · rintro t0 ⟨n0, e0⟩ t1 ⟨n1, e1⟩ t2 ⟨n2, e2⟩ t3 ⟨n3, e3⟩
    have q0 := e0
    have q1 := R8q q0 e1
    have q2 := R8q q1 e2
    have q3 := R8q q2 e3
    rw [q3]; exact TRq_s h
  · rintro t0 ⟨n0, e0⟩ t1 ⟨n1, e1⟩ t2 ⟨n2, e2⟩ t3 ⟨n3, e3⟩ u ⟨p, e⟩
    have q0 := e0
    have q1 := R8q q0 e1
    have q2 := R8q q1 e2
    have q3 := R8q q2 e3
    refine k _ u ⟨?_, R8q q3 e⟩
    rw [iw9 q3] at p
    rw [w4.1 p]; rfl
  · rintro t0 ⟨n0, e0⟩ t1 ⟨n1, e1⟩ t2 ⟨n2, e2⟩ t3 ⟨n3, e3⟩ t4 ⟨n4, e4⟩
    have q0 := e0
    have q1 := R8q q0 e1
    have q2 := R8q q1 e2
    have q3 := R8q q2 e3
    have q4 := R8q q3 e4
    rw [q4]; exact TRq_s h
  · rintro t0 ⟨n0, e0⟩ t1 ⟨n1, e1⟩ t2 ⟨n2, e2⟩ t3 ⟨n3, e3⟩ t4 ⟨n4, e4⟩ u ⟨p, e⟩
    have q0 := e0
    have q1 := R8q q0 e1
    have q2 := R8q q1 e2
    have q3 := R8q q2 e3
    have q4 := R8q q3 e4
    refine k _ u ⟨?_, R8q q4 e⟩
    rw [iw9 q4] at p
    rw [w5.1 p]; rfl
  · rintro t0 ⟨n0, e0⟩ t1 ⟨n1, e1⟩ t2 ⟨n2, e2⟩ t3 ⟨n3, e3⟩ t4 ⟨n4, e4⟩ t5 ⟨n5, e5⟩
    have q0 := e0
    have q1 := R8q q0 e1
    have q2 := R8q q1 e2
    have q3 := R8q q2 e3
    have q4 := R8q q3 e4
    have q5 := R8q q4 e5
    rw [q5]; exact TRq_s h
  · rintro t0 ⟨n0, e0⟩ t1 ⟨n1, e1⟩ t2 ⟨n2, e2⟩ t3 ⟨n3, e3⟩ t4 ⟨n4, e4⟩ t5 ⟨n5, e5⟩ u ⟨p, e⟩
    have q0 := e0
    have q1 := R8q q0 e1
    have q2 := R8q q1 e2
    have q3 := R8q q2 e3
    have q4 := R8q q3 e4
    have q5 := R8q q4 e5
    refine k _ u ⟨?_, R8q q5 e⟩
    rw [iw9 q5] at p
    rw [w6.1 p]; rfl
  · rintro t0 ⟨n0, e0⟩ t1 ⟨n1, e1⟩ t2 ⟨n2, e2⟩ t3 ⟨n3, e3⟩ t4 ⟨n4, e4⟩ t5 ⟨n5, e5⟩ t6 ⟨n6, e6⟩
    have q0 := e0
    have q1 := R8q q0 e1
    have q2 := R8q q1 e2
    have q3 := R8q q2 e3
    have q4 := R8q q3 e4
    have q5 := R8q q4 e5
    have q6 := R8q q5 e6
    rw [q6]; exact TRq_s h
  · rintro t0 ⟨n0, e0⟩ t1 ⟨n1, e1⟩ t2 ⟨n2, e2⟩ t3 ⟨n3, e3⟩ t4 ⟨n4, e4⟩ t5 ⟨n5, e5⟩ t6 ⟨n6, e6⟩ u ⟨p, e⟩
    have q0 := e0
    have q1 := R8q q0 e1
    have q2 := R8q q1 e2
    have q3 := R8q q2 e3
    have q4 := R8q q3 e4
    have q5 := R8q q4 e5
    have q6 := R8q q5 e6
    refine k _ u ⟨?_, R8q q6 e⟩
    rw [iw9 q6] at p
    rw [w7.1 p]; rfl
  · rintro t0 ⟨n0, e0⟩ t1 ⟨n1, e1⟩ t2 ⟨n2, e2⟩ t3 ⟨n3, e3⟩ t4 ⟨n4, e4⟩ t5 ⟨n5, e5⟩ t6 ⟨n6, e6⟩ t7 ⟨n7, e7⟩
    have q0 := e0
    have q1 := R8q q0 e1
    have q2 := R8q q1 e2
    have q3 := R8q q2 e3
    have q4 := R8q q3 e4
    have q5 := R8q q4 e5
    have q6 := R8q q5 e6
    have q7 := R8q q6 e7
    rw [q7]; exact TRq_s h
  · rintro t0 ⟨n0, e0⟩ t1 ⟨n1, e1⟩ t2 ⟨n2, e2⟩ t3 ⟨n3, e3⟩ t4 ⟨n4, e4⟩ t5 ⟨n5, e5⟩ t6 ⟨n6, e6⟩ t7 ⟨n7, e7⟩ u ⟨p, e⟩
    have q0 := e0
    have q1 := R8q q0 e1
    have q2 := R8q q1 e2
    have q3 := R8q q2 e3
    have q4 := R8q q3 e4
    have q5 := R8q q4 e5
    have q6 := R8q q5 e6
    have q7 := R8q q6 e7
    refine k _ u ⟨?_, R8q q7 e⟩
    rw [iw9 q7] at p
    rw [w8.1 p]; rfl
  · rintro t0 ⟨n0, e0⟩ t1 ⟨n1, e1⟩ t2 ⟨n2, e2⟩ t3 ⟨n3, e3⟩ t4 ⟨n4, e4⟩ t5 ⟨n5, e5⟩ t6 ⟨n6, e6⟩ t7 ⟨n7, e7⟩ t8 ⟨n8, e8⟩
    have q0 := e0
    have q1 := R8q q0 e1
    have q2 := R8q q1 e2
    have q3 := R8q q2 e3
    have q4 := R8q q3 e4
    have q5 := R8q q4 e5
    have q6 := R8q q5 e6
    have q7 := R8q q6 e7
    have q8 := R8q q7 e8
    rw [q8]; exact TRq_s h
  · rintro t0 ⟨n0, e0⟩ t1 ⟨n1, e1⟩ t2 ⟨n2, e2⟩ t3 ⟨n3, e3⟩ t4 ⟨n4, e4⟩ t5 ⟨n5, e5⟩ t6 ⟨n6, e6⟩ t7 ⟨n7, e7⟩ t8 ⟨n8, e8⟩ u ⟨p, e⟩
    have q0 := e0
    have q1 := R8q q0 e1
    have q2 := R8q q1 e2
    have q3 := R8q q2 e3
    have q4 := R8q q3 e4
    have q5 := R8q q4 e5
    have q6 := R8q q5 e6
    have q7 := R8q q6 e7
    have q8 := R8q q7 e8
    refine k _ u ⟨?_, R8q q8 e⟩
    rw [iw9 q8] at p
    rw [w9.1 p]; rfl
  · rintro t0 ⟨n0, e0⟩ t1 ⟨n1, e1⟩ t2 ⟨n2, e2⟩ t3 ⟨n3, e3⟩ t4 ⟨n4, e4⟩ t5 ⟨n5, e5⟩ t6 ⟨n6, e6⟩ t7 ⟨n7, e7⟩ t8 ⟨n8, e8⟩ t9 ⟨n9, e9⟩
    have q0 := e0
    have q1 := R8q q0 e1
    have q2 := R8q q1 e2
    have q3 := R8q q2 e3
    have q4 := R8q q3 e4
    have q5 := R8q q4 e5
    have q6 := R8q q5 e6
    have q7 := R8q q6 e7
    have q8 := R8q q7 e8
    have q9 := R8q q8 e9
    rw [q9]; exact TRq_s h
  · rintro t0 ⟨n0, e0⟩ t1 ⟨n1, e1⟩ t2 ⟨n2, e2⟩ t3 ⟨n3, e3⟩ t4 ⟨n4, e4⟩ t5 ⟨n5, e5⟩ t6 ⟨n6, e6⟩ t7 ⟨n7, e7⟩ t8 ⟨n8, e8⟩ t9 ⟨n9, e9⟩ u ⟨p, e⟩
    have q0 := e0
    have q1 := R8q q0 e1
    have q2 := R8q q1 e2
    have q3 := R8q q2 e3
    have q4 := R8q q3 e4
    have q5 := R8q q4 e5
    have q6 := R8q q5 e6
    have q7 := R8q q6 e7
    have q8 := R8q q7 e8
    have q9 := R8q q8 e9
    refine k _ u ⟨?_, R8q q9 e⟩
    rw [iw9 q9] at p
    rw [w10.1 p]; rfl
  · rintro t0 ⟨n0, e0⟩ t1 ⟨n1, e1⟩ t2 ⟨n2, e2⟩ t3 ⟨n3, e3⟩ t4 ⟨n4, e4⟩ t5 ⟨n5, e5⟩ t6 ⟨n6, e6⟩ t7 ⟨n7, e7⟩ t8 ⟨n8, e8⟩ t9 ⟨n9, e9⟩ t10 ⟨n10, e10⟩
    have q0 := e0
    have q1 := R8q q0 e1
    rw [iw9 q0] at n1
    have q2 := R8q q1 e2
    rw [iw9 q1] at n2
    have q3 := R8q q2 e3
    rw [iw9 q2] at n3
    have q4 := R8q q3 e4
    rw [iw9 q3] at n4
    have q5 := R8q q4 e5
    rw [iw9 q4] at n5
    have q6 := R8q q5 e6
    rw [iw9 q5] at n6
    have q7 := R8q q6 e7
    rw [iw9 q6] at n7
    have q8 := R8q q7 e8
    rw [iw9 q7] at n8
    have q9 := R8q q8 e9
    rw [iw9 q8] at n9
    have q10 := R8q q9 e10
    rw [iw9 q9] at n10
    refine k _ t10 ⟨?_, q10⟩
    unfold wvA
    rw [if_neg]
    rintro ⟨a, b⟩
    have hh : wnA (TR s) (nR s) (skR s) = 0 ∨ wnA (TR s) (nR s) (skR s) = 1 ∨ wnA (TR s) (nR s) (skR s) = 2 ∨ wnA (TR s) (nR s) (skR s) = 3 ∨ wnA (TR s) (nR s) (skR s) = 4 ∨ wnA (TR s) (nR s) (skR s) = 5 ∨ wnA (TR s) (nR s) (skR s) = 6 ∨ wnA (TR s) (nR s) (skR s) = 7 ∨ wnA (TR s) (nR s) (skR s) = 8 ∨ wnA (TR s) (nR s) (skR s) = 9 ∨ wnA (TR s) (nR s) (skR s) = 10 := by omega
    rcases hh with z | z | z | z | z | z | z | z | z | z | z
    · exact n0 (w0.2 z)
    · exact n1 (w1.2 z)
    · exact n2 (w2.2 z)
    · exact n3 (w3.2 z)
    · exact n4 (w4.2 z)
    · exact n5 (w5.2 z)
    · exact n6 (w6.2 z)
    · exact n7 (w7.2 z)
    · exact n8 (w8.2 z)
    · exact n9 (w9.2 z)
    · exact n10 (w10.2 z)
def txR (s : mSt) : Nat := (s 407 11).toNat
def lnR (s : mSt) : Int := s 410 (txR s)
def sgB (s : mSt) : List Int := (List.range (lnR s).toNat).map (fun i => s 409 (400 * txR s + i))
theorem v182 {X : (Nat → Int) × Nat} {d : Nat} {s : mSt} {Q : mQ} {x1 : Int} {x2 : Int}
  (z1 : 0 ≤ (s 407 11) ∧ (s 407 11) < 7)
  (z2 : 0 ≤ (w32 ((w32 (400 * (s 407 11))) + (s 410 (s 407 11).toNat))) ∧ (w32 ((w32 (400 * (s 407 11))) + (s 410 (s 407 11).toNat))) < 2400)
  (z3 : 0 ≤ ((uS s 409 ((w32 ((w32 (400 * (s 407 11))) + (s 410 (s 407 11).toNat))).toNat) (w32 (x1 + (w32 (16 * x2))))) 407 11) ∧ ((uS s 409 ((w32 ((w32 (400 * (s 407 11))) + (s 410 (s 407 11).toNat))).toNat) (w32 (x1 + (w32 (16 * x2))))) 407 11) < 7)
  (z4 : Q none (uS (uS s 409 ((w32 ((w32 (400 * (s 407 11))) + (s 410 (s 407 11).toNat))).toNat) (w32 (x1 + (w32 (16 * x2))))) 410 (((uS s 409 ((w32 ((w32 (400 * (s 407 11))) + (s 410 (s 407 11).toNat))).toNat) (w32 (x1 + (w32 (16 * x2))))) 407 11).toNat) (w32 (((uS s 409 ((w32 ((w32 (400 * (s 407 11))) + (s 410 (s 407 11).toNat))).toNat) (w32 (x1 + (w32 (16 * x2))))) 410 ((uS s 409 ((w32 ((w32 (400 * (s 407 11))) + (s 410 (s 407 11).toNat))).toNat) (w32 (x1 + (w32 (16 * x2))))) 407 11).toNat) + 1)))) :
  Sp X d 182 [mR 407, mI x1, mI x2] s Q := e182 (b182_0 z1 z2 z3 z3 z4)

theorem c182 {X : (Nat → Int) × Nat} {d : Nat} {s : mSt} {Q : mQ} {x1 : Int} {x2 : Int} (p1 : (0 ≤ s 407 11 ∧ s 407 11 < 6) ∧ (0 ≤ lnR s ∧ lnR s < 400) ∧ (0 ≤ x1 ∧ x1 ≤ 15) ∧ (0 ≤ x2 ∧ x2 ≤ 99999)) (k : ∀ t : mSt, (t = uS (uS s 409 (400 * txR s + (lnR s).toNat) (x1 + 16 * x2)) 410 (txR s) (lnR s + 1)) → Q none t) : Sp X d 182 [mR 407, mI x1, mI x2] s Q := by
  obtain ⟨h1, h2, h3, h4⟩ := p1
  unfold lnR txR at *
  have w1 : w32 (400 * s 407 11) = 400 * s 407 11 := w32_of (by omega)
  have w2 : w32 (400 * s 407 11 + s 410 (s 407 11).toNat) = 400 * s 407 11 + s 410 (s 407 11).toNat := w32_of (by omega)
  have w3 : w32 (x1 + w32 (16 * x2)) = x1 + 16 * x2 := by rw [w32_of (x := 16 * x2) (by omega), w32_of (by omega)]
  have w4 : (400 * s 407 11 + s 410 (s 407 11).toNat).toNat = 400 * (s 407 11).toNat + (s 410 (s 407 11).toNat).toNat := by omega
  refine v182 ⟨h1.1, by omega⟩ (by rw [w1, w2]; omega) (by rw [uS_cell (by decide)]; exact ⟨h1.1, by omega⟩) (k _ ?_)
  rw [w1, w2, w3, w4, uS_cell (show 407 ≠ 409 by decide), uS_cell (show 410 ≠ 409 by decide), w32_of (by omega)]
theorem sgB_e {s t : mSt} {x : Int} (h0 : 0 ≤ lnR s) (e : t = uS (uS s 409 (400 * txR s + (lnR s).toNat) x) 410 (txR s) (lnR s + 1)) : sgB t = sgB s ++ [x] ∧ txR t = txR s ∧ lnR t = lnR s + 1 ∧ t 407 = s 407 ∧ t 408 = s 408 ∧ t 414 = s 414 := by
  have e7 : t 407 = s 407 := by rw [e, uS_cell (by decide), uS_cell (by decide)]
  have et : txR t = txR s := by unfold txR; rw [e7]
  have el : lnR t = lnR s + 1 := by
    show t 410 (txR t) = _
    rw [et, e, uS_at, if_pos rfl]
  refine ⟨?_, et, el, e7, by rw [e, uS_cell (by decide), uS_cell (by decide)], by rw [e, uS_cell (by decide), uS_cell (by decide)]⟩
  have e9 : ∀ i, t 409 (400 * txR s + i) = if i = (lnR s).toNat then x else s 409 (400 * txR s + i) := fun i => by
    rw [e, uS_cell (by decide), uS_at]
    by_cases z : i = (lnR s).toNat
    · rw [if_pos z, if_pos (by omega)]
    · rw [if_neg z, if_neg (by omega)]
  unfold sgB
  rw [el, et, show (lnR s + 1).toNat = (lnR s).toNat + 1 by omega, List.range_succ, List.map_append]
  congr 1
  · refine List.map_congr_left (fun i hi => ?_)
    rw [List.mem_range] at hi
    rw [e9, if_neg (by omega)]
  · show [t 409 (400 * txR s + (lnR s).toNat)] = [x]
    rw [e9, if_pos rfl]
theorem v183 {X : (Nat → Int) × Nat} {d : Nat} {s : mSt} {Q : mQ} {x1 : Int}
  (z1 : ¬ (s 407 12) = 60 → Q (some (mI 1)) (uS s 407 12 (w32 ((s 407 12) + 1))))
  (z2 : (s 407 12) = 60 → (0 ≤ (3 : Int) ∧ (3 : Int) ≤ 4) ∧ (0 ≤ x1 ∧ x1 ≤ 400))
  (z3 : (s 407 12) = 60 → ∀ v3 : Int, ∀ s3 : mSt, (v3 = 0 ∧ s3 = flR s (3 : Int) x1) → Q (some (mI v3)) s3)
  (z4 : (s 407 12) = 60 → ∀ v3 : Int, ∀ s3 : mSt, (v3 = 0 ∧ s3 = flR s (3 : Int) x1) → v3 = 0 ∨ v3 = 1) :
  Sp X (d + 1) 183 [mR 407, mI x1] s Q := e183 (b183_0 (fun q1 => b183_16 (z1 q1)) (fun q2 => b183_9 (c173 (z2 q2) (fun v3 s3 q3 => ⟨v3, rfl, b183_15 (z3 q2 v3 s3 q3) (z4 q2 v3 s3 q3)⟩))))

theorem c183 {X : (Nat → Int) × Nat} {d : Nat} {s : mSt} {Q : mQ} {x1 : Int} (p1 : s 407 9 = 0 ∧ (0 ≤ x1 ∧ x1 ≤ 400) ∧ (0 ≤ s 407 12 ∧ s 407 12 ≤ 60)) (k1 : ∀ t : mSt, (s 407 12 < 60 ∧ t = uS s 407 12 (s 407 12 + 1)) → Q (some (mI 1)) t) (k0 : ∀ t : mSt, (¬ s 407 12 < 60 ∧ t = uS s 407 9 (1 + 8 * x1 + 3)) → Q (some (mI 0)) t) : Sp X (d + 1) 183 [mR 407, mI x1] s Q := by
  obtain ⟨h9, hx, hk⟩ := p1
  refine v183 (fun z => k1 _ ⟨by omega, by rw [w32_of (by omega)]⟩) (fun z => ⟨by decide, hx⟩) ?_ (fun z v u e => Or.inl e.1)
  rintro z v u ⟨ev, e⟩
  rw [ev]
  refine k0 u ⟨by omega, ?_⟩
  rw [e]; unfold flR; rw [if_pos h9]
theorem v184 {X : (Nat → Int) × Nat} {d : Nat} {s : mSt} {Q : mQ} {x1 : Int}
  (z1 : ¬ (s 407 13) = 10 → 0 ≤ ((uS s 407 13 (w32 ((s 407 13) + 1))) 407 16) ∧ ((uS s 407 13 (w32 ((s 407 13) + 1))) 407 16) < 400)
  (z2 : ¬ (s 407 13) = 10 → Q (some (mI 1)) (uS (uS (uS s 407 13 (w32 ((s 407 13) + 1))) 414 (((uS s 407 13 (w32 ((s 407 13) + 1))) 407 16).toNat) x1) 407 16 (w32 (((uS (uS s 407 13 (w32 ((s 407 13) + 1))) 414 (((uS s 407 13 (w32 ((s 407 13) + 1))) 407 16).toNat) x1) 407 16) + 1))))
  (z3 : (s 407 13) = 10 → (0 ≤ (2 : Int) ∧ (2 : Int) ≤ 4) ∧ (0 ≤ (s 407 8) ∧ (s 407 8) ≤ 400))
  (z4 : (s 407 13) = 10 → ∀ v3 : Int, ∀ s3 : mSt, (v3 = 0 ∧ s3 = flR s (2 : Int) (s 407 8)) → Q (some (mI v3)) s3)
  (z5 : (s 407 13) = 10 → ∀ v3 : Int, ∀ s3 : mSt, (v3 = 0 ∧ s3 = flR s (2 : Int) (s 407 8)) → v3 = 0 ∨ v3 = 1) :
  Sp X (d + 1) 184 [mR 407, mI x1] s Q := e184 (b184_0 (fun q1 => b184_19 (z1 q1) (z2 q1)) (fun q2 => b184_9 (c173 (z3 q2) (fun v3 s3 q3 => ⟨v3, rfl, b184_18 (z4 q2 v3 s3 q3) (z5 q2 v3 s3 q3)⟩))))

theorem c184 {X : (Nat → Int) × Nat} {d : Nat} {s : mSt} {Q : mQ} {x1 : Int} (p1 : TRq s ∧ s 407 9 = 0 ∧ (0 ≤ s 407 13 ∧ s 407 13 ≤ 10) ∧ (0 ≤ s 407 16 ∧ s 407 16 < 400)) (k1 : ∀ t : mSt, (s 407 13 < 10 ∧ t = uS (uS (uS s 407 13 (s 407 13 + 1)) 414 (s 407 16).toNat x1) 407 16 (s 407 16 + 1)) → Q (some (mI 1)) t) (k0 : ∀ t : mSt, (¬ s 407 13 < 10 ∧ t = uS s 407 9 (1 + 8 * s 407 8 + 2)) → Q (some (mI 0)) t) : Sp X (d + 1) 184 [mR 407, mI x1] s Q := by
  obtain ⟨h, h9, hd, ho⟩ := p1
  have e (x : Int) : (uS s 407 13 x) 407 16 = s 407 16 := by rw [uS_at, if_neg (by decide)]
  refine v184 (fun z => by rw [e]; exact ho) (fun z => k1 _ ⟨by omega, ?_⟩) (fun z => ⟨by decide, by have := h.2; omega⟩) ?_ (fun z v u e => Or.inl e.1)
  · rw [e, uS_cell (show 407 ≠ 414 by decide), e, w32_of (by omega), w32_of (by omega)]
  · rintro z v u ⟨ev, e⟩
    rw [ev]
    refine k0 u ⟨by omega, ?_⟩
    rw [e]; unfold flR; rw [if_pos h9]
def strR (x : Int) : Int := if x = 13 then 1 else if x = 12 then 2 else if x = 11 then 3 else 0
theorem v185 {X : (Nat → Int) × Nat} {d : Nat} {s : mSt} {Q : mQ} {x0 : Int}
  (z1 : ¬ x0 = 13 → ¬ x0 = 12 → ¬ x0 = 11 → Q (some (mI 0)) s)
  (z2 : ¬ x0 = 13 → ¬ x0 = 12 → x0 = 11 → Q (some (mI 3)) s)
  (z3 : ¬ x0 = 13 → x0 = 12 → Q (some (mI 2)) s)
  (z4 : x0 = 13 → Q (some (mI 1)) s) :
  Sp X d 185 [mI x0] s Q := e185 (b185_0 (fun q1 => b185_10 (fun q2 => b185_20 (fun q3 => b185_30 (b185_31 (z1 q1 q2 q3))) (fun q4 => b185_26 (b185_31 (z2 q1 q2 q4)))) (fun q5 => b185_16 (b185_31 (z3 q1 q5)))) (fun q6 => b185_6 (b185_31 (z4 q6))))

theorem c185 {X : (Nat → Int) × Nat} {d : Nat} {s : mSt} {Q : mQ} {x0 : Int} (k : Q (some (mI (strR x0))) s) : Sp X d 185 [mI x0] s Q := by
  unfold strR at k
  refine v185 ?_ ?_ ?_ ?_
  · intro h1 h2 h3; rw [if_neg h1, if_neg h2, if_neg h3] at k; exact k
  · intro h1 h2 h3; rw [if_neg h1, if_neg h2, if_pos h3] at k; exact k
  · intro h1 h2; rw [if_neg h1, if_pos h2] at k; exact k
  · intro h1; rw [if_pos h1] at k; exact k
/-- the frame of what reads values -/
def fRv (s t : mSt) : Prop := (∀ b, b ≠ 407 → b ≠ 409 → b ≠ 410 → t b = s b) ∧ (∀ j, ¬ (8 ≤ j ∧ j ≤ 10) → j ≠ 12 → t 407 j = s 407 j) ∧ (∀ j, j ≠ txR s → t 410 j = s 410 j) ∧ ∀ j, ¬ (400 * txR s ≤ j ∧ j < 400 * txR s + 400) → t 409 j = s 409 j
theorem fRv_x {s t : mSt} (h : fRv s t) : txR t = txR s ∧ TR t = TR s ∧ nR t = nR s := by
  refine ⟨?_, ?_, ?_⟩
  · unfold txR; rw [h.2.1 11 (by decide) (by decide)]
  · unfold TR; rw [h.1 408 (by decide) (by decide) (by decide)]
  · unfold nR; rw [h.2.1 1 (by decide) (by decide)]
theorem fRv_t {s t u : mSt} (h1 : fRv s t) (h2 : fRv t u) : fRv s u := by
  have e := (fRv_x h1).1
  obtain ⟨b1, b2, b3, b4⟩ := h2
  rw [e] at b3 b4
  exact ⟨fun b a1 a2 a3 => (b1 b a1 a2 a3).trans (h1.1 b a1 a2 a3), fun j g1 g2 => (b2 j g1 g2).trans (h1.2.1 j g1 g2), fun j g => (b3 j g).trans (h1.2.2.1 j g), fun j g => (b4 j g).trans (h1.2.2.2 j g)⟩
theorem fRv_0 (s : mSt) : fRv s s := ⟨fun _ _ _ _ => rfl, fun _ _ _ => rfl, fun _ _ => rfl, fun _ _ => rfl⟩
theorem fR_v {s t : mSt} (h : fR s t) : fRv s t := ⟨fun b a1 _ _ => h.1 b a1, fun j g _ => h.2 j g, fun j _ => by rw [h.1 410 (by decide)], fun j _ => by rw [h.1 409 (by decide)]⟩
theorem fRv_u {s t : mSt} (h : fRv s t) {j : Nat} (x : Int) (hj : (8 ≤ j ∧ j ≤ 10) ∨ j = 12) : fRv s (uS t 407 j x) := by
  refine fRv_t h ⟨fun b a1 _ _ => uS_cell a1, fun i g1 g2 => by rw [uS_at, if_neg (by omega)], fun i _ => by rw [uS_cell (by decide)], fun i _ => by rw [uS_cell (by decide)]⟩
theorem fRv_p {s t : mSt} {x : Int} (h0 : 0 ≤ lnR s ∧ lnR s < 400) (e : t = uS (uS s 409 (400 * txR s + (lnR s).toNat) x) 410 (txR s) (lnR s + 1)) : fRv s t :=
  ⟨fun b _ a2 a3 => by rw [e, uS_cell a3, uS_cell a2], fun j _ _ => by rw [e, uS_cell (by decide), uS_cell (by decide)], fun j g => by rw [e, uS_at, if_neg g, uS_cell (by decide)], fun j g => by rw [e, uS_cell (by decide), uS_at, if_neg (by omega)]⟩
def RGq (s t : mSt) : Prop := TRq t ∧ t 407 9 = 0 ∧ (0 ≤ t 407 12 ∧ t 407 12 ≤ 60) ∧ 0 ≤ lnR t ∧ fRv s t
def RHq (s : mSt) : Prop := TRq s ∧ s 407 9 = 0 ∧ (0 ≤ s 407 12 ∧ s 407 12 ≤ 60) ∧ 0 ≤ lnR s ∧ (0 ≤ s 407 11 ∧ s 407 11 < 6)
def RZ0 (s t : mSt) (f : Int) : Prop := t 407 9 = f ∧ 0 < f ∧ fRv s t
theorem v187 {X : (Nat → Int) × Nat} {d : Nat} {s : mSt} {Q : mQ}
  (z1 : TRq s)
  (z2 : ∀ v1 : Int, ∀ s1 : mSt, (v1 = (if nR s ≤ skR s then -1 else TR s (skR s)) ∧ s1 = uS s 407 8 (skR s : Int)) → TRq s1 ∧ 0 ≤ (s1 407 8))
  (z3 : ∀ v1 : Int, ∀ s1 : mSt, (v1 = (if nR s ≤ skR s then -1 else TR s (skR s)) ∧ s1 = uS s 407 8 (skR s : Int)) → ((s1 407 8).toNat < nR s1 ∧ isD (TR s1) (s1 407 8).toNat = true) → TRq s1 ∧ s1 407 9 = 0)
  (z4 : ∀ v1 : Int, ∀ s1 : mSt, (v1 = (if nR s ≤ skR s then -1 else TR s (skR s)) ∧ s1 = uS s 407 8 (skR s : Int)) → ((s1 407 8).toNat < nR s1 ∧ isD (TR s1) (s1 407 8).toNat = true) → ∀ s3 : mSt, (nuA (TR s1) (nR s1) (skR s1) (0 : Int) (99999 : Int) = -1 ∧ s3 = uS (uS s1 407 8 (tkR s1 : Int)) 407 10 (vA (TR s1) (nR s1) (skR s1))) → s3 407 9 = 0 ∧ (0 ≤ (s1 407 8) ∧ (s1 407 8) ≤ 400) ∧ (0 ≤ s3 407 12 ∧ s3 407 12 ≤ 60))
  (z5 : ∀ v1 : Int, ∀ s1 : mSt, (v1 = (if nR s ≤ skR s then -1 else TR s (skR s)) ∧ s1 = uS s 407 8 (skR s : Int)) → ((s1 407 8).toNat < nR s1 ∧ isD (TR s1) (s1 407 8).toNat = true) → ∀ s3 : mSt, (nuA (TR s1) (nR s1) (skR s1) (0 : Int) (99999 : Int) = -1 ∧ s3 = uS (uS s1 407 8 (tkR s1 : Int)) 407 10 (vA (TR s1) (nR s1) (skR s1))) → ∀ s4 : mSt, (s3 407 12 < 60 ∧ s4 = uS s3 407 12 (s3 407 12 + 1)) → (0 ≤ s4 407 11 ∧ s4 407 11 < 6) ∧ (0 ≤ lnR s4 ∧ lnR s4 < 400) ∧ (0 ≤ (0 : Int) ∧ (0 : Int) ≤ 15) ∧ (0 ≤ (s4 407 10) ∧ (s4 407 10) ≤ 99999))
  (z6 : ∀ v1 : Int, ∀ s1 : mSt, (v1 = (if nR s ≤ skR s then -1 else TR s (skR s)) ∧ s1 = uS s 407 8 (skR s : Int)) → ((s1 407 8).toNat < nR s1 ∧ isD (TR s1) (s1 407 8).toNat = true) → ∀ s3 : mSt, (nuA (TR s1) (nR s1) (skR s1) (0 : Int) (99999 : Int) = -1 ∧ s3 = uS (uS s1 407 8 (tkR s1 : Int)) 407 10 (vA (TR s1) (nR s1) (skR s1))) → ∀ s4 : mSt, (s3 407 12 < 60 ∧ s4 = uS s3 407 12 (s3 407 12 + 1)) → ∀ s5 : mSt, s5 = uS (uS s4 409 (400 * txR s4 + (lnR s4).toNat) ((0 : Int) + 16 * (s4 407 10))) 410 (txR s4) (lnR s4 + 1) → Q (some (mI 1)) s5)
  (z7 : ∀ v1 : Int, ∀ s1 : mSt, (v1 = (if nR s ≤ skR s then -1 else TR s (skR s)) ∧ s1 = uS s 407 8 (skR s : Int)) → ((s1 407 8).toNat < nR s1 ∧ isD (TR s1) (s1 407 8).toNat = true) → ∀ s3 : mSt, (nuA (TR s1) (nR s1) (skR s1) (0 : Int) (99999 : Int) = -1 ∧ s3 = uS (uS s1 407 8 (tkR s1 : Int)) 407 10 (vA (TR s1) (nR s1) (skR s1))) → ∀ s6 : mSt, (¬ s3 407 12 < 60 ∧ s6 = uS s3 407 9 (1 + 8 * (s1 407 8) + 3)) → Q (some (mI 0)) s6)
  (z8 : ∀ v1 : Int, ∀ s1 : mSt, (v1 = (if nR s ≤ skR s then -1 else TR s (skR s)) ∧ s1 = uS s 407 8 (skR s : Int)) → ((s1 407 8).toNat < nR s1 ∧ isD (TR s1) (s1 407 8).toNat = true) → ∀ s7 : mSt, (¬ nuA (TR s1) (nR s1) (skR s1) (0 : Int) (99999 : Int) = -1 ∧ s7 407 9 = fuA (skR s1) (nuA (TR s1) (nR s1) (skR s1) (0 : Int) (99999 : Int)) ∧ fR s1 s7) → Q (some (mI 0)) s7)
  (z9 : ∀ v1 : Int, ∀ s1 : mSt, (v1 = (if nR s ≤ skR s then -1 else TR s (skR s)) ∧ s1 = uS s 407 8 (skR s : Int)) → (¬ ((s1 407 8).toNat < nR s1 ∧ isD (TR s1) (s1 407 8).toNat = true)) → TRq s1)
  (z10 : ∀ v1 : Int, ∀ s1 : mSt, (v1 = (if nR s ≤ skR s then -1 else TR s (skR s)) ∧ s1 = uS s 407 8 (skR s : Int)) → (¬ ((s1 407 8).toNat < nR s1 ∧ isD (TR s1) (s1 407 8).toNat = true)) → ∀ v9 : Int, ∀ s9 : mSt, (v9 = wvA (wnA (TR s1) (nR s1) (skR s1)) ∧ s9 = uS s1 407 8 (skR s1 : Int)) → 0 ≤ v9 → s9 407 9 = 0 ∧ (0 ≤ (s1 407 8) ∧ (s1 407 8) ≤ 400) ∧ (0 ≤ s9 407 12 ∧ s9 407 12 ≤ 60))
  (z11 : ∀ v1 : Int, ∀ s1 : mSt, (v1 = (if nR s ≤ skR s then -1 else TR s (skR s)) ∧ s1 = uS s 407 8 (skR s : Int)) → (¬ ((s1 407 8).toNat < nR s1 ∧ isD (TR s1) (s1 407 8).toNat = true)) → ∀ v9 : Int, ∀ s9 : mSt, (v9 = wvA (wnA (TR s1) (nR s1) (skR s1)) ∧ s9 = uS s1 407 8 (skR s1 : Int)) → 0 ≤ v9 → ∀ s11 : mSt, (s9 407 12 < 60 ∧ s11 = uS s9 407 12 (s9 407 12 + 1)) → TRq s11)
  (z12 : ∀ v1 : Int, ∀ s1 : mSt, (v1 = (if nR s ≤ skR s then -1 else TR s (skR s)) ∧ s1 = uS s 407 8 (skR s : Int)) → (¬ ((s1 407 8).toNat < nR s1 ∧ isD (TR s1) (s1 407 8).toNat = true)) → ∀ v9 : Int, ∀ s9 : mSt, (v9 = wvA (wnA (TR s1) (nR s1) (skR s1)) ∧ s9 = uS s1 407 8 (skR s1 : Int)) → 0 ≤ v9 → ∀ s11 : mSt, (s9 407 12 < 60 ∧ s11 = uS s9 407 12 (s9 407 12 + 1)) → ∀ s12 : mSt, s12 = uS s11 407 8 (leT (TR s11) (nR s11) (s11 407 8).toNat : Int) → (0 ≤ s12 407 11 ∧ s12 407 11 < 6) ∧ (0 ≤ lnR s12 ∧ lnR s12 < 400) ∧ (0 ≤ (1 : Int) ∧ (1 : Int) ≤ 15) ∧ (0 ≤ v9 ∧ v9 ≤ 99999))
  (z13 : ∀ v1 : Int, ∀ s1 : mSt, (v1 = (if nR s ≤ skR s then -1 else TR s (skR s)) ∧ s1 = uS s 407 8 (skR s : Int)) → (¬ ((s1 407 8).toNat < nR s1 ∧ isD (TR s1) (s1 407 8).toNat = true)) → ∀ v9 : Int, ∀ s9 : mSt, (v9 = wvA (wnA (TR s1) (nR s1) (skR s1)) ∧ s9 = uS s1 407 8 (skR s1 : Int)) → 0 ≤ v9 → ∀ s11 : mSt, (s9 407 12 < 60 ∧ s11 = uS s9 407 12 (s9 407 12 + 1)) → ∀ s12 : mSt, s12 = uS s11 407 8 (leT (TR s11) (nR s11) (s11 407 8).toNat : Int) → ∀ s13 : mSt, s13 = uS (uS s12 409 (400 * txR s12 + (lnR s12).toNat) ((1 : Int) + 16 * v9)) 410 (txR s12) (lnR s12 + 1) → Q (some (mI 1)) s13)
  (z14 : ∀ v1 : Int, ∀ s1 : mSt, (v1 = (if nR s ≤ skR s then -1 else TR s (skR s)) ∧ s1 = uS s 407 8 (skR s : Int)) → (¬ ((s1 407 8).toNat < nR s1 ∧ isD (TR s1) (s1 407 8).toNat = true)) → ∀ v9 : Int, ∀ s9 : mSt, (v9 = wvA (wnA (TR s1) (nR s1) (skR s1)) ∧ s9 = uS s1 407 8 (skR s1 : Int)) → 0 ≤ v9 → ∀ s14 : mSt, (¬ s9 407 12 < 60 ∧ s14 = uS s9 407 9 (1 + 8 * (s1 407 8) + 3)) → Q (some (mI 0)) s14)
  (z15 : ∀ v1 : Int, ∀ s1 : mSt, (v1 = (if nR s ≤ skR s then -1 else TR s (skR s)) ∧ s1 = uS s 407 8 (skR s : Int)) → (¬ ((s1 407 8).toNat < nR s1 ∧ isD (TR s1) (s1 407 8).toNat = true)) → ∀ v9 : Int, ∀ s9 : mSt, (v9 = wvA (wnA (TR s1) (nR s1) (skR s1)) ∧ s9 = uS s1 407 8 (skR s1 : Int)) → ¬ 0 ≤ v9 → (0 ≤ (0 : Int) ∧ (0 : Int) ≤ 4) ∧ (0 ≤ (s1 407 8) ∧ (s1 407 8) ≤ 400))
  (z16 : ∀ v1 : Int, ∀ s1 : mSt, (v1 = (if nR s ≤ skR s then -1 else TR s (skR s)) ∧ s1 = uS s 407 8 (skR s : Int)) → (¬ ((s1 407 8).toNat < nR s1 ∧ isD (TR s1) (s1 407 8).toNat = true)) → ∀ v9 : Int, ∀ s9 : mSt, (v9 = wvA (wnA (TR s1) (nR s1) (skR s1)) ∧ s9 = uS s1 407 8 (skR s1 : Int)) → ¬ 0 ≤ v9 → ∀ v16 : Int, ∀ s16 : mSt, (v16 = 0 ∧ s16 = flR s9 (0 : Int) (s1 407 8)) → Q (some (mI v16)) s16)
  (z17 : ∀ v1 : Int, ∀ s1 : mSt, (v1 = (if nR s ≤ skR s then -1 else TR s (skR s)) ∧ s1 = uS s 407 8 (skR s : Int)) → (¬ ((s1 407 8).toNat < nR s1 ∧ isD (TR s1) (s1 407 8).toNat = true)) → ∀ v9 : Int, ∀ s9 : mSt, (v9 = wvA (wnA (TR s1) (nR s1) (skR s1)) ∧ s9 = uS s1 407 8 (skR s1 : Int)) → ¬ 0 ≤ v9 → ∀ v16 : Int, ∀ s16 : mSt, (v16 = 0 ∧ s16 = flR s9 (0 : Int) (s1 407 8)) → v16 = 0 ∨ v16 = 1) :
  Sp X (d + 3) 187 [mR 407] s Q := e187 (b187_0 (c174 z1 (fun v1 s1 q1 => ⟨v1, rfl, b187_4 (c175 (z2 v1 s1 q1) (fun q2 => ⟨1, rfl, b187_18 (fun q => absurd q (by decide)) (fun _ => b187_21 (c180 (z3 v1 s1 q1 q2) (fun s3 q3 => ⟨1, rfl, b187_28 (fun q => absurd q (by decide)) (fun _ => b187_31 (c183 (z4 v1 s1 q1 q2 s3 q3) (fun s4 q4 => ⟨1, rfl, b187_36 (fun _ => b187_41 (c182 (z5 v1 s1 q1 q2 s3 q3 s4 q4) (fun s5 q5 => ⟨rfl, b187_50 (z6 v1 s1 q1 q2 s3 q3 s4 q4 s5 q5)⟩))) (fun q => absurd q (by decide))⟩) (fun s6 q6 => ⟨0, rfl, b187_36 (fun q => absurd q (by decide)) (fun _ => b187_39 (z7 v1 s1 q1 q2 s3 q3 s6 q6))⟩)))⟩) (fun s7 q7 => ⟨0, rfl, b187_28 (fun _ => b187_39 (z8 v1 s1 q1 q2 s7 q7)) (fun q => absurd q (by decide))⟩)))⟩) (fun q8 => ⟨0, rfl, b187_18 (fun _ => b187_52 (c181 (z9 v1 s1 q1 q8) (fun v9 s9 q9 => ⟨v9, rfl, b187_56 (fun q10 => b187_68 (c183 (z10 v1 s1 q1 q8 v9 s9 q9 q10) (fun s11 q11 => ⟨1, rfl, b187_73 (fun _ => b187_78 (c178 (z11 v1 s1 q1 q8 v9 s9 q9 q10 s11 q11) (fun s12 q12 => ⟨rfl, b187_82 (c182 (z12 v1 s1 q1 q8 v9 s9 q9 q10 s11 q11 s12 q12) (fun s13 q13 => ⟨rfl, b187_88 (z13 v1 s1 q1 q8 v9 s9 q9 q10 s11 q11 s12 q12 s13 q13)⟩))⟩))) (fun q => absurd q (by decide))⟩) (fun s14 q14 => ⟨0, rfl, b187_73 (fun q => absurd q (by decide)) (fun _ => b187_76 (z14 v1 s1 q1 q8 v9 s9 q9 q10 s14 q14))⟩))) (fun q15 => b187_61 (c173 (z15 v1 s1 q1 q8 v9 s9 q9 q15) (fun v16 s16 q16 => ⟨v16, rfl, b187_67 (z16 v1 s1 q1 q8 v9 s9 q9 q15 v16 s16 q16) (z17 v1 s1 q1 q8 v9 s9 q9 q15 v16 s16 q16)⟩)))⟩))) (fun q => absurd q (by decide))⟩))⟩)))

theorem lnR_u (s : mSt) {j : Nat} (x : Int) (h : 11 ≠ j) : lnR (uS s 407 j x) = lnR s := by
  unfold lnR txR
  rw [uS_cell (show 410 ≠ 407 by decide), uS_at, if_neg h]
theorem put_fin {s w t : mSt} {x : Int} (h1 : TRq w) (h2 : w 407 9 = 0) (h3 : 0 ≤ w 407 12 ∧ w 407 12 ≤ 60) (h4 : fRv s w) (h9 : w 409 = s 409) (h10 : w 410 = s 410) (h0 : 0 ≤ lnR s ∧ lnR s < 400) (e : t = uS (uS w 409 (400 * txR w + (lnR w).toNat) x) 410 (txR w) (lnR w + 1)) : RGq s t ∧ skR t = skR w ∧ t 407 12 = w 407 12 ∧ sgB t = sgB s ++ [x] ∧ lnR t = lnR s + 1 := by
  have ex := fRv_x h4
  have el : lnR w = lnR s := by unfold lnR; rw [ex.1, h10]
  have eb : sgB w = sgB s := by unfold sgB; rw [el, ex.1, h9]
  have q := sgB_e (by rw [el]; exact h0.1) e
  have fp := fRv_p (by rw [el]; exact h0) e
  refine ⟨⟨?_, by rw [q.2.2.2.1]; exact h2, by rw [q.2.2.2.1]; exact h3, by rw [q.2.2.1, el]; omega, fRv_t h4 fp⟩, ?_, by rw [q.2.2.2.1], by rw [q.1, eb], by rw [q.2.2.1, el]⟩
  · unfold TRq; rw [q.2.2.2.1, q.2.2.2.2.1]; exact h1
  · unfold skR TR nR; rw [q.2.2.2.1, q.2.2.2.2.1]
theorem c187 {X : (Nat → Int) × Nat} {d : Nat} {s : mSt} {Q : mQ} (p1 : RHq s ∧ lnR s ≤ (skR s : Int)) (k1 : ∀ t : mSt, (vfA (TR s) (nR s) (skR s) (s 407 12) = -1 ∧ RGq s t ∧ skR t = nxR s ∧ t 407 12 = s 407 12 + 1 ∧ sgB t = sgB s ++ [encC (itA (TR s) (nR s) (skR s))] ∧ lnR t = lnR s + 1 ∧ skR s < nR s) → Q (some (mI 1)) t) (k0 : ∀ t : mSt, (¬ vfA (TR s) (nR s) (skR s) (s 407 12) = -1 ∧ RZ0 s t (fuA (skR s) (vfA (TR s) (nR s) (skR s) (s 407 12)))) → Q (some (mI 0)) t) : Sp X (d + 3) 187 [mR 407] s Q := by
  obtain ⟨⟨h, h9, h12, h0, h11⟩, hs⟩ := p1
  have hb := skR_b h
  have hT := TR_t h
  have pb := tkP_b (TR s) hb.2.1
  have s8 : ∀ {t : mSt}, t = uS s 407 8 (skR s : Int) → t 407 8 = (skR s : Int) ∧ nR t = nR s ∧ TR t = TR s ∧ skR t = skR s ∧ TRq t ∧ t 407 9 = 0 ∧ t 407 12 = s 407 12 := fun {t} e => by
    rw [e]
    exact ⟨by rw [uS_at, if_pos rfl], R8w.2.1, R8w.1, R8w.2.2, TRq_s h, by rw [uS_at, if_neg (by decide)]; exact h9, by rw [uS_at, if_neg (by decide)]⟩
  have gD : skR s < nR s ∧ isD (TR s) (skR s) = true → wnA (TR s) (nR s) (skR s) = -1 := fun z => if_neg (by rw [(tkD hT).2 z]; decide)
  have gN : ¬ (skR s < nR s ∧ isD (TR s) (skR s) = true) → nuA (TR s) (nR s) (skR s) 0 99999 = 0 := fun z => if_neg (fun y => z ((tkD hT).1 y))
  have nb := nuA_b (TR s) (nR s) (skR s) 0 99999
  have z0 : ∀ (t : mSt) (f : Int), 0 ≤ f → t 407 9 = fuA (skR s) f → fRv s t → RZ0 s t (fuA (skR s) f) := fun t f hf e1 e2 => ⟨e1, by unfold fuA; omega, e2⟩
  have vD : nuA (TR s) (nR s) (skR s) 0 99999 = -1 → vfA (TR s) (nR s) (skR s) (s 407 12) = (if 60 ≤ s 407 12 then 3 else -1) := fun y => if_pos (Or.inr y)
  have vW : 0 ≤ wnA (TR s) (nR s) (skR s) ∧ wnA (TR s) (nR s) (skR s) < 11 → vfA (TR s) (nR s) (skR s) (s 407 12) = (if 60 ≤ s 407 12 then 3 else -1) := fun y => if_pos (Or.inl y)
  refine v187 h ?_ ?_ ?_ ?_ ?_ ?_ ?_ ?_ ?_ ?_ ?_ ?_ ?_ ?_ ?_ ?_
  · rintro v t ⟨_, e⟩
    have q := s8 e
    exact ⟨q.2.2.2.2.1, by rw [q.1]; omega⟩
  · rintro v t ⟨_, e⟩ hd
    have q := s8 e
    exact ⟨q.2.2.2.2.1, q.2.2.2.2.2.1⟩
  · rintro v t ⟨_, e⟩ hd u ⟨hn, eu⟩
    have q := s8 e
    refine ⟨by rw [eu, uS_at, if_neg (by decide), uS_at, if_neg (by decide)]; exact q.2.2.2.2.2.1, by rw [q.1]; omega, ?_⟩
    rw [eu, uS_at, if_neg (by decide), uS_at, if_neg (by decide), q.2.2.2.2.2.2]; exact h12
  · rintro v t ⟨_, e⟩ hd u ⟨hn, eu⟩ w ⟨hk, ew⟩
    have q := s8 e
    rw [q.1, tnc, q.2.1, q.2.2.1] at hd
    rw [q.2.1, q.2.2.1, q.2.2.2.1] at hn eu
    have vb := nuA_v hn
    refine ⟨?_, ?_, by decide, ?_⟩
    · rw [ew, uS_at, if_neg (by decide), eu, uS_at, if_neg (by decide), uS_at, if_neg (by decide), e, uS_at, if_neg (by decide)]; exact h11
    · have el : lnR w = lnR s := by
        rw [ew, lnR_u _ _ (by decide), eu, lnR_u _ _ (by decide), lnR_u _ _ (by decide), e, lnR_u _ _ (by decide)]
      rw [el]; omega
    · rw [ew, uS_at, if_neg (by decide), eu, uS_at, if_pos rfl]; exact vb
  · rintro v t ⟨_, e⟩ hd u ⟨hn, eu⟩ w ⟨hk, ew⟩ x ex
    have q := s8 e
    rw [q.1, tnc, q.2.1, q.2.2.1] at hd
    have tk : tkR t = tkP (TR s) (nR s) (skR s) := by unfold tkR; rw [q.2.1, q.2.2.1, q.2.2.2.1]
    rw [q.2.1, q.2.2.1, q.2.2.2.1] at hn eu
    rw [tk] at eu
    have vb := nuA_v hn
    have u12 : u 407 12 = s 407 12 := by rw [eu, uS_at, if_neg (by decide), uS_at, if_neg (by decide), q.2.2.2.2.2.2]
    rw [u12] at hk ew
    have ew2 : w = uS (uS (uS s 407 8 (tkP (TR s) (nR s) (skR s) : Int)) 407 10 (vA (TR s) (nR s) (skR s))) 407 12 (s 407 12 + 1) := by rw [ew, eu, e, uS_uS]
    have w10 : w 407 10 = vA (TR s) (nR s) (skR s) := by rw [ew2, uS_at, if_neg (by decide), uS_at, if_pos rfl]
    have w12 : w 407 12 = s 407 12 + 1 := by rw [ew2, uS_at, if_pos rfl]
    have fw : fRv s w := by rw [ew2]; exact fRv_u (fRv_u (fRv_u (fRv_0 s) _ (by decide)) _ (by decide)) _ (by decide)
    rw [w10] at ex
    have r := put_fin (s := s) (by rw [ew2]; exact TRq_o (TRq_o (TRq_8 h pb.2.1) _ (by decide) (by decide)) _ (by decide) (by decide)) (by rw [ew2, uS_at, if_neg (by decide), uS_at, if_neg (by decide), uS_at, if_neg (by decide)]; exact h9) (by rw [w12]; omega) fw (by rw [ew2, uS_cell (by decide), uS_cell (by decide), uS_cell (by decide)]) (by rw [ew2, uS_cell (by decide), uS_cell (by decide), uS_cell (by decide)]) (by omega) ex
    have ei : itA (TR s) (nR s) (skR s) = vA (TR s) (nR s) (skR s) := if_neg (by rw [gD hd]; omega)
    refine k1 x ⟨by rw [vD hn, if_neg (by omega)], r.1, ?_, by rw [r.2.2.1, w12], ?_, r.2.2.2.2, hd.1⟩
    · rw [r.2.1, ew2, skR_o _ _ (by decide) (by decide), skR_o _ _ (by decide) (by decide), skR_8]; rfl
    · rw [r.2.2.2.1, ei, show encC (vA (TR s) (nR s) (skR s)) = 16 * vA (TR s) (nR s) (skR s) from if_pos (by omega), Int.zero_add]
  · rintro v t ⟨_, e⟩ hd u ⟨hn, eu⟩ w ⟨hk, ew⟩
    have q := s8 e
    rw [q.2.1, q.2.2.1, q.2.2.2.1] at hn eu
    have u12 : u 407 12 = s 407 12 := by rw [eu, uS_at, if_neg (by decide), uS_at, if_neg (by decide), q.2.2.2.2.2.2]
    rw [u12] at hk
    rw [q.1] at ew
    have v3 : vfA (TR s) (nR s) (skR s) (s 407 12) = 3 := by rw [vD hn, if_pos (by omega)]
    refine k0 w ⟨by rw [v3]; decide, ?_⟩
    rw [v3]
    refine z0 w 3 (by decide) (by rw [ew, uS_at, if_pos rfl]; rfl) ?_
    rw [ew, eu, e]
    exact fRv_u (fRv_u (fRv_u (fRv_u (fRv_0 s) _ (by decide)) _ (by decide)) _ (by decide)) _ (by decide)
  · rintro v t ⟨_, e⟩ hd u ⟨hn, e9, hf⟩
    have q := s8 e
    rw [q.1, tnc, q.2.1, q.2.2.1] at hd
    rw [q.2.1, q.2.2.1, q.2.2.2.1] at hn e9
    have vn : vfA (TR s) (nR s) (skR s) (s 407 12) = nuA (TR s) (nR s) (skR s) 0 99999 := if_neg (by rw [gD hd]; omega)
    refine k0 u ⟨by rw [vn]; exact hn, ?_⟩
    rw [vn]
    refine z0 u _ (by omega) e9 (fRv_t ?_ (fR_v hf))
    rw [e]; exact fRv_u (fRv_0 s) _ (by decide)
  · rintro v t ⟨_, e⟩ hd
    exact (s8 e).2.2.2.2.1
  · rintro v t ⟨_, e⟩ hd v2 u ⟨ev, eu⟩ hv
    have q := s8 e
    have eu2 := R8q e eu
    have q2 := s8 eu2
    exact ⟨q2.2.2.2.2.2.1, by rw [q.1]; omega, by rw [q2.2.2.2.2.2.2]; exact h12⟩
  · rintro v t ⟨_, e⟩ hd v2 u ⟨ev, eu⟩ hv w ⟨hk, ew⟩
    have q2 := s8 (R8q e eu)
    rw [ew]; exact TRq_o q2.2.2.2.2.1 _ (by decide) (by decide)
  · rintro v t ⟨_, e⟩ hd v2 u ⟨ev, eu⟩ hv w ⟨hk, ew⟩ x ex
    have q := s8 e
    have q2 := s8 (R8q e eu)
    have eu2 := R8q e eu
    rw [q.2.1, q.2.2.1, q.2.2.2.1] at ev
    have wb : 0 ≤ wnA (TR s) (nR s) (skR s) ∧ wnA (TR s) (nR s) (skR s) < 11 := by
      by_cases y : 0 ≤ wnA (TR s) (nR s) (skR s) ∧ wnA (TR s) (nR s) (skR s) < 11
      · exact y
      · unfold wvA at ev; rw [if_neg y] at ev; omega
    have e2 : v2 = wnA (TR s) (nR s) (skR s) := by rw [ev]; exact if_pos wb
    have lt := k_lt (show ¬ tkK (TR s) (nR s) (skR s) = -1 by rw [w_257 wb.1 rfl]; decide)
    refine ⟨?_, ?_, by decide, by omega⟩
    · rw [ex, uS_at, if_neg (by decide), ew, uS_at, if_neg (by decide), eu2, uS_at, if_neg (by decide)]; exact h11
    · have el : lnR x = lnR s := by
        rw [ex, lnR_u _ _ (by decide), ew, lnR_u _ _ (by decide), eu2, lnR_u _ _ (by decide)]
      rw [el]; omega
  · rintro v t ⟨_, e⟩ hd v2 u ⟨ev, eu⟩ hv w ⟨hk, ew⟩ x ex y ey
    have q := s8 e
    have q2 := s8 (R8q e eu)
    have eu2 := R8q e eu
    rw [q.1, tnc, q.2.1, q.2.2.1] at hd
    rw [q.2.1, q.2.2.1, q.2.2.2.1] at ev
    have wb : 0 ≤ wnA (TR s) (nR s) (skR s) ∧ wnA (TR s) (nR s) (skR s) < 11 := by
      by_cases y : 0 ≤ wnA (TR s) (nR s) (skR s) ∧ wnA (TR s) (nR s) (skR s) < 11
      · exact y
      · unfold wvA at ev; rw [if_neg y] at ev; omega
    have e2 : v2 = wnA (TR s) (nR s) (skR s) := by rw [ev]; exact if_pos wb
    have hl := (tkL hT).1 (w_257 wb.1 (rfl : wnA (TR s) (nR s) (skR s) = _))
    rw [q2.2.2.2.2.2.2] at hk ew
    have ex2 : x = uS (uS s 407 12 (s 407 12 + 1)) 407 8 (tkP (TR s) (nR s) (skR s) : Int) := by
      have wT : TR w = TR s ∧ nR w = nR s ∧ (w 407 8).toNat = skR s := by
        rw [ew]
        refine ⟨by rw [TR_u]; exact q2.2.2.1, by rw [nR_u _ _ (by decide)]; exact q2.2.1, by rw [uS_at, if_neg (by decide), q2.1, tnc]⟩
      rw [ex, wT.1, wT.2.1, wT.2.2, ← tkP_L hl, ew, eu2]
      funext c j
      unfold uS
      by_cases z8 : c = 407 ∧ j = 8
      · rw [if_pos z8, if_pos z8]
      · rw [if_neg z8, if_neg z8, if_neg z8]
    have x12 : x 407 12 = s 407 12 + 1 := by rw [ex2, uS_at, if_neg (by decide), uS_at, if_pos rfl]
    have fx : fRv s x := by rw [ex2]; exact fRv_u (fRv_u (fRv_0 s) _ (by decide)) _ (by decide)
    have n12 : nR (uS s 407 12 (s 407 12 + 1)) = nR s := nR_u s _ (by decide)
    have r := put_fin (s := s) (by rw [ex2]; exact TRq_8 (TRq_o h _ (by decide) (by decide)) (by rw [n12]; exact pb.2.1)) (by rw [ex2, uS_at, if_neg (by decide), uS_at, if_neg (by decide)]; exact h9) (by rw [x12]; omega) fx (by rw [ex2, uS_cell (by decide), uS_cell (by decide)]) (by rw [ex2, uS_cell (by decide), uS_cell (by decide)]) (by have := hl.1; omega) ey
    have ei : itA (TR s) (nR s) (skR s) = 100000 + wnA (TR s) (nR s) (skR s) := if_pos wb
    refine k1 y ⟨by rw [vW wb, if_neg (by omega)], r.1, ?_, by rw [r.2.2.1, x12], ?_, r.2.2.2.2, hl.1⟩
    · rw [r.2.1, ex2, skR_8, TR_u, n12]; rfl
    · rw [r.2.2.2.1, ei, e2]
      unfold encC
      rw [if_neg (by omega), if_pos (by omega), show 100000 + wnA (TR s) (nR s) (skR s) - 100000 = wnA (TR s) (nR s) (skR s) by omega]
  · rintro v t ⟨_, e⟩ hd v2 u ⟨ev, eu⟩ hv w ⟨hk, ew⟩
    have q := s8 e
    have q2 := s8 (R8q e eu)
    have eu2 := R8q e eu
    rw [q.2.1, q.2.2.1, q.2.2.2.1] at ev
    have wb : 0 ≤ wnA (TR s) (nR s) (skR s) ∧ wnA (TR s) (nR s) (skR s) < 11 := by
      by_cases y : 0 ≤ wnA (TR s) (nR s) (skR s) ∧ wnA (TR s) (nR s) (skR s) < 11
      · exact y
      · unfold wvA at ev; rw [if_neg y] at ev; omega
    rw [q2.2.2.2.2.2.2] at hk
    rw [q.1] at ew
    have v3 : vfA (TR s) (nR s) (skR s) (s 407 12) = 3 := by rw [vW wb, if_pos (by omega)]
    refine k0 w ⟨by rw [v3]; decide, ?_⟩
    rw [v3]
    refine z0 w 3 (by decide) (by rw [ew, uS_at, if_pos rfl]; rfl) ?_
    rw [ew, eu2]
    exact fRv_u (fRv_u (fRv_0 s) _ (by decide)) _ (by decide)
  · rintro v t ⟨_, e⟩ hd v2 u ⟨ev, eu⟩ hv
    have q := s8 e
    exact ⟨by decide, by rw [q.1]; omega⟩
  · rintro v t ⟨_, e⟩ hd v2 u ⟨ev, eu⟩ hv v3 w ⟨ev3, ew⟩
    have q := s8 e
    have q2 := s8 (R8q e eu)
    have eu2 := R8q e eu
    rw [q.1, tnc, q.2.1, q.2.2.1] at hd
    rw [q.2.1, q.2.2.1, q.2.2.2.1] at ev
    have wb : ¬ (0 ≤ wnA (TR s) (nR s) (skR s) ∧ wnA (TR s) (nR s) (skR s) < 11) := fun y => by
      unfold wvA at ev; rw [if_pos y] at ev; omega
    have vn : vfA (TR s) (nR s) (skR s) (s 407 12) = 0 := by
      unfold vfA; rw [gN hd, if_neg (fun y => by rcases y with y | y; exact wb y; omega)]
    rw [ev3]
    have ew2 : w = uS u 407 9 (fuA (skR s) 0) := by
      rw [ew, q.1]; unfold flR fuA; rw [if_pos q2.2.2.2.2.2.1]
    refine k0 w ⟨by rw [vn]; decide, ?_⟩
    rw [vn]
    refine z0 w 0 (by decide) (by rw [ew2, uS_at, if_pos rfl]) ?_
    rw [ew2, eu2]
    exact fRv_u (fRv_u (fRv_0 s) _ (by decide)) _ (by decide)
  · rintro v t ⟨_, e⟩ hd v2 u ⟨ev, eu⟩ hv v3 w ⟨ev3, ew⟩
    exact Or.inl ev3
