/-! facts of the shapes -/
def bdL : List Nat := [8, 18, 34, 54, 108, 118, 133, 143, 158, 168, 183, 193, 207, 217, 227, 237, 247, 257, 267, 277, 287, 297, 307, 317, 327, 337, 347, 357, 367, 377, 387, 397]
def isBd (a : Nat) : Prop := a ∈ bdL
theorem bd_k {a : Nat} (h : isBd a) : kS S0 a = 0 := (show ∀ a ∈ bdL, kS S0 a = 0 by decide +kernel) a h
theorem bd_r6 {a : Nat} (h : isBd a) : rS S0 a 6 = a + 1 + 1 := (show ∀ a ∈ bdL, rS S0 a 6 = a + 1 + 1 by decide +kernel) a h
theorem bd_a6 {a : Nat} (h : isBd a) : aS S0 (a + 1) 22 5 := (show ∀ a ∈ bdL, kS S0 (a + 1) = 22 ∧ nS S0 (a + 1) = 5 by decide +kernel) a h
theorem bd_r7 {a : Nat} (h : isBd a) : rS S0 a 7 = a + 2 + 1 := (show ∀ a ∈ bdL, rS S0 a 7 = a + 2 + 1 by decide +kernel) a h
theorem bd_a7 {a : Nat} (h : isBd a) : aS S0 (a + 2) 22 5 := (show ∀ a ∈ bdL, kS S0 (a + 2) = 22 ∧ nS S0 (a + 2) = 5 by decide +kernel) a h
theorem bd_r8 {a : Nat} (h : isBd a) : rS S0 a 8 = a + 3 + 1 := (show ∀ a ∈ bdL, rS S0 a 8 = a + 3 + 1 by decide +kernel) a h
theorem bd_a8 {a : Nat} (h : isBd a) : aS S0 (a + 3) 22 6 := (show ∀ a ∈ bdL, kS S0 (a + 3) = 22 ∧ nS S0 (a + 3) = 6 by decide +kernel) a h
theorem bd_r9 {a : Nat} (h : isBd a) : rS S0 a 9 = a + 4 + 1 := (show ∀ a ∈ bdL, rS S0 a 9 = a + 4 + 1 by decide +kernel) a h
theorem bd_a9 {a : Nat} (h : isBd a) : aS S0 (a + 4) 22 6 := (show ∀ a ∈ bdL, kS S0 (a + 4) = 22 ∧ nS S0 (a + 4) = 6 by decide +kernel) a h
theorem bd_r10 {a : Nat} (h : isBd a) : rS S0 a 10 = a + 5 + 1 := (show ∀ a ∈ bdL, rS S0 a 10 = a + 5 + 1 by decide +kernel) a h
theorem bd_a10 {a : Nat} (h : isBd a) : aS S0 (a + 5) 22 6 := (show ∀ a ∈ bdL, kS S0 (a + 5) = 22 ∧ nS S0 (a + 5) = 6 by decide +kernel) a h
theorem bd_r11 {a : Nat} (h : isBd a) : rS S0 a 11 = a + 6 + 1 := (show ∀ a ∈ bdL, rS S0 a 11 = a + 6 + 1 by decide +kernel) a h
theorem bd_a11 {a : Nat} (h : isBd a) : aS S0 (a + 6) 22 30 := (show ∀ a ∈ bdL, kS S0 (a + 6) = 22 ∧ nS S0 (a + 6) = 30 by decide +kernel) a h
theorem bd_r12 {a : Nat} (h : isBd a) : rS S0 a 12 = a + 7 + 1 := (show ∀ a ∈ bdL, rS S0 a 12 = a + 7 + 1 by decide +kernel) a h
theorem bd_a12 {a : Nat} (h : isBd a) : aS S0 (a + 7) 22 30 := (show ∀ a ∈ bdL, kS S0 (a + 7) = 22 ∧ nS S0 (a + 7) = 30 by decide +kernel) a h
theorem bd_r13 {a : Nat} (h : isBd a) : rS S0 a 13 = a + 8 + 1 := (show ∀ a ∈ bdL, rS S0 a 13 = a + 8 + 1 by decide +kernel) a h
theorem bd_a13 {a : Nat} (h : isBd a) : aS S0 (a + 8) 22 6 := (show ∀ a ∈ bdL, kS S0 (a + 8) = 22 ∧ nS S0 (a + 8) = 6 by decide +kernel) a h
theorem bd_r14 {a : Nat} (h : isBd a) : rS S0 a 14 = a + 9 + 1 := (show ∀ a ∈ bdL, rS S0 a 14 = a + 9 + 1 by decide +kernel) a h
theorem bd_a14 {a : Nat} (h : isBd a) : aS S0 (a + 9) 22 6 := (show ∀ a ∈ bdL, kS S0 (a + 9) = 22 ∧ nS S0 (a + 9) = 6 by decide +kernel) a h
def rlL : List Nat := [83, 87, 91, 95, 99, 103]
def isRl (a : Nat) : Prop := a ∈ rlL
theorem rl_k {a : Nat} (h : isRl a) : kS S0 a = 5 := (show ∀ a ∈ rlL, kS S0 a = 5 by decide +kernel) a h
theorem rl_r0 {a : Nat} (h : isRl a) : rS S0 a 0 = a + 1 + 1 := (show ∀ a ∈ rlL, rS S0 a 0 = a + 1 + 1 by decide +kernel) a h
theorem rl_a0 {a : Nat} (h : isRl a) : aS S0 (a + 1) 22 400 := (show ∀ a ∈ rlL, kS S0 (a + 1) = 22 ∧ nS S0 (a + 1) = 400 by decide +kernel) a h
theorem rl_r2 {a : Nat} (h : isRl a) : rS S0 a 2 = a + 2 + 1 := (show ∀ a ∈ rlL, rS S0 a 2 = a + 2 + 1 by decide +kernel) a h
theorem rl_a2 {a : Nat} (h : isRl a) : aS S0 (a + 2) 22 12 := (show ∀ a ∈ rlL, kS S0 (a + 2) = 22 ∧ nS S0 (a + 2) = 12 by decide +kernel) a h
theorem rl_r3 {a : Nat} (h : isRl a) : rS S0 a 3 = a + 3 + 1 := (show ∀ a ∈ rlL, rS S0 a 3 = a + 3 + 1 by decide +kernel) a h
theorem rl_a3 {a : Nat} (h : isRl a) : aS S0 (a + 3) 22 12 := (show ∀ a ∈ rlL, kS S0 (a + 3) = 22 ∧ nS S0 (a + 3) = 12 by decide +kernel) a h
def scL : List Nat := [7, 107, 132, 157, 182]
def isSc (a : Nat) : Prop := a ∈ scL
theorem sc_k {a : Nat} (h : isSc a) : kS S0 a = 7 := (show ∀ a ∈ scL, kS S0 a = 7 by decide +kernel) a h
theorem sc_r0 {a : Nat} (h : isSc a) : rS S0 a 0 = a + 1 + 1 := (show ∀ a ∈ scL, rS S0 a 0 = a + 1 + 1 by decide +kernel) a h
theorem sc_r1 {a : Nat} (h : isSc a) : rS S0 a 1 = a + 11 + 1 := (show ∀ a ∈ scL, rS S0 a 1 = a + 11 + 1 by decide +kernel) a h
theorem sc_r2 {a : Nat} (h : isSc a) : rS S0 a 2 = a + 21 + 1 := (show ∀ a ∈ scL, rS S0 a 2 = a + 21 + 1 by decide +kernel) a h
def ntL : List Nat := [28, 128, 153, 178, 203]
def isNt (a : Nat) : Prop := a ∈ ntL
theorem nt_k {a : Nat} (h : isNt a) : kS S0 a = 3 := (show ∀ a ∈ ntL, kS S0 a = 3 by decide +kernel) a h
theorem nt_r1 {a : Nat} (h : isNt a) : rS S0 a 1 = a + 1 + 1 := (show ∀ a ∈ ntL, rS S0 a 1 = a + 1 + 1 by decide +kernel) a h
theorem nt_a1 {a : Nat} (h : isNt a) : aS S0 (a + 1) 22 10 := (show ∀ a ∈ ntL, kS S0 (a + 1) = 22 ∧ nS S0 (a + 1) = 10 by decide +kernel) a h
theorem nt_r2 {a : Nat} (h : isNt a) : rS S0 a 2 = a + 2 + 1 := (show ∀ a ∈ ntL, rS S0 a 2 = a + 2 + 1 by decide +kernel) a h
theorem nt_a2 {a : Nat} (h : isNt a) : aS S0 (a + 2) 22 10 := (show ∀ a ∈ ntL, kS S0 (a + 2) = 22 ∧ nS S0 (a + 2) = 10 by decide +kernel) a h
theorem nt_r3 {a : Nat} (h : isNt a) : rS S0 a 3 = a + 3 + 1 := (show ∀ a ∈ ntL, rS S0 a 3 = a + 3 + 1 by decide +kernel) a h
theorem nt_a3 {a : Nat} (h : isNt a) : aS S0 (a + 3) 22 10 := (show ∀ a ∈ ntL, kS S0 (a + 3) = 22 ∧ nS S0 (a + 3) = 10 by decide +kernel) a h
theorem sc_o0 {a : Nat} (h : isSc a) : isBd (a + 1) := (show ∀ a ∈ scL, (a + 1) ∈ bdL by decide +kernel) a h
theorem sc_o1 {a : Nat} (h : isSc a) : isBd (a + 11) := (show ∀ a ∈ scL, (a + 11) ∈ bdL by decide +kernel) a h
theorem sc_o2 {a : Nat} (h : isSc a) : isNt (a + 21) := (show ∀ a ∈ scL, (a + 21) ∈ ntL by decide +kernel) a h
theorem af_19 : aS S0 19 22 5 := (show kS S0 19 = 22 ∧ nS S0 19 = 5 by decide +kernel)
theorem af_2 : aS S0 2 21 400 := (show kS S0 2 = 21 ∧ nS S0 2 = 400 by decide +kernel)
theorem af_20 : aS S0 20 22 5 := (show kS S0 20 = 22 ∧ nS S0 20 = 5 by decide +kernel)
theorem af_21 : aS S0 21 22 6 := (show kS S0 21 = 22 ∧ nS S0 21 = 6 by decide +kernel)
theorem af_22 : aS S0 22 22 6 := (show kS S0 22 = 22 ∧ nS S0 22 = 6 by decide +kernel)
theorem af_23 : aS S0 23 22 6 := (show kS S0 23 = 22 ∧ nS S0 23 = 6 by decide +kernel)
theorem af_24 : aS S0 24 22 30 := (show kS S0 24 = 22 ∧ nS S0 24 = 30 by decide +kernel)
theorem af_32 : aS S0 32 27 4 := (show kS S0 32 = 27 ∧ nS S0 32 = 4 by decide +kernel)
theorem af_33 : aS S0 33 25 20 := (show kS S0 33 = 25 ∧ nS S0 33 = 20 by decide +kernel)
theorem af_4 : aS S0 4 22 3 := (show kS S0 4 = 22 ∧ nS S0 4 = 3 by decide +kernel)
theorem af_408 : aS S0 408 20 400 := (show kS S0 408 = 20 ∧ nS S0 408 = 400 by decide +kernel)
theorem af_409 : aS S0 409 22 2400 := (show kS S0 409 = 22 ∧ nS S0 409 = 2400 by decide +kernel)
theorem af_410 : aS S0 410 22 7 := (show kS S0 410 = 22 ∧ nS S0 410 = 7 by decide +kernel)
theorem af_411 : aS S0 411 22 288 := (show kS S0 411 = 22 ∧ nS S0 411 = 288 by decide +kernel)
theorem af_412 : aS S0 412 22 6 := (show kS S0 412 = 22 ∧ nS S0 412 = 6 by decide +kernel)
theorem af_413 : aS S0 413 22 135 := (show kS S0 413 = 22 ∧ nS S0 413 = 135 by decide +kernel)
theorem af_414 : aS S0 414 22 400 := (show kS S0 414 = 22 ∧ nS S0 414 = 400 by decide +kernel)
theorem af_415 : aS S0 415 23 64 := (show kS S0 415 = 23 ∧ nS S0 415 = 64 by decide +kernel)
theorem af_416 : aS S0 416 23 11 := (show kS S0 416 = 23 ∧ nS S0 416 = 11 by decide +kernel)
theorem af_417 : aS S0 417 22 166 := (show kS S0 417 = 22 ∧ nS S0 417 = 166 by decide +kernel)
theorem af_418 : aS S0 418 22 30 := (show kS S0 418 = 22 ∧ nS S0 418 = 30 by decide +kernel)
theorem af_419 : aS S0 419 22 5 := (show kS S0 419 = 22 ∧ nS S0 419 = 5 by decide +kernel)
theorem af_420 : aS S0 420 22 5 := (show kS S0 420 = 22 ∧ nS S0 420 = 5 by decide +kernel)
theorem af_421 : aS S0 421 22 5 := (show kS S0 421 = 22 ∧ nS S0 421 = 5 by decide +kernel)
theorem af_422 : aS S0 422 22 5 := (show kS S0 422 = 22 ∧ nS S0 422 = 5 by decide +kernel)
theorem af_423 : aS S0 423 22 1440 := (show kS S0 423 = 22 ∧ nS S0 423 = 1440 by decide +kernel)
theorem af_424 : aS S0 424 22 120 := (show kS S0 424 = 22 ∧ nS S0 424 = 120 by decide +kernel)
theorem af_425 : aS S0 425 22 2 := (show kS S0 425 = 22 ∧ nS S0 425 = 2 by decide +kernel)
theorem af_426 : aS S0 426 22 6 := (show kS S0 426 = 22 ∧ nS S0 426 = 6 by decide +kernel)
theorem af_427 : aS S0 427 22 6 := (show kS S0 427 = 22 ∧ nS S0 427 = 6 by decide +kernel)
theorem af_428 : aS S0 428 22 6 := (show kS S0 428 = 22 ∧ nS S0 428 = 6 by decide +kernel)
theorem af_429 : aS S0 429 22 72 := (show kS S0 429 = 22 ∧ nS S0 429 = 72 by decide +kernel)
theorem af_430 : aS S0 430 22 4 := (show kS S0 430 = 22 ∧ nS S0 430 = 4 by decide +kernel)
theorem af_431 : aS S0 431 22 4 := (show kS S0 431 = 22 ∧ nS S0 431 = 4 by decide +kernel)
theorem af_432 : aS S0 432 22 4 := (show kS S0 432 = 22 ∧ nS S0 432 = 4 by decide +kernel)
theorem af_433 : aS S0 433 22 32 := (show kS S0 433 = 22 ∧ nS S0 433 = 32 by decide +kernel)
theorem af_434 : aS S0 434 24 7 := (show kS S0 434 = 24 ∧ nS S0 434 = 7 by decide +kernel)
theorem af_435 : aS S0 435 22 210 := (show kS S0 435 = 22 ∧ nS S0 435 = 210 by decide +kernel)
theorem af_436 : aS S0 436 22 664 := (show kS S0 436 = 22 ∧ nS S0 436 = 664 by decide +kernel)
theorem af_437 : aS S0 437 22 4 := (show kS S0 437 = 22 ∧ nS S0 437 = 4 by decide +kernel)
theorem af_438 : aS S0 438 22 4 := (show kS S0 438 = 22 ∧ nS S0 438 = 4 by decide +kernel)
theorem af_439 : aS S0 439 24 4 := (show kS S0 439 = 24 ∧ nS S0 439 = 4 by decide +kernel)
theorem af_45 : aS S0 45 22 5 := (show kS S0 45 = 22 ∧ nS S0 45 = 5 by decide +kernel)
theorem af_46 : aS S0 46 22 5 := (show kS S0 46 = 22 ∧ nS S0 46 = 5 by decide +kernel)
theorem af_47 : aS S0 47 22 5 := (show kS S0 47 = 22 ∧ nS S0 47 = 5 by decide +kernel)
theorem af_48 : aS S0 48 22 5 := (show kS S0 48 = 22 ∧ nS S0 48 = 5 by decide +kernel)
theorem af_49 : aS S0 49 22 5 := (show kS S0 49 = 22 ∧ nS S0 49 = 5 by decide +kernel)
theorem af_51 : aS S0 51 23 11 := (show kS S0 51 = 23 ∧ nS S0 51 = 11 by decide +kernel)
theorem af_52 : aS S0 52 23 60 := (show kS S0 52 = 23 ∧ nS S0 52 = 60 by decide +kernel)
theorem af_57 : aS S0 57 22 6 := (show kS S0 57 = 22 ∧ nS S0 57 = 6 by decide +kernel)
theorem af_58 : aS S0 58 22 6 := (show kS S0 58 = 22 ∧ nS S0 58 = 6 by decide +kernel)
theorem af_59 : aS S0 59 22 6 := (show kS S0 59 = 22 ∧ nS S0 59 = 6 by decide +kernel)
theorem af_6 : aS S0 6 26 6 := (show kS S0 6 = 26 ∧ nS S0 6 = 6 by decide +kernel)
theorem af_64 : aS S0 64 22 4 := (show kS S0 64 = 22 ∧ nS S0 64 = 4 by decide +kernel)
theorem af_65 : aS S0 65 22 4 := (show kS S0 65 = 22 ∧ nS S0 65 = 4 by decide +kernel)
theorem af_66 : aS S0 66 22 16 := (show kS S0 66 = 22 ∧ nS S0 66 = 16 by decide +kernel)
theorem af_67 : aS S0 67 22 16 := (show kS S0 67 = 22 ∧ nS S0 67 = 16 by decide +kernel)
theorem af_68 : aS S0 68 28 7 := (show kS S0 68 = 28 ∧ nS S0 68 = 7 by decide +kernel)
theorem af_77 : aS S0 77 28 2 := (show kS S0 77 = 28 ∧ nS S0 77 = 2 by decide +kernel)
theorem af_80 : aS S0 80 22 2 := (show kS S0 80 = 22 ∧ nS S0 80 = 2 by decide +kernel)
theorem af_81 : aS S0 81 22 6 := (show kS S0 81 = 22 ∧ nS S0 81 = 6 by decide +kernel)
theorem af_82 : aS S0 82 22 6 := (show kS S0 82 = 22 ∧ nS S0 82 = 6 by decide +kernel)
theorem kf_0 : kS S0 0 = 11 := by decide +kernel
theorem kf_1 : kS S0 1 = 8 := by decide +kernel
theorem kf_18 : kS S0 18 = 0 := by decide +kernel
theorem kf_28 : kS S0 28 = 3 := by decide +kernel
theorem kf_3 : kS S0 3 = 1 := by decide +kernel
theorem kf_407 : kS S0 407 = 12 := by decide +kernel
theorem kf_44 : kS S0 44 = 4 := by decide +kernel
theorem kf_5 : kS S0 5 = 6 := by decide +kernel
theorem kf_50 : kS S0 50 = 10 := by decide +kernel
theorem kf_53 : kS S0 53 = 9 := by decide +kernel
theorem kf_54 : kS S0 54 = 0 := by decide +kernel
theorem kf_7 : kS S0 7 = 7 := by decide +kernel
theorem kf_76 : kS S0 76 = 2 := by decide +kernel
theorem kf_8 : kS S0 8 = 0 := by decide +kernel
theorem rf_0_0 : rS S0 0 0 = 1 + 1 := by decide +kernel
theorem rf_0_1 : rS S0 0 1 = 3 + 1 := by decide +kernel
theorem rf_0_10 : rS S0 0 10 = 44 + 1 := by decide +kernel
theorem rf_0_11 : rS S0 0 11 = 50 + 1 := by decide +kernel
theorem rf_0_12 : rS S0 0 12 = 53 + 1 := by decide +kernel
theorem rf_0_13 : rS S0 0 13 = 76 + 1 := by decide +kernel
theorem rf_0_2 : rS S0 0 2 = 5 + 1 := by decide +kernel
theorem rf_0_3 : rS S0 0 3 = 6 + 1 := by decide +kernel
theorem rf_0_5 : rS S0 0 5 = 7 + 1 := by decide +kernel
theorem rf_0_6 : rS S0 0 6 = 32 + 1 := by decide +kernel
theorem rf_0_7 : rS S0 0 7 = 33 + 1 := by decide +kernel
theorem rf_0_9 : rS S0 0 9 = 34 + 1 := by decide +kernel
theorem rf_1_0 : rS S0 1 0 = 2 + 1 := by decide +kernel
theorem rf_18_10 : rS S0 18 10 = 23 + 1 := by decide +kernel
theorem rf_18_11 : rS S0 18 11 = 24 + 1 := by decide +kernel
theorem rf_18_6 : rS S0 18 6 = 19 + 1 := by decide +kernel
theorem rf_18_7 : rS S0 18 7 = 20 + 1 := by decide +kernel
theorem rf_18_8 : rS S0 18 8 = 21 + 1 := by decide +kernel
theorem rf_18_9 : rS S0 18 9 = 22 + 1 := by decide +kernel
theorem rf_3_0 : rS S0 3 0 = 1 + 1 := by decide +kernel
theorem rf_3_1 : rS S0 3 1 = 4 + 1 := by decide +kernel
theorem rf_407_0 : rS S0 407 0 = 408 + 1 := by decide +kernel
theorem rf_407_15 : rS S0 407 15 = 414 + 1 := by decide +kernel
theorem rf_407_17 : rS S0 407 17 = 415 + 1 := by decide +kernel
theorem rf_407_19 : rS S0 407 19 = 416 + 1 := by decide +kernel
theorem rf_407_20 : rS S0 407 20 = 417 + 1 := by decide +kernel
theorem rf_407_23 : rS S0 407 23 = 418 + 1 := by decide +kernel
theorem rf_407_24 : rS S0 407 24 = 419 + 1 := by decide +kernel
theorem rf_407_25 : rS S0 407 25 = 420 + 1 := by decide +kernel
theorem rf_407_26 : rS S0 407 26 = 421 + 1 := by decide +kernel
theorem rf_407_27 : rS S0 407 27 = 422 + 1 := by decide +kernel
theorem rf_407_3 : rS S0 407 3 = 409 + 1 := by decide +kernel
theorem rf_407_36 : rS S0 407 36 = 423 + 1 := by decide +kernel
theorem rf_407_38 : rS S0 407 38 = 424 + 1 := by decide +kernel
theorem rf_407_39 : rS S0 407 39 = 425 + 1 := by decide +kernel
theorem rf_407_4 : rS S0 407 4 = 410 + 1 := by decide +kernel
theorem rf_407_40 : rS S0 407 40 = 426 + 1 := by decide +kernel
theorem rf_407_41 : rS S0 407 41 = 427 + 1 := by decide +kernel
theorem rf_407_42 : rS S0 407 42 = 428 + 1 := by decide +kernel
theorem rf_407_43 : rS S0 407 43 = 429 + 1 := by decide +kernel
theorem rf_407_44 : rS S0 407 44 = 430 + 1 := by decide +kernel
theorem rf_407_45 : rS S0 407 45 = 431 + 1 := by decide +kernel
theorem rf_407_46 : rS S0 407 46 = 432 + 1 := by decide +kernel
theorem rf_407_5 : rS S0 407 5 = 411 + 1 := by decide +kernel
theorem rf_407_50 : rS S0 407 50 = 433 + 1 := by decide +kernel
theorem rf_407_51 : rS S0 407 51 = 434 + 1 := by decide +kernel
theorem rf_407_52 : rS S0 407 52 = 435 + 1 := by decide +kernel
theorem rf_407_54 : rS S0 407 54 = 436 + 1 := by decide +kernel
theorem rf_407_55 : rS S0 407 55 = 437 + 1 := by decide +kernel
theorem rf_407_56 : rS S0 407 56 = 438 + 1 := by decide +kernel
theorem rf_407_57 : rS S0 407 57 = 439 + 1 := by decide +kernel
theorem rf_407_6 : rS S0 407 6 = 412 + 1 := by decide +kernel
theorem rf_407_7 : rS S0 407 7 = 413 + 1 := by decide +kernel
theorem rf_44_0 : rS S0 44 0 = 45 + 1 := by decide +kernel
theorem rf_44_1 : rS S0 44 1 = 46 + 1 := by decide +kernel
theorem rf_44_11 : rS S0 44 11 = 49 + 1 := by decide +kernel
theorem rf_44_2 : rS S0 44 2 = 47 + 1 := by decide +kernel
theorem rf_44_3 : rS S0 44 3 = 48 + 1 := by decide +kernel
theorem rf_5_0 : rS S0 5 0 = 1 + 1 := by decide +kernel
theorem rf_50_0 : rS S0 50 0 = 44 + 1 := by decide +kernel
theorem rf_50_1 : rS S0 50 1 = 51 + 1 := by decide +kernel
theorem rf_50_2 : rS S0 50 2 = 52 + 1 := by decide +kernel
theorem rf_53_0 : rS S0 53 0 = 44 + 1 := by decide +kernel
theorem rf_53_1 : rS S0 53 1 = 50 + 1 := by decide +kernel
theorem rf_53_10 : rS S0 53 10 = 66 + 1 := by decide +kernel
theorem rf_53_11 : rS S0 53 11 = 67 + 1 := by decide +kernel
theorem rf_53_12 : rS S0 53 12 = 68 + 1 := by decide +kernel
theorem rf_53_2 : rS S0 53 2 = 54 + 1 := by decide +kernel
theorem rf_53_5 : rS S0 53 5 = 64 + 1 := by decide +kernel
theorem rf_53_6 : rS S0 53 6 = 65 + 1 := by decide +kernel
theorem rf_54_10 : rS S0 54 10 = 59 + 1 := by decide +kernel
theorem rf_54_8 : rS S0 54 8 = 57 + 1 := by decide +kernel
theorem rf_54_9 : rS S0 54 9 = 58 + 1 := by decide +kernel
theorem rf_7_0 : rS S0 7 0 = 8 + 1 := by decide +kernel
theorem rf_7_1 : rS S0 7 1 = 18 + 1 := by decide +kernel
theorem rf_7_2 : rS S0 7 2 = 28 + 1 := by decide +kernel
theorem rf_76_0 : rS S0 76 0 = 77 + 1 := by decide +kernel
theorem rf_76_1 : rS S0 76 1 = 80 + 1 := by decide +kernel
theorem rf_76_2 : rS S0 76 2 = 81 + 1 := by decide +kernel
theorem rf_76_3 : rS S0 76 3 = 82 + 1 := by decide +kernel
theorem Sp_E {X : (Nat → Int) × Nat} {d mj : Nat} {as : List mV} {s : mSt} {st : List mV} {K : List mV → mSt → Prop} {α : Type} {f : α → mV} (h : Sp X d mj as s (fun r s' => ∃ v : α, r = some (f v) ∧ K (f v :: st) s')) : Sp X d mj as s (fun r s' => pushR r st fun st' => K st' s') := h.imp fun r s' ⟨v, e, z⟩ => by subst e; exact z
theorem Sp_V {X : (Nat → Int) × Nat} {d mj : Nat} {as : List mV} {s : mSt} {st : List mV} {K : List mV → mSt → Prop} (h : Sp X d mj as s (fun r s' => r = none ∧ K st s')) : Sp X d mj as s (fun r s' => pushR r st fun st' => K st' s') := h.imp fun r s' ⟨e, z⟩ => by subst e; exact z
theorem Sp_B {X : (Nat → Int) × Nat} {d mj : Nat} {as : List mV} {s : mSt} {st : List mV} {K : List mV → mSt → Prop} (h : Sp X d mj as s (fun r s' => r = some (mR 54) ∧ K (mR 54 :: st) s')) : Sp X d mj as s (fun r s' => pushR r st fun st' => K st' s') := h.imp fun r s' ⟨e, z⟩ => by subst e; exact z
