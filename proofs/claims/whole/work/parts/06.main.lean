/-! the shapes behind the two constructors; runs there -/
def S0_0 : List mSh := [(11, 14, [2, 4, 6, 7, 0, 8, 33, 34, 0, 35, 45, 51, 54, 77]), (8, 7, [3, 0, 0, 0, 0, 0, 0]), (21, 400, []), (1, 2, [2, 5]), (22, 3, []), (6, 2, [2, 0]), (26, 6, []), (7, 6, [9, 19, 29, 0, 0, 0]), (0, 15, [0, 0, 0, 0, 0, 0, 10, 11, 12, 13, 14, 15, 16, 17, 18]), (22, 5, []), (22, 5, []), (22, 6, []), (22, 6, []), (22, 6, []), (22, 30, []), (22, 30, []), (22, 6, []), (22, 6, []), (0, 15, [0, 0, 0, 0, 0, 0, 20, 21, 22, 23, 24, 25, 26, 27, 28]), (22, 5, []), (22, 5, []), (22, 6, []), (22, 6, []), (22, 6, []), (22, 30, []), (22, 30, []), (22, 6, []), (22, 6, []), (3, 4, [0, 30, 31, 32]), (22, 10, []), (22, 10, []), (22, 10, []), (27, 4, []), (25, 20, []), (0, 15, [0, 0, 0, 0, 0, 0, 36, 37, 38, 39, 40, 41, 42, 43, 44]), (22, 5, []), (22, 5, []), (22, 6, []), (22, 6, []), (22, 6, []), (22, 30, []), (22, 30, []), (22, 6, []), (22, 6, []), (4, 13, [46, 47, 48, 49, 0, 0, 0, 0, 0, 0, 0, 50, 0]), (22, 5, []), (22, 5, []), (22, 5, []), (22, 5, []), (22, 5, []), (10, 3, [45, 52, 53]), (23, 11, []), (23, 60, []), (9, 13, [45, 51, 55, 0, 0, 65, 66, 0, 0, 0, 67, 68, 69]), (0, 15, [0, 0, 0, 0, 0, 0, 56, 57, 58, 59, 60, 61, 62, 63, 64]), (22, 5, []), (22, 5, []), (22, 6, []), (22, 6, []), (22, 6, [])]
def S0_1 : List mSh := [(22, 30, []), (22, 30, []), (22, 6, []), (22, 6, []), (22, 4, []), (22, 4, []), (22, 16, []), (22, 16, []), (28, 7, []), (22, 30, []), (22, 30, []), (22, 30, []), (22, 30, []), (22, 30, []), (22, 30, []), (22, 30, []), (2, 4, [78, 81, 82, 83]), (28, 2, []), (22, 30, []), (22, 30, []), (22, 2, []), (22, 6, []), (22, 6, []), (5, 5, [85, 0, 86, 87, 0]), (22, 400, []), (22, 12, []), (22, 12, []), (5, 5, [89, 0, 90, 91, 0]), (22, 400, []), (22, 12, []), (22, 12, []), (5, 5, [93, 0, 94, 95, 0]), (22, 400, []), (22, 12, []), (22, 12, []), (5, 5, [97, 0, 98, 99, 0]), (22, 400, []), (22, 12, []), (22, 12, []), (5, 5, [101, 0, 102, 103, 0]), (22, 400, []), (22, 12, []), (22, 12, []), (5, 5, [105, 0, 106, 107, 0]), (22, 400, []), (22, 12, []), (22, 12, []), (7, 6, [109, 119, 129, 0, 0, 0]), (0, 15, [0, 0, 0, 0, 0, 0, 110, 111, 112, 113, 114, 115, 116, 117, 118]), (22, 5, []), (22, 5, []), (22, 6, []), (22, 6, []), (22, 6, []), (22, 30, []), (22, 30, []), (22, 6, []), (22, 6, []), (0, 15, [0, 0, 0, 0, 0, 0, 120, 121, 122, 123, 124, 125, 126, 127, 128]), (22, 5, [])]
def S0_2 : List mSh := [(22, 5, []), (22, 6, []), (22, 6, []), (22, 6, []), (22, 30, []), (22, 30, []), (22, 6, []), (22, 6, []), (3, 4, [0, 130, 131, 132]), (22, 10, []), (22, 10, []), (22, 10, []), (7, 6, [134, 144, 154, 0, 0, 0]), (0, 15, [0, 0, 0, 0, 0, 0, 135, 136, 137, 138, 139, 140, 141, 142, 143]), (22, 5, []), (22, 5, []), (22, 6, []), (22, 6, []), (22, 6, []), (22, 30, []), (22, 30, []), (22, 6, []), (22, 6, []), (0, 15, [0, 0, 0, 0, 0, 0, 145, 146, 147, 148, 149, 150, 151, 152, 153]), (22, 5, []), (22, 5, []), (22, 6, []), (22, 6, []), (22, 6, []), (22, 30, []), (22, 30, []), (22, 6, []), (22, 6, []), (3, 4, [0, 155, 156, 157]), (22, 10, []), (22, 10, []), (22, 10, []), (7, 6, [159, 169, 179, 0, 0, 0]), (0, 15, [0, 0, 0, 0, 0, 0, 160, 161, 162, 163, 164, 165, 166, 167, 168]), (22, 5, []), (22, 5, []), (22, 6, []), (22, 6, []), (22, 6, []), (22, 30, []), (22, 30, []), (22, 6, []), (22, 6, []), (0, 15, [0, 0, 0, 0, 0, 0, 170, 171, 172, 173, 174, 175, 176, 177, 178]), (22, 5, []), (22, 5, []), (22, 6, []), (22, 6, []), (22, 6, []), (22, 30, []), (22, 30, []), (22, 6, []), (22, 6, []), (3, 4, [0, 180, 181, 182]), (22, 10, [])]
def S0_3 : List mSh := [(22, 10, []), (22, 10, []), (7, 6, [184, 194, 204, 0, 0, 0]), (0, 15, [0, 0, 0, 0, 0, 0, 185, 186, 187, 188, 189, 190, 191, 192, 193]), (22, 5, []), (22, 5, []), (22, 6, []), (22, 6, []), (22, 6, []), (22, 30, []), (22, 30, []), (22, 6, []), (22, 6, []), (0, 15, [0, 0, 0, 0, 0, 0, 195, 196, 197, 198, 199, 200, 201, 202, 203]), (22, 5, []), (22, 5, []), (22, 6, []), (22, 6, []), (22, 6, []), (22, 30, []), (22, 30, []), (22, 6, []), (22, 6, []), (3, 4, [0, 205, 206, 207]), (22, 10, []), (22, 10, []), (22, 10, []), (0, 15, [0, 0, 0, 0, 0, 0, 209, 210, 211, 212, 213, 214, 215, 216, 217]), (22, 5, []), (22, 5, []), (22, 6, []), (22, 6, []), (22, 6, []), (22, 30, []), (22, 30, []), (22, 6, []), (22, 6, []), (0, 15, [0, 0, 0, 0, 0, 0, 219, 220, 221, 222, 223, 224, 225, 226, 227]), (22, 5, []), (22, 5, []), (22, 6, []), (22, 6, []), (22, 6, []), (22, 30, []), (22, 30, []), (22, 6, []), (22, 6, []), (0, 15, [0, 0, 0, 0, 0, 0, 229, 230, 231, 232, 233, 234, 235, 236, 237]), (22, 5, []), (22, 5, []), (22, 6, []), (22, 6, []), (22, 6, []), (22, 30, []), (22, 30, []), (22, 6, []), (22, 6, []), (0, 15, [0, 0, 0, 0, 0, 0, 239, 240, 241, 242, 243, 244, 245, 246, 247]), (22, 5, []), (22, 5, [])]
def S0_4 : List mSh := [(22, 6, []), (22, 6, []), (22, 6, []), (22, 30, []), (22, 30, []), (22, 6, []), (22, 6, []), (0, 15, [0, 0, 0, 0, 0, 0, 249, 250, 251, 252, 253, 254, 255, 256, 257]), (22, 5, []), (22, 5, []), (22, 6, []), (22, 6, []), (22, 6, []), (22, 30, []), (22, 30, []), (22, 6, []), (22, 6, []), (0, 15, [0, 0, 0, 0, 0, 0, 259, 260, 261, 262, 263, 264, 265, 266, 267]), (22, 5, []), (22, 5, []), (22, 6, []), (22, 6, []), (22, 6, []), (22, 30, []), (22, 30, []), (22, 6, []), (22, 6, []), (0, 15, [0, 0, 0, 0, 0, 0, 269, 270, 271, 272, 273, 274, 275, 276, 277]), (22, 5, []), (22, 5, []), (22, 6, []), (22, 6, []), (22, 6, []), (22, 30, []), (22, 30, []), (22, 6, []), (22, 6, []), (0, 15, [0, 0, 0, 0, 0, 0, 279, 280, 281, 282, 283, 284, 285, 286, 287]), (22, 5, []), (22, 5, []), (22, 6, []), (22, 6, []), (22, 6, []), (22, 30, []), (22, 30, []), (22, 6, []), (22, 6, []), (0, 15, [0, 0, 0, 0, 0, 0, 289, 290, 291, 292, 293, 294, 295, 296, 297]), (22, 5, []), (22, 5, []), (22, 6, []), (22, 6, []), (22, 6, []), (22, 30, []), (22, 30, []), (22, 6, []), (22, 6, []), (0, 15, [0, 0, 0, 0, 0, 0, 299, 300, 301, 302, 303, 304, 305, 306, 307]), (22, 5, []), (22, 5, [])]
def S0_5 : List mSh := [(22, 6, []), (22, 6, []), (22, 6, []), (22, 30, []), (22, 30, []), (22, 6, []), (22, 6, []), (0, 15, [0, 0, 0, 0, 0, 0, 309, 310, 311, 312, 313, 314, 315, 316, 317]), (22, 5, []), (22, 5, []), (22, 6, []), (22, 6, []), (22, 6, []), (22, 30, []), (22, 30, []), (22, 6, []), (22, 6, []), (0, 15, [0, 0, 0, 0, 0, 0, 319, 320, 321, 322, 323, 324, 325, 326, 327]), (22, 5, []), (22, 5, []), (22, 6, []), (22, 6, []), (22, 6, []), (22, 30, []), (22, 30, []), (22, 6, []), (22, 6, []), (0, 15, [0, 0, 0, 0, 0, 0, 329, 330, 331, 332, 333, 334, 335, 336, 337]), (22, 5, []), (22, 5, []), (22, 6, []), (22, 6, []), (22, 6, []), (22, 30, []), (22, 30, []), (22, 6, []), (22, 6, []), (0, 15, [0, 0, 0, 0, 0, 0, 339, 340, 341, 342, 343, 344, 345, 346, 347]), (22, 5, []), (22, 5, []), (22, 6, []), (22, 6, []), (22, 6, []), (22, 30, []), (22, 30, []), (22, 6, []), (22, 6, []), (0, 15, [0, 0, 0, 0, 0, 0, 349, 350, 351, 352, 353, 354, 355, 356, 357]), (22, 5, []), (22, 5, []), (22, 6, []), (22, 6, []), (22, 6, []), (22, 30, []), (22, 30, []), (22, 6, []), (22, 6, []), (0, 15, [0, 0, 0, 0, 0, 0, 359, 360, 361, 362, 363, 364, 365, 366, 367]), (22, 5, []), (22, 5, [])]
def S0_6 : List mSh := [(22, 6, []), (22, 6, []), (22, 6, []), (22, 30, []), (22, 30, []), (22, 6, []), (22, 6, []), (0, 15, [0, 0, 0, 0, 0, 0, 369, 370, 371, 372, 373, 374, 375, 376, 377]), (22, 5, []), (22, 5, []), (22, 6, []), (22, 6, []), (22, 6, []), (22, 30, []), (22, 30, []), (22, 6, []), (22, 6, []), (0, 15, [0, 0, 0, 0, 0, 0, 379, 380, 381, 382, 383, 384, 385, 386, 387]), (22, 5, []), (22, 5, []), (22, 6, []), (22, 6, []), (22, 6, []), (22, 30, []), (22, 30, []), (22, 6, []), (22, 6, []), (0, 15, [0, 0, 0, 0, 0, 0, 389, 390, 391, 392, 393, 394, 395, 396, 397]), (22, 5, []), (22, 5, []), (22, 6, []), (22, 6, []), (22, 6, []), (22, 30, []), (22, 30, []), (22, 6, []), (22, 6, []), (0, 15, [0, 0, 0, 0, 0, 0, 399, 400, 401, 402, 403, 404, 405, 406, 407]), (22, 5, []), (22, 5, []), (22, 6, []), (22, 6, []), (22, 6, []), (22, 30, []), (22, 30, []), (22, 6, []), (22, 6, []), (12, 58, [409, 0, 0, 410, 411, 412, 413, 414, 0, 0, 0, 0, 0, 0, 0, 415, 0, 416, 0, 417, 418, 0, 0, 419, 420, 421, 422, 423, 0, 0, 0, 0, 0, 0, 0, 0, 424, 0, 425, 426, 427, 428, 429, 430, 431, 432, 433, 0, 0, 0, 434, 435, 436, 0, 437, 438, 439, 440]), (20, 400, []), (22, 2400, []), (22, 7, []), (22, 288, []), (22, 6, []), (22, 135, []), (22, 400, []), (23, 64, []), (23, 11, []), (22, 166, []), (22, 30, []), (22, 5, [])]
def S0_7 : List mSh := [(22, 5, []), (22, 5, []), (22, 5, []), (22, 1440, []), (22, 120, []), (22, 2, []), (22, 6, []), (22, 6, []), (22, 6, []), (22, 72, []), (22, 4, []), (22, 4, []), (22, 4, []), (22, 32, []), (24, 7, []), (22, 210, []), (22, 664, []), (22, 4, []), (22, 4, []), (24, 4, [])]
def S0 : List mSh := S0_0 ++ S0_1 ++ S0_2 ++ S0_3 ++ S0_4 ++ S0_5 ++ S0_6 ++ S0_7
theorem wp_ex {X : (Nat → Int) × Nat} : ∀ (n : Nat) {d bud mi pc : Nat} {ls : mLo} {st : List mV} {S : List mSh} {s : mSt} {Q : mRt} {Q' : Nat → mRt}, (∀ r S s, Q r S s → ∃ k, Q' k r S s) → wp X n d bud mi pc ls st S s Q → ∃ k, wp X n d bud mi pc ls st S s (Q' k) := by
  intro n
  induction n with
  | zero => intro d bud mi pc ls st S s Q Q' hq h; exact False.elim h
  | succ n ih =>
    intro d bud mi pc ls st S s Q Q' hq h
    unfold wp at h ⊢
    cases hf : mFetch mi pc with
    | none => rw [hf] at h; exact False.elim h
    | some i =>
      rw [hf] at h
      dsimp only at h ⊢
      refine ex1_ex (go' := fun k bud pc ls st S s => wp X n d bud mi pc ls st S s (Q' k)) (call' := fun _ mj as S s K => dC d fun d' => (mArgs as).length ≤ mML mj ∧ wp X n d' (mCe mj) mj 0 (mLoc as (mML mj)) [] S s K) (ret' := Q') (fun b p l t S s z => ih hq z) (fun m a S s K K' hk z => ?_) hq h
      cases d with
      | zero => exact False.elim z
      | succ d => exact (ih hk z.2).imp fun _ y => ⟨z.1, y⟩
abbrev mQ : Type := Option mV → mSt → Prop
def QQ (Q : mQ) : mRt := fun r S' s' => S' = S0 ∧ Q r s'
/-- from here the method comes to its end, and Q holds there -/
def Wp (X : (Nat → Int) × Nat) (d mi pc : Nat) (ls : mLo) (st : List mV) (s : mSt) (Q : mQ) : Prop := ∃ n, wp X n d 0 mi pc ls st S0 s (QQ Q)
/-- a call of the method comes to its end, and Q holds there -/
def Sp (X : (Nat → Int) × Nat) (d mj : Nat) (as : List mV) (s : mSt) (Q : mQ) : Prop := (mArgs as).length ≤ mML mj ∧ ∃ n, wp X n d (mCe mj) mj 0 (mLoc as (mML mj)) [] S0 s (QQ Q)
theorem Wp.imp {X : (Nat → Int) × Nat} {d mi pc : Nat} {ls : mLo} {st : List mV} {s : mSt} {Q Q' : mQ} (h : Wp X d mi pc ls st s Q) (hq : ∀ r s, Q r s → Q' r s) : Wp X d mi pc ls st s Q' := Exists.imp (fun _ z => wp_mono (Nat.le_refl _) (fun r S s q => ⟨q.1, hq r s q.2⟩) z) h
theorem Sp.imp {X : (Nat → Int) × Nat} {d mj : Nat} {as : List mV} {s : mSt} {Q Q' : mQ} (h : Sp X d mj as s Q) (hq : ∀ r s, Q r s → Q' r s) : Sp X d mj as s Q' := ⟨h.1, Exists.imp (fun _ z => wp_mono (Nat.le_refl _) (fun r S s q => ⟨q.1, hq r s q.2⟩) z) h.2⟩
def sfI (i : mE) : Bool := match i.1 with
  | .putfield _ => i.2.2.2.2.1 != 2
  | _ => true
abbrev mGo (X : (Nat → Int) × Nat) (d mi : Nat) (Q : mQ) : Nat → Nat → mLo → List mV → List mSh → mSt → Prop := fun _ p l t _ s => Wp X d mi p l t s Q
abbrev mCa (X : (Nat → Int) × Nat) (d : Nat) : Nat → List mV → List mSh → mSt → mRt → Prop := fun mj as _ s K => ∃ d', d = d' + 1 ∧ Sp X d' mj as s (fun r s' => K r S0 s')
theorem ml_g {X : (Nat → Int) × Nat} {d mi p : Nat} {l : mLo} {t : List mV} {s : mSt} {Q : mQ} : Wp X d mi p l t s Q → ∃ n, wp X n d 0 mi p l t S0 s (QQ Q) := id
theorem ml_z {X : (Nat → Int) × Nat} {d mi p b : Nat} {l : mLo} {t : List mV} {s : mSt} {Q : mQ} : Wp X d mi p l t s Q → ∃ n, wp X n d (0 - b) mi p l t S0 s (QQ Q) := by rw [Nat.zero_sub]; exact id
theorem ml_c {X : (Nat → Int) × Nat} {d mi p b mj : Nat} {as : List mV} {l : mLo} {st : List mV} {s : mSt} {Q : mQ} : (∃ d', d = d' + 1 ∧ Sp X d' mj as s (fun r s' => pushR r st fun st' => Wp X d mi p l st' s' Q)) →
    ∃ n, (dC d fun d' => (mArgs as).length ≤ mML mj ∧ wp X n d' (mCe mj) mj 0 (mLoc as (mML mj)) [] S0 s (fun r S' s' => pushR r st fun st' => wp X n d (0 - b) mi p l st' S' s' (QQ Q))) := by
  rintro ⟨d', rfl, hle, n1, h⟩
  obtain ⟨k, hk⟩ := wp_ex n1 (Q' := fun k r S' s' => pushR r st fun st' => wp X k (d' + 1) (0 - b) mi p l st' S' s' (QQ Q)) (fun r S' s' z => by
    obtain ⟨rfl, z⟩ := z
    exact pushR_ex (fun x q => ml_z q) z) h
  exact ⟨n1 + k, hle, wp_mono (Nat.le_add_right _ _) (fun r S' s' z => pushR_mono (fun x q => wp_mono (Nat.le_add_left _ _) (fun _ _ _ y => y) q) z) hk⟩
theorem mQ_r {Q : mQ} {r : Option mV} {s : mSt} : Q r s → ∃ _n : Nat, QQ Q r S0 s := fun z => ⟨0, rfl, z⟩
set_option maxHeartbeats 4000000 in
theorem ex1_main {X : (Nat → Int) × Nat} {sc : Bool} {rk d mi pc : Nat} {i : mE} {ls : mLo} {st : List mV} {s : mSt} {Q : mQ} (hs : sfI i = true) :
    ex1 X sc rk d 0 pc i ls st S0 s (mGo X d mi Q) (mCa X d) (fun r _ s => Q r s) → ∃ n, ex1 X sc rk d 0 pc i ls st S0 s (fun b p l t S s => wp X n d b mi p l t S s (QQ Q))
        (fun mj as S s K => dC d fun d' => (mArgs as).length ≤ mML mj ∧ wp X n d' (mCe mj) mj 0 (mLoc as (mML mj)) [] S s K) (QQ Q) := by
  obtain ⟨op, len, a, b, c, e⟩ := i
  cases op
  case ldc =>
    dsimp only [ex1]
    split <;> exact ml_g
  case ifCond cd _ => cases cd <;> first | exact eI_ex fun _ _ => an_x nd_1 ml_g ml_g | exact eI_ex fun _ _ => an_x nd_2 ml_g ml_g
  case if_icmp cd _ => cases cd <;> first | exact eI_ex fun _ _ => eI_ex fun _ _ => an_x nd_1 ml_g ml_g | exact eI_ex fun _ _ => eI_ex fun _ _ => an_x nd_2 ml_g ml_g
  case ifnonnull => exact eO_ex fun _ _ => an_x nd_2 ml_g ml_g
  case getfield =>
    refine eR_ex fun _ _ => an_e ?_
    dsimp only
    split
    · exact ml_g
    · exact ml_g
    · exact ex_e fun _ => an_e ml_g
    · exact ml_g
  case putfield =>
    dsimp only [ex1]
    split
    · exact eI_ex fun _ _ => eR_ex fun _ _ => an_e ml_g
    · exact eJ_ex fun _ _ => eR_ex fun _ _ => an_e ml_g
    · exact (Bool.false_ne_true hs).elim
    · exact eI_ex fun _ _ => eR_ex fun _ _ => an_e (an_e ml_g)
  case iaload =>
    cases sc
    · exact eI_ex fun _ _ => eR_ex fun _ _ => ex_e fun _ => an_e (an_e ml_g)
    · exact eI_ex fun _ _ => eX_ex fun _ _ => an_e (an_e (an_e ml_g))
  case arraylength =>
    cases sc
    · exact eR_ex fun _ _ => ex_e fun _ => ex_e fun _ => an_e (an_e ml_g)
    · exact eX_ex fun _ _ => an_e ml_g
  case baload => exact eI_ex fun _ _ => eR_ex fun _ _ => ex_e fun _ => ex_e fun _ => an_e (an_e (an_e ml_g))
  case caload => exact eI_ex fun _ _ => eR_ex fun _ _ => ex_e fun _ => an_e (an_e ml_g)
  case laload => exact eI_ex fun _ _ => eR_ex fun _ _ => ex_e fun _ => an_e (an_e ml_g)
  case aaload => exact eI_ex fun _ _ => eR_ex fun _ _ => ex_e fun _ => ex_e fun _ => an_e (an_e (an_e (ex_e fun _ => an_e ml_g)))
  case iastore => exact eI_ex fun _ _ => eI_ex fun _ _ => eR_ex fun _ _ => ex_e fun _ => an_e (an_e ml_g)
  case bastore => exact eI_ex fun _ _ => eI_ex fun _ _ => eR_ex fun _ _ => ex_e fun _ => ex_e fun _ => an_e (an_e (an_e ml_g))
  case castore => exact eI_ex fun _ _ => eI_ex fun _ _ => eR_ex fun _ _ => ex_e fun _ => an_e (an_e (an_e ml_g))
  case lastore => exact eJ_ex fun _ _ => eI_ex fun _ _ => eR_ex fun _ _ => ex_e fun _ => an_e (an_e ml_g)
  case aastore => exact eR_ex fun _ _ => eI_ex fun _ _ => eR_ex fun _ _ => ex_e fun _ => ex_e fun _ => an_e (an_e (an_e ml_g))
  case new => exact fun z => ⟨0, z⟩
  case newarray => exact fun z => ⟨0, z⟩
  case anewarray => exact fun z => ⟨0, z⟩
  case multianewarray => exact eI_ex fun _ _ => eI_ex fun _ _ => fun z => absurd z.1.2.2.2.2.1 (by omega)
  case invokespecial =>
    dsimp only [ex1]
    split
    · exact eR_ex fun _ _ => an_e ml_g
    · exact popA_ex fun _ _ => an_e (an_e ml_c)
  case invokevirtual =>
    dsimp only [ex1]
    split
    · exact eX_ex fun _ _ => an_e (an_e ml_g)
    · exact eI_ex fun _ _ => eX_ex fun _ _ => an_e (an_e (an_e ml_g))
    · exact popA_ex fun _ _ => an_e (an_e ml_c)
  case invokestatic =>
    dsimp only [ex1]
    split
    · exact eI_ex fun _ _ => eI_ex fun _ _ => an_e ml_g
    · exact eI_ex fun _ _ => eI_ex fun _ _ => an_e ml_g
    · exact eI_ex fun _ _ => eI_ex fun _ _ => eR_ex fun _ _ => eI_ex fun _ _ => eR_ex fun _ _ => an_e (an_e (an_e ml_g))
    · exact popA_ex fun _ _ => an_e ml_c
  case return_ =>
    dsimp only [ex1]
    split
    · exact an_e mQ_r
    · exact fun z => ⟨0, z⟩
  case ireturn =>
    dsimp only [ex1]
    split
    · exact an_e mQ_r
    · exact fun z => ⟨0, z⟩
  case lreturn =>
    dsimp only [ex1]
    split
    · exact an_e mQ_r
    · exact fun z => ⟨0, z⟩
  case areturn =>
    dsimp only [ex1]
    split
    · exact an_e mQ_r
    · exact fun z => ⟨0, z⟩
  case aload =>
    dsimp only [ex1]
    exact gA_ex fun _ => ml_g
  case aload_n =>
    dsimp only [ex1]
    exact gA_ex fun _ => ml_g
  case pop =>
    dsimp only [ex1]
    exact eW_ex fun _ _ => ml_g
  case dup =>
    dsimp only [ex1]
    exact eW_ex fun _ _ => ml_g
  case dup2 =>
    dsimp only [ex1]
    exact eW_ex fun _ _ => eW_ex fun _ _ => ml_g
  all_goals first
    | exact ml_g
    | exact fun z => ⟨0, z⟩
    | exact gI_ex fun _ => ml_g
    | exact gJ_ex fun _ => ml_g
    | exact gA_ex fun _ => ml_g
    | exact eI_ex fun _ _ => sL_ex _ _ _ _ fun _ => ml_g
    | exact eJ_ex fun _ _ => sJ_ex _ _ _ _ fun _ => ml_g
    | exact eO_ex fun _ _ => sL_ex _ _ _ _ fun _ => ml_g
    | exact gI_ex fun _ => sL_ex _ _ _ _ fun _ => ml_g
    | exact eW_ex fun _ _ => ml_g
    | exact eW_ex fun _ _ => eW_ex fun _ _ => ml_g
    | exact eI_ex fun _ _ => ml_g
    | exact eJ_ex fun _ _ => ml_g
    | exact eI_ex fun _ _ => eI_ex fun _ _ => ml_g
    | exact eJ_ex fun _ _ => eJ_ex fun _ _ => ml_g
    | exact eI_ex fun _ _ => eJ_ex fun _ _ => ml_g
    | exact eI_ex fun _ _ => eI_ex fun _ _ => an_e ml_g
    | exact eJ_ex fun _ _ => eJ_ex fun _ _ => an_e ml_g
theorem Wp_step {X : (Nat → Int) × Nat} {rk d mi pc : Nat} {i : mE} {ls : mLo} {st : List mV} {s : mSt} {Q : mQ} (hk : mRk (mi + 1) = rk) (hf : mFetch (mi + 1) pc = some i) (h : ex1 X false rk d 0 pc i ls st S0 s (mGo X d (mi + 1) Q) (mCa X d) (fun r _ s => Q r s)) (hs : sfI i = true := by rfl) : Wp X d (mi + 1) pc ls st s Q := by
  obtain ⟨n, hn⟩ := ex1_main hs h
  refine ⟨n + 1, ?_⟩
  unfold wp
  rw [hf]
  subst hk
  exact hn
theorem Sp_of {X : (Nat → Int) × Nat} {d mj : Nat} {as : List mV} {ls : mLo} {s : mSt} {Q : mQ} (h0 : mCe mj = 0) (hl : mLoc as (mML mj) = ls) (hm : (mArgs as).length ≤ mML mj) (h : Wp X d mj 0 ls [] s Q) : Sp X d mj as s Q := by
  refine ⟨hm, ?_⟩
  rw [h0, hl]
  exact h
