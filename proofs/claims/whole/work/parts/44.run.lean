/-! THE CONSTRUCTORS, run by the kernel. A state as a list of what was written; one instruction as a function; runs. -/
abbrev mWr : Type := List (Nat × Nat × Int × Nat)
def rd (L : mWr) : mSt := match L with
  | [] => fun _ _ => 0
  | (a, k, x, 0) :: t => uS (rd t) a k x
  | (a, _, x, 1) :: t => zS (rd t) a x
  | (a, _, _, _ + 2) :: t => fun b j => if b = a then (a + 1 + j : Nat) else if a < b then 0 else rd t b j
/-- the shapes, newest first, with their number -/
abbrev mSr : Type := Nat × List mSh
def ixL (l : List mSh) (n : Nat) : Option mSh := match l, n with
  | [], _ => none
  | x :: _, 0 => some x
  | _ :: t, n + 1 => ixL t n
def mdL (l : List mSh) (n k v : Nat) : List mSh := match l, n with
  | [], _ => []
  | x :: t, 0 => (x.1, x.2.1, x.2.2.set k v) :: t
  | x :: t, n + 1 => x :: mdL t n k v
def gQ (S : mSr) (a : Nat) : Option mSh := bif Nat.blt a S.1 then ixL S.2 (S.1 - 1 - a) else none
def kQ (S : mSr) (a : Nat) : Nat := match gQ S a with
  | some q => q.1
  | none => 99
def nQ (S : mSr) (a : Nat) : Nat := match gQ S a with
  | some q => q.2.1
  | none => 0
def rQ (S : mSr) (a k : Nat) : Nat := match gQ S a with
  | some q => q.2.2.getD k 0
  | none => 0
def lQ (S : mSr) (a : Nat) : Nat := match gQ S a with
  | some q => q.2.2.length
  | none => 0
def pQ (S : mSr) (a k v : Nat) : mSr := (S.1, mdL S.2 (S.1 - 1 - a) k v)
def cQ (S : mSr) (x : mSh) : mSr := (S.1 + 1, x :: S.2)
def mQr (S : mSr) (x : mSh) (n : Nat) (y : mSh) : mSr := (S.1 + 1 + n, List.replicate n y ++ (x :: S.2))
def sLo (ls : mLo) (i : Nat) (v : mV) : Option mLo := match ls, i with
  | [], _ => none
  | _ :: t, 0 => some (some v :: t)
  | h :: t, n + 1 => (sLo t n v).map fun t' => kL n h :: t'
theorem sLo_ok {v : mV} : ∀ {ls : mLo} {i : Nat} {l' : mLo} {k : mLo → Prop}, sLo ls i v = some l' → k l' → sL ls i v k
  | [], i, l', k, h, _ => by unfold sLo at h; cases h
  | _ :: t, 0, l', k, h, hk => by
    unfold sLo at h
    cases h
    exact hk
  | x :: t, n + 1, l', k, h, hk => by
    unfold sLo at h
    cases h1 : sLo t n v with
    | none => rw [h1] at h; cases h
    | some t' =>
      rw [h1] at h
      cases h
      unfold sL
      exact sLo_ok h1 hk
def popAo (n : Nat) (st acc : List mV) : Option (List mV × List mV) := match n, st with
  | 0, st => some (acc, st)
  | n + 1, v :: t => popAo n t (v :: acc)
  | _, _ => none
theorem popAo_ok : ∀ {n : Nat} {st acc a t : List mV} {k : List mV → List mV → Prop}, popAo n st acc = some (a, t) → k a t → popA n st acc k
  | 0, st, acc, a, t, k, h, hk => by
    unfold popAo at h
    cases h
    unfold popA
    exact hk
  | n + 1, [], acc, a, t, k, h, hk => by unfold popAo at h; cases h
  | n + 1, v :: s, acc, a, t, k, h, hk => by
    unfold popAo at h
    unfold popA
    exact popAo_ok h hk
abbrev mNx : Type := Nat × Nat × mLo × List mV × mSr × mWr
abbrev mAc : Type := Sum mNx (Sum (Nat × List mV × Nat × Nat × List mV) (Option mV))
def nx (b p : Nat) (l : mLo) (t : List mV) (S : mSr) (L : mWr) : Option mAc := some (Sum.inl (b, p, l, t, S, L))
def a1 (rk d bud pc : Nat) (i : mE) (ls : mLo) (st : List mV) (S : mSr) (L : mWr) : Option mAc :=
  match i.1 with
  | .iconst v => nx bud (pc + i.2.1) ls (mI v :: st) S L
  | .bipush v => nx bud (pc + i.2.1) ls (mI v :: st) S L
  | .sipush v => nx bud (pc + i.2.1) ls (mI v :: st) S L
  | .iload_n n => match ls[n.val]? with
    | some (some (Sum.inl x)) => nx bud (pc + i.2.1) ls (mI x :: st) S L
    | _ => none
  | .aload_n n => match ls[n.val]? with
    | some (some (Sum.inr (Sum.inr r))) => nx bud (pc + i.2.1) ls (Sum.inr (Sum.inr r) :: st) S L
    | _ => none
  | .istore_n n => match st with
    | Sum.inl x :: t => (sLo ls n.val (mI x)).bind fun ls => nx bud (pc + i.2.1) ls t S L
    | _ => none
  | .astore_n n => match st with
    | Sum.inr (Sum.inr (Sum.inl r)) :: t => (sLo ls n.val (Sum.inr (Sum.inr (Sum.inl r)))).bind fun ls => nx bud (pc + i.2.1) ls t S L
    | _ => none
  | .iinc n c => match ls[n]? with
    | some (some (Sum.inl x)) => (sLo ls n (mI (w32 (x + c)))).bind fun ls => nx bud (pc + i.2.1) ls st S L
    | _ => none
  | .dup => match st with
    | Sum.inr (Sum.inr r) :: t => nx bud (pc + i.2.1) ls (Sum.inr (Sum.inr r) :: Sum.inr (Sum.inr r) :: t) S L
    | _ => none
  | .goto _ => nx bud i.2.2.1.toNat ls st S L
  | .if_icmp .ge _ => match st with
    | Sum.inl y :: Sum.inl x :: t => if y ≤ x then nx bud i.2.2.1.toNat ls t S L else nx bud (pc + i.2.1) ls t S L
    | _ => none
  | .getfield _ => match st, i.2.2.2.2.1 with
    | Sum.inr (Sum.inr (Sum.inl (some o))) :: t, 2 => if kQ S o = i.2.2.1.toNat then (match rQ S o i.2.2.2.1.toNat with
      | r + 1 => nx bud (pc + i.2.1) ls (mR r :: t) S L
      | 0 => none) else none
    | _, _ => none
  | .putfield _ => match i.2.2.2.2.1, st with
    | 0, Sum.inl x :: Sum.inr (Sum.inr (Sum.inl (some o))) :: t => if kQ S o = i.2.2.1.toNat then nx bud (pc + i.2.1) ls t S ((o, i.2.2.2.1.toNat, x, 0) :: L) else none
    | 2, Sum.inr (Sum.inr (Sum.inl (some r))) :: Sum.inr (Sum.inr (Sum.inl (some o))) :: t => if rk = 6 ∧ i.2.2.2.2.2 = 1 ∧ kQ S o = i.2.2.1.toNat ∧ i.2.2.2.1.toNat < lQ S o then nx bud (pc + i.2.1) ls t (pQ S o i.2.2.2.1.toNat (r + 1)) L else none
    | _, _ => none
  | .aastore => match st with
    | Sum.inr (Sum.inr (Sum.inl (some r))) :: Sum.inl j :: Sum.inr (Sum.inr (Sum.inl (some a))) :: t => if (25 ≤ kQ S a ∧ kQ S a ≤ 27 ∧ kQ S r = elOf (kQ S a)) ∧ (0 ≤ j ∧ j < nQ S a) then nx bud (pc + i.2.1) ls t S ((a, j.toNat, (r : Int), 0) :: L) else none
    | _ => none
  | .new _ => match bud with
    | 0 => none
    | b + 1 => if 0 ≤ i.2.2.1 ∧ i.2.2.1 < 20 then nx b (pc + i.2.1) ls (mR S.1 :: st) (cQ S (i.2.2.1.toNat, i.2.2.2.2.1, List.replicate i.2.2.2.2.1 0)) ((S.1, 0, 0, 1) :: L) else none
  | .newarray t => match bud, st with
    | b + 1, Sum.inl n :: st => if 0 ≤ n ∧ n ≤ 2400 ∧ atOf t ≠ 98 then nx b (pc + i.2.1) ls (mR S.1 :: st) (cQ S (atOf t, n.toNat, [])) ((S.1, 0, 0, 1) :: L) else none
    | _, _ => none
  | .anewarray _ => match bud, st with
    | b + 1, Sum.inl n :: st => if 0 ≤ n ∧ n ≤ 2400 ∧ (i.2.2.1 = 0 ∨ i.2.2.1 = 5 ∨ i.2.2.1 = 7) then nx b (pc + i.2.1) ls (mR S.1 :: st) (cQ S (akOf i.2.2.1, n.toNat, [])) ((S.1, 0, -1, 1) :: L) else none
    | _, _ => none
  | .multianewarray _ _ => match st with
    | Sum.inl m :: Sum.inl n :: st => if 0 ≤ m ∧ m ≤ 100 ∧ 0 ≤ n ∧ n ≤ 20 ∧ n.toNat + 1 ≤ bud ∧ i.2.2.1 = 28 then nx (bud - (n.toNat + 1)) (pc + i.2.1) ls (mR S.1 :: st) (mQr S (28, n.toNat, []) n.toNat (22, m.toNat, [])) ((S.1, 0, 0, 2) :: L) else none
    | _ => none
  | .invokespecial _ => match i.2.2.1 with
    | .negSucc _ => match st with
      | Sum.inr (Sum.inr (Sum.inl (some _))) :: t => if 0 < d ∧ sW t ≤ 8 then nx bud (pc + i.2.1) ls t S L else none
      | _ => none
    | .ofNat mj => (popAo i.2.2.2.2.1 st []).bind fun q => match q.1 with
      | Sum.inr (Sum.inr (Sum.inl (some k))) :: u => if (kQ S k = i.2.2.2.2.2 ∧ sW q.2 ≤ 8) ∧ i.2.2.2.1.toNat ≤ bud then some (Sum.inr (Sum.inl (mj, Sum.inr (Sum.inr (Sum.inl (some k))) :: u, bud - i.2.2.2.1.toNat, pc + i.2.1, q.2))) else none
      | _ => none
  | .return_ => match st with
    | [] => if bud = 0 ∧ (rk = 0 ∨ rk = 6) then some (Sum.inr (Sum.inr none)) else none
    | _ => none
  | _ => none
def bL_0 : mWr := [(439, 0, 0, 1), (438, 0, 0, 1), (437, 0, 0, 1), (436, 0, 0, 1), (435, 0, 0, 1), (434, 0, 0, 1), (433, 0, 0, 1), (432, 0, 0, 1), (431, 0, 0, 1), (430, 0, 0, 1), (429, 0, 0, 1), (428, 0, 0, 1), (427, 0, 0, 1), (426, 0, 0, 1), (425, 0, 0, 1), (424, 0, 0, 1), (423, 0, 0, 1), (422, 0, 0, 1), (421, 0, 0, 1), (420, 0, 0, 1), (419, 0, 0, 1), (418, 0, 0, 1), (407, 21, (-1), 0), (417, 0, 0, 1), (416, 0, 0, 1), (415, 0, 0, 1), (414, 0, 0, 1), (413, 0, 0, 1), (412, 0, 0, 1), (411, 0, 0, 1), (410, 0, 0, 1), (409, 0, 0, 1), (408, 0, 0, 1), (407, 0, 0, 1), (33, 19, 397, 0), (406, 0, 0, 1), (405, 0, 0, 1), (404, 0, 0, 1), (403, 0, 0, 1), (402, 0, 0, 1), (401, 0, 0, 1), (400, 0, 0, 1), (399, 0, 0, 1), (398, 0, 0, 1), (397, 0, 0, 1), (33, 18, 387, 0), (396, 0, 0, 1), (395, 0, 0, 1), (394, 0, 0, 1), (393, 0, 0, 1), (392, 0, 0, 1), (391, 0, 0, 1), (390, 0, 0, 1), (389, 0, 0, 1), (388, 0, 0, 1), (387, 0, 0, 1), (33, 17, 377, 0), (386, 0, 0, 1), (385, 0, 0, 1), (384, 0, 0, 1)]
def bL_1 : mWr := [(383, 0, 0, 1), (382, 0, 0, 1), (381, 0, 0, 1), (380, 0, 0, 1), (379, 0, 0, 1), (378, 0, 0, 1), (377, 0, 0, 1), (33, 16, 367, 0), (376, 0, 0, 1), (375, 0, 0, 1), (374, 0, 0, 1), (373, 0, 0, 1), (372, 0, 0, 1), (371, 0, 0, 1), (370, 0, 0, 1), (369, 0, 0, 1), (368, 0, 0, 1), (367, 0, 0, 1), (33, 15, 357, 0), (366, 0, 0, 1), (365, 0, 0, 1), (364, 0, 0, 1), (363, 0, 0, 1), (362, 0, 0, 1), (361, 0, 0, 1), (360, 0, 0, 1), (359, 0, 0, 1), (358, 0, 0, 1), (357, 0, 0, 1), (33, 14, 347, 0), (356, 0, 0, 1), (355, 0, 0, 1), (354, 0, 0, 1), (353, 0, 0, 1), (352, 0, 0, 1), (351, 0, 0, 1), (350, 0, 0, 1), (349, 0, 0, 1), (348, 0, 0, 1), (347, 0, 0, 1), (33, 13, 337, 0), (346, 0, 0, 1), (345, 0, 0, 1), (344, 0, 0, 1), (343, 0, 0, 1), (342, 0, 0, 1), (341, 0, 0, 1), (340, 0, 0, 1), (339, 0, 0, 1), (338, 0, 0, 1), (337, 0, 0, 1), (33, 12, 327, 0), (336, 0, 0, 1), (335, 0, 0, 1), (334, 0, 0, 1), (333, 0, 0, 1), (332, 0, 0, 1), (331, 0, 0, 1), (330, 0, 0, 1), (329, 0, 0, 1)]
def bL_2 : mWr := [(328, 0, 0, 1), (327, 0, 0, 1), (33, 11, 317, 0), (326, 0, 0, 1), (325, 0, 0, 1), (324, 0, 0, 1), (323, 0, 0, 1), (322, 0, 0, 1), (321, 0, 0, 1), (320, 0, 0, 1), (319, 0, 0, 1), (318, 0, 0, 1), (317, 0, 0, 1), (33, 10, 307, 0), (316, 0, 0, 1), (315, 0, 0, 1), (314, 0, 0, 1), (313, 0, 0, 1), (312, 0, 0, 1), (311, 0, 0, 1), (310, 0, 0, 1), (309, 0, 0, 1), (308, 0, 0, 1), (307, 0, 0, 1), (33, 9, 297, 0), (306, 0, 0, 1), (305, 0, 0, 1), (304, 0, 0, 1), (303, 0, 0, 1), (302, 0, 0, 1), (301, 0, 0, 1), (300, 0, 0, 1), (299, 0, 0, 1), (298, 0, 0, 1), (297, 0, 0, 1), (33, 8, 287, 0), (296, 0, 0, 1), (295, 0, 0, 1), (294, 0, 0, 1), (293, 0, 0, 1), (292, 0, 0, 1), (291, 0, 0, 1), (290, 0, 0, 1), (289, 0, 0, 1), (288, 0, 0, 1), (287, 0, 0, 1), (33, 7, 277, 0), (286, 0, 0, 1), (285, 0, 0, 1), (284, 0, 0, 1), (283, 0, 0, 1), (282, 0, 0, 1), (281, 0, 0, 1), (280, 0, 0, 1), (279, 0, 0, 1), (278, 0, 0, 1), (277, 0, 0, 1), (33, 6, 267, 0), (276, 0, 0, 1), (275, 0, 0, 1)]
def bL_3 : mWr := [(274, 0, 0, 1), (273, 0, 0, 1), (272, 0, 0, 1), (271, 0, 0, 1), (270, 0, 0, 1), (269, 0, 0, 1), (268, 0, 0, 1), (267, 0, 0, 1), (33, 5, 257, 0), (266, 0, 0, 1), (265, 0, 0, 1), (264, 0, 0, 1), (263, 0, 0, 1), (262, 0, 0, 1), (261, 0, 0, 1), (260, 0, 0, 1), (259, 0, 0, 1), (258, 0, 0, 1), (257, 0, 0, 1), (33, 4, 247, 0), (256, 0, 0, 1), (255, 0, 0, 1), (254, 0, 0, 1), (253, 0, 0, 1), (252, 0, 0, 1), (251, 0, 0, 1), (250, 0, 0, 1), (249, 0, 0, 1), (248, 0, 0, 1), (247, 0, 0, 1), (33, 3, 237, 0), (246, 0, 0, 1), (245, 0, 0, 1), (244, 0, 0, 1), (243, 0, 0, 1), (242, 0, 0, 1), (241, 0, 0, 1), (240, 0, 0, 1), (239, 0, 0, 1), (238, 0, 0, 1), (237, 0, 0, 1), (33, 2, 227, 0), (236, 0, 0, 1), (235, 0, 0, 1), (234, 0, 0, 1), (233, 0, 0, 1), (232, 0, 0, 1), (231, 0, 0, 1), (230, 0, 0, 1), (229, 0, 0, 1), (228, 0, 0, 1), (227, 0, 0, 1), (33, 1, 217, 0), (226, 0, 0, 1), (225, 0, 0, 1), (224, 0, 0, 1), (223, 0, 0, 1), (222, 0, 0, 1), (221, 0, 0, 1), (220, 0, 0, 1)]
def bL_4 : mWr := [(219, 0, 0, 1), (218, 0, 0, 1), (217, 0, 0, 1), (33, 0, 207, 0), (216, 0, 0, 1), (215, 0, 0, 1), (214, 0, 0, 1), (213, 0, 0, 1), (212, 0, 0, 1), (211, 0, 0, 1), (210, 0, 0, 1), (209, 0, 0, 1), (208, 0, 0, 1), (207, 0, 0, 1), (32, 3, 182, 0), (182, 3, (-1), 0), (206, 0, 0, 1), (205, 0, 0, 1), (204, 0, 0, 1), (203, 0, 0, 1), (202, 0, 0, 1), (201, 0, 0, 1), (200, 0, 0, 1), (199, 0, 0, 1), (198, 0, 0, 1), (197, 0, 0, 1), (196, 0, 0, 1), (195, 0, 0, 1), (194, 0, 0, 1), (193, 0, 0, 1), (192, 0, 0, 1), (191, 0, 0, 1), (190, 0, 0, 1), (189, 0, 0, 1), (188, 0, 0, 1), (187, 0, 0, 1), (186, 0, 0, 1), (185, 0, 0, 1), (184, 0, 0, 1), (183, 0, 0, 1), (182, 0, 0, 1), (32, 2, 157, 0), (157, 3, (-1), 0), (181, 0, 0, 1), (180, 0, 0, 1), (179, 0, 0, 1), (178, 0, 0, 1), (177, 0, 0, 1), (176, 0, 0, 1), (175, 0, 0, 1), (174, 0, 0, 1), (173, 0, 0, 1), (172, 0, 0, 1), (171, 0, 0, 1), (170, 0, 0, 1), (169, 0, 0, 1), (168, 0, 0, 1), (167, 0, 0, 1), (166, 0, 0, 1), (165, 0, 0, 1)]
def bL_5 : mWr := [(164, 0, 0, 1), (163, 0, 0, 1), (162, 0, 0, 1), (161, 0, 0, 1), (160, 0, 0, 1), (159, 0, 0, 1), (158, 0, 0, 1), (157, 0, 0, 1), (32, 1, 132, 0), (132, 3, (-1), 0), (156, 0, 0, 1), (155, 0, 0, 1), (154, 0, 0, 1), (153, 0, 0, 1), (152, 0, 0, 1), (151, 0, 0, 1), (150, 0, 0, 1), (149, 0, 0, 1), (148, 0, 0, 1), (147, 0, 0, 1), (146, 0, 0, 1), (145, 0, 0, 1), (144, 0, 0, 1), (143, 0, 0, 1), (142, 0, 0, 1), (141, 0, 0, 1), (140, 0, 0, 1), (139, 0, 0, 1), (138, 0, 0, 1), (137, 0, 0, 1), (136, 0, 0, 1), (135, 0, 0, 1), (134, 0, 0, 1), (133, 0, 0, 1), (132, 0, 0, 1), (32, 0, 107, 0), (107, 3, (-1), 0), (131, 0, 0, 1), (130, 0, 0, 1), (129, 0, 0, 1), (128, 0, 0, 1), (127, 0, 0, 1), (126, 0, 0, 1), (125, 0, 0, 1), (124, 0, 0, 1), (123, 0, 0, 1), (122, 0, 0, 1), (121, 0, 0, 1), (120, 0, 0, 1), (119, 0, 0, 1), (118, 0, 0, 1), (117, 0, 0, 1), (116, 0, 0, 1), (115, 0, 0, 1), (114, 0, 0, 1), (113, 0, 0, 1), (112, 0, 0, 1), (111, 0, 0, 1), (110, 0, 0, 1), (109, 0, 0, 1)]
def bL_6 : mWr := [(108, 0, 0, 1), (107, 0, 0, 1), (6, 5, 103, 0), (106, 0, 0, 1), (105, 0, 0, 1), (104, 0, 0, 1), (103, 0, 0, 1), (6, 4, 99, 0), (102, 0, 0, 1), (101, 0, 0, 1), (100, 0, 0, 1), (99, 0, 0, 1), (6, 3, 95, 0), (98, 0, 0, 1), (97, 0, 0, 1), (96, 0, 0, 1), (95, 0, 0, 1), (6, 2, 91, 0), (94, 0, 0, 1), (93, 0, 0, 1), (92, 0, 0, 1), (91, 0, 0, 1), (6, 1, 87, 0), (90, 0, 0, 1), (89, 0, 0, 1), (88, 0, 0, 1), (87, 0, 0, 1), (6, 0, 83, 0), (86, 0, 0, 1), (85, 0, 0, 1), (84, 0, 0, 1), (83, 0, 0, 1), (82, 0, 0, 1), (81, 0, 0, 1), (80, 0, 0, 1), (77, 0, 0, 2), (76, 0, 0, 1), (68, 0, 0, 2), (67, 0, 0, 1), (66, 0, 0, 1), (65, 0, 0, 1), (64, 0, 0, 1), (63, 0, 0, 1), (62, 0, 0, 1), (61, 0, 0, 1), (60, 0, 0, 1), (59, 0, 0, 1), (58, 0, 0, 1), (57, 0, 0, 1), (56, 0, 0, 1), (55, 0, 0, 1), (54, 0, 0, 1), (53, 0, 0, 1), (52, 0, 0, 1), (51, 0, 0, 1), (50, 0, 0, 1), (49, 0, 0, 1), (48, 0, 0, 1), (47, 0, 0, 1), (46, 0, 0, 1)]
def bL_7 : mWr := [(45, 0, 0, 1), (44, 0, 0, 1), (43, 0, 0, 1), (42, 0, 0, 1), (41, 0, 0, 1), (40, 0, 0, 1), (39, 0, 0, 1), (38, 0, 0, 1), (37, 0, 0, 1), (36, 0, 0, 1), (35, 0, 0, 1), (34, 0, 0, 1), (33, 0, (-1), 1), (32, 0, (-1), 1), (7, 3, (-1), 0), (31, 0, 0, 1), (30, 0, 0, 1), (29, 0, 0, 1), (28, 0, 0, 1), (27, 0, 0, 1), (26, 0, 0, 1), (25, 0, 0, 1), (24, 0, 0, 1), (23, 0, 0, 1), (22, 0, 0, 1), (21, 0, 0, 1), (20, 0, 0, 1), (19, 0, 0, 1), (18, 0, 0, 1), (17, 0, 0, 1), (16, 0, 0, 1), (15, 0, 0, 1), (14, 0, 0, 1), (13, 0, 0, 1), (12, 0, 0, 1), (11, 0, 0, 1), (10, 0, 0, 1), (9, 0, 0, 1), (8, 0, 0, 1), (7, 0, 0, 1), (6, 0, (-1), 1), (5, 0, 0, 1), (4, 0, 0, 1), (3, 0, 0, 1), (2, 0, 0, 1), (1, 0, 0, 1), (0, 0, 0, 1)]
def bootL : mWr := bL_0 ++ bL_1 ++ bL_2 ++ bL_3 ++ bL_4 ++ bL_5 ++ bL_6 ++ bL_7
/-! the two ways of keeping shapes are the same -/
def SR (S : List mSh) (Q : mSr) : Prop := S = Q.2.reverse ∧ Q.1 = S.length
theorem ixL_eq : ∀ (l : List mSh) (n : Nat), ixL l n = l[n]?
  | [], n => by simp [ixL]
  | x :: t, 0 => by simp [ixL]
  | x :: t, n + 1 => by simp [ixL, ixL_eq t n]
theorem mdL_eq : ∀ (l : List mSh) (n k v : Nat), mdL l n k v = l.modify n (fun q => (q.1, q.2.1, q.2.2.set k v))
  | [], n, k, v => by cases n <;> simp [mdL]
  | x :: t, 0, k, v => by simp [mdL]
  | x :: t, n + 1, k, v => by simp [mdL, mdL_eq t n k v]
theorem gQ_ok {S : List mSh} {Q : mSr} (h : SR S Q) (a : Nat) : gQ Q a = S[a]? := by
  obtain ⟨rfl, h2⟩ := h
  rw [List.length_reverse] at h2
  unfold gQ
  by_cases ha : a < Q.1
  · rw [show Nat.blt a Q.1 = true from Nat.ble_eq_true_of_le ha, cond_true, ixL_eq, h2]
    rw [List.getElem?_reverse (by omega)]
  · rw [show Nat.blt a Q.1 = false by cases hb : Nat.blt a Q.1 with | false => rfl | true => exact absurd (Nat.le_of_ble_eq_true hb) ha, cond_false, List.getElem?_eq_none (by rw [List.length_reverse]; omega)]
theorem kQ_ok {S : List mSh} {Q : mSr} (h : SR S Q) (a : Nat) : kQ Q a = kS S a := by unfold kQ kS; rw [gQ_ok h]; cases S[a]? <;> rfl
theorem nQ_ok {S : List mSh} {Q : mSr} (h : SR S Q) (a : Nat) : nQ Q a = nS S a := by unfold nQ nS; rw [gQ_ok h]; cases S[a]? <;> rfl
theorem rQ_ok {S : List mSh} {Q : mSr} (h : SR S Q) (a k : Nat) : rQ Q a k = rS S a k := by unfold rQ rS; rw [gQ_ok h]; cases S[a]? <;> rfl
theorem lQ_ok {S : List mSh} {Q : mSr} (h : SR S Q) (a : Nat) : lQ Q a = lS S a := by unfold lQ lS; rw [gQ_ok h]; cases S[a]? <;> rfl
theorem cQ_ok {S : List mSh} {Q : mSr} (h : SR S Q) (x : mSh) : SR (S ++ [x]) (cQ Q x) := by
  obtain ⟨rfl, h2⟩ := h
  exact ⟨by simp [cQ], by simp [cQ, h2]⟩
theorem mQr_ok {S : List mSh} {Q : mSr} (h : SR S Q) (x y : mSh) (n : Nat) : SR (S ++ (x :: List.replicate n y)) (mQr Q x n y) := by
  obtain ⟨rfl, h2⟩ := h
  refine ⟨by simp [mQr], ?_⟩
  simp [mQr, h2]
  omega
theorem pQ_ok {S : List mSh} {Q : mSr} (h : SR S Q) {a : Nat} (ha : a < S.length) (k v : Nat) : SR (pS S a k v) (pQ Q a k v) := by
  obtain ⟨rfl, h2⟩ := h
  rw [List.length_reverse] at h2 ha
  refine ⟨?_, by simp [pQ, pS, h2]⟩
  unfold pS pQ
  rw [mdL_eq]
  apply List.ext_getElem?
  intro i
  by_cases hi : i < Q.2.length
  · rw [List.getElem?_reverse (by simpa using hi), List.getElem?_modify, List.getElem?_modify, List.getElem?_reverse hi, List.length_modify]
    by_cases e : a = i
    · subst e; simp [h2]
    · simp only [if_neg e, if_neg (show ¬ Q.fst - 1 - a = Q.snd.length - 1 - i by omega)]
  · rw [List.getElem?_eq_none (by simp; omega), List.getElem?_eq_none (by simp; omega)]
abbrev aK (S : List mSh) (L : mWr) (ls : mLo) (go : Nat → Nat → mLo → List mV → List mSh → mSt → Prop) (call : Nat → List mV → List mSh → mSt → mRt → Prop) (ret : mRt) (ac : mAc) : Prop := match ac with
  | Sum.inl q => ∀ S', SR S' q.2.2.2.2.1 → go q.1 q.2.1 q.2.2.1 q.2.2.2.1 S' (rd q.2.2.2.2.2)
  | Sum.inr (Sum.inl q) => call q.1 q.2.1 S (rd L) (fun r S' s' => pushR r q.2.2.2.2 fun st' => go q.2.2.1 q.2.2.2.1 ls st' S' s')
  | Sum.inr (Sum.inr r) => ret r S (rd L)
set_option maxHeartbeats 4000000 in
theorem a1_ok {X : (Nat → Int) × Nat} {sc : Bool} {rk d bud pc : Nat} {i : mE} {ls : mLo} {st : List mV} {S : List mSh} {Q : mSr} {L : mWr} {ac : mAc} {go : Nat → Nat → mLo → List mV → List mSh → mSt → Prop} {call : Nat → List mV → List mSh → mSt → mRt → Prop} {ret : mRt} (hS : SR S Q) (h : a1 rk d bud pc i ls st Q L = some ac) (hk : aK S L ls go call ret ac) : ex1 X sc rk d bud pc i ls st S (rd L) go call ret := by
  obtain ⟨op, len, a, b, c, e⟩ := i
  have hN : Q.1 = S.length := hS.2
  cases op
  case iconst v => cases h; exact hk S hS
  case bipush v => cases h; exact hk S hS
  case sipush v => cases h; exact hk S hS
  case goto v => cases h; exact hk S hS
  case iload_n n =>
    dsimp only [a1] at h
    split at h
    · rename_i x hx
      cases h
      show gI ls n.val _
      unfold gI
      rw [hx]
      exact hk S hS
    · cases h
  case aload_n n =>
    dsimp only [a1] at h
    split at h
    · rename_i x hx
      cases h
      dsimp only [ex1]
      unfold gA
      rw [hx]
      exact hk S hS
    · cases h
  case istore_n n =>
    dsimp only [a1] at h
    split at h
    · obtain ⟨l', h1, h2⟩ := Option.bind_eq_some_iff.mp h
      cases h2
      exact sLo_ok h1 (hk S hS)
    · cases h
  case astore_n n =>
    dsimp only [a1] at h
    split at h
    · obtain ⟨l', h1, h2⟩ := Option.bind_eq_some_iff.mp h
      cases h2
      exact sLo_ok h1 (hk S hS)
    · cases h
  case iinc n v =>
    dsimp only [a1] at h
    split at h
    · rename_i x hx
      obtain ⟨l', h1, h2⟩ := Option.bind_eq_some_iff.mp h
      cases h2
      show gI ls n _
      unfold gI
      rw [hx]
      exact sLo_ok h1 (hk S hS)
    · cases h
  case dup =>
    dsimp only [a1] at h
    split at h
    · cases h; exact hk S hS
    · cases h
  case if_icmp cd o =>
    cases cd
    case ge =>
      dsimp only [a1] at h
      split at h
      · split at h
        · rename_i hq
          cases h
          exact ⟨fun _ => hk S hS, fun z => absurd hq z⟩
        · rename_i hq
          cases h
          exact ⟨fun z => absurd z hq, fun _ => hk S hS⟩
      · cases h
    all_goals cases h
  case getfield o =>
    dsimp only [a1] at h
    split at h
    · split at h
      · rename_i hq
        split at h
        · rename_i r hr
          cases h
          rw [kQ_ok hS] at hq
          rw [rQ_ok hS] at hr
          refine ⟨hq, ?_⟩
          exact ⟨r, hr, hk S hS⟩
        · cases h
      · cases h
    · cases h
  case putfield o =>
    dsimp only [a1] at h
    split at h
    · split at h
      · rename_i hq
        cases h
        rw [kQ_ok hS] at hq
        exact ⟨hq, hk S hS⟩
      · cases h
    · split at h
      · rename_i hq
        cases h
        rw [kQ_ok hS, lQ_ok hS] at hq
        rename_i o' t
        have ho : o' < S.length := by
          by_cases hl : o' < S.length
          · exact hl
          · have := hq.2.2.2
            unfold lS at this
            rw [List.getElem?_eq_none (by omega)] at this
            exact absurd this (Nat.not_lt_zero _)
        exact ⟨hq, hk _ (pQ_ok hS ho _ _)⟩
      · cases h
    · cases h
  case aastore =>
    dsimp only [a1] at h
    split at h
    · split at h
      · rename_i hq
        cases h
        rw [kQ_ok hS, kQ_ok hS, nQ_ok hS] at hq
        exact ⟨_, _, ⟨rfl, rfl⟩, hq.1, hq.2, hk S hS⟩
      · cases h
    · cases h
  case new o =>
    dsimp only [a1] at h
    split at h
    · cases h
    · split at h
      · rename_i hq
        cases h
        rw [hN] at hk
        exact ⟨hq, hk _ (cQ_ok hS _)⟩
      · cases h
  case newarray t =>
    dsimp only [a1] at h
    split at h
    · split at h
      · rename_i hq
        cases h
        rw [hN] at hk
        exact ⟨hq, hk _ (cQ_ok hS _)⟩
      · cases h
    · cases h
  case anewarray t =>
    dsimp only [a1] at h
    split at h
    · split at h
      · rename_i hq
        cases h
        rw [hN] at hk
        exact ⟨hq, hk _ (cQ_ok hS _)⟩
      · cases h
    · cases h
  case multianewarray t u =>
    dsimp only [a1] at h
    split at h
    · split at h
      · rename_i hq
        cases h
        rw [hN] at hk
        exact ⟨hq, hk _ (mQr_ok hS _ _ _)⟩
      · cases h
    · cases h
  case invokespecial o =>
    dsimp only [a1] at h
    split at h
    · split at h
      · split at h
        · rename_i hq
          cases h
          exact ⟨hq, hk S hS⟩
        · cases h
      · cases h
    · obtain ⟨q, h1, h2⟩ := Option.bind_eq_some_iff.mp h
      obtain ⟨qa, qt⟩ := q
      dsimp only at h2
      split at h2
      · split at h2
        · rename_i hq
          cases h2
          rw [kQ_ok hS] at hq
          exact popAo_ok h1 ⟨hq.1, hq.2, hk⟩
        · cases h2
      · cases h2
  case return_ =>
    dsimp only [a1] at h
    split at h
    · split at h
      · rename_i hq
        cases h
        exact ⟨hq, hk⟩
      · cases h
    · cases h
  all_goals cases h
/-! runs, frame upon frame -/
abbrev mFr : Type := Nat × Nat × Nat × Nat × mLo × List mV
abbrev mCf : Type := mFr × List mFr × mSr × mWr
def cs (c : mCf) : Option mCf := match mFetch c.1.2.2.1 c.1.2.2.2.1 with
  | none => none
  | some i => match a1 (mRk c.1.2.2.1) c.1.1 c.1.2.1 c.1.2.2.2.1 i c.1.2.2.2.2.1 c.1.2.2.2.2.2 c.2.2.1 c.2.2.2 with
    | none => none
    | some (Sum.inl q) => some ((c.1.1, q.1, c.1.2.2.1, q.2.1, q.2.2.1, q.2.2.2.1), c.2.1, q.2.2.2.2.1, q.2.2.2.2.2)
    | some (Sum.inr (Sum.inl q)) => match c.1.1 with
      | 0 => none
      | d + 1 => if (mArgs q.2.1).length ≤ mML q.1 then some ((d, mCe q.1, q.1, 0, mLoc q.2.1 (mML q.1), []), (d + 1, q.2.2.1, c.1.2.2.1, q.2.2.2.1, c.1.2.2.2.2.1, q.2.2.2.2) :: c.2.1, c.2.2.1, c.2.2.2) else none
    | some (Sum.inr (Sum.inr r)) => match c.2.1, r with
      | f :: t, none => some (f, t, c.2.2.1, c.2.2.2)
      | _, _ => none
def KK (X : (Nat → Int) × Nat) (n : Nat) (fs : List mFr) (K : mRt) : mRt := match fs with
  | [] => K
  | f :: t => fun r S s => pushR r f.2.2.2.2.2 fun st' => wp X n f.1 f.2.1 f.2.2.1 f.2.2.2.1 f.2.2.2.2.1 st' S s (KK X n t K)
theorem KK_mono {X : (Nat → Int) × Nat} {n m : Nat} (h : n ≤ m) {K : mRt} : ∀ (fs : List mFr) (r : Option mV) (S : List mSh) (s : mSt), KK X n fs K r S s → KK X m fs K r S s
  | [], r, S, s, z => z
  | f :: t, r, S, s, z => by
    unfold KK at z ⊢
    exact pushR_mono (fun st' q => wp_mono h (KK_mono h t) q) z
def CF (X : (Nat → Int) × Nat) (n : Nat) (c : mCf) (K : mRt) : Prop := ∀ S, SR S c.2.2.1 → wp X n c.1.1 c.1.2.1 c.1.2.2.1 c.1.2.2.2.1 c.1.2.2.2.2.1 c.1.2.2.2.2.2 S (rd c.2.2.2) (KK X n c.2.1 K)
theorem cs_ok {X : (Nat → Int) × Nat} {n : Nat} {c c' : mCf} {K : mRt} (h : cs c = some c') (hc : CF X n c' K) : CF X (n + 1) c K := by
  intro S hS
  obtain ⟨⟨d, bud, mi, pc, ls, st⟩, rest, Q, L⟩ := c
  dsimp only at hS ⊢
  unfold cs at h
  dsimp only at h
  unfold wp
  cases hf : mFetch mi pc with
  | none => rw [hf] at h; cases h
  | some i =>
    rw [hf] at h
    dsimp only at h ⊢
    cases ha : a1 (mRk mi) d bud pc i ls st Q L with
    | none => rw [ha] at h; cases h
    | some ac =>
      rw [ha] at h
      refine a1_ok hS ha ?_
      rcases ac with q | q | r
      · cases h
        intro S' hS'
        exact wp_mono (Nat.le_refl _) (KK_mono (Nat.le_succ n) rest) (hc S' hS')
      · cases d with
        | zero => cases h
        | succ d =>
          dsimp only at h
          split at h
          · rename_i hl
            cases h
            exact ⟨hl, wp_mono (Nat.le_refl _) (fun r S' s' z => pushR_mono (fun st' y => wp_mono (Nat.le_refl _) (KK_mono (Nat.le_succ n) rest) y) z) (hc S hS)⟩
          · cases h
      · cases rest with
        | nil => cases h
        | cons f t =>
          cases r with
          | none =>
            cases h
            exact wp_mono (Nat.le_succ n) (KK_mono (Nat.le_succ n) t) (hc S hS)
          | some v => cases h
def sts (k : Nat) (c : mCf) : Option mCf := match k with
  | 0 => some c
  | k + 1 => match cs c with
    | none => none
    | some c => sts k c
theorem sts_ok {X : (Nat → Int) × Nat} {K : mRt} : ∀ {k : Nat} {c c' : mCf}, sts k c = some c' → (∃ n, CF X n c' K) → ∃ n, CF X n c K
  | 0, c, c', h, z => by
    cases h
    exact z
  | k + 1, c, c', h, z => by
    unfold sts at h
    cases h1 : cs c with
    | none => rw [h1] at h; cases h
    | some c1 =>
      rw [h1] at h
      obtain ⟨n, hn⟩ := sts_ok h z
      exact ⟨n + 1, cs_ok h1 hn⟩
