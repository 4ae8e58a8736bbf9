/-! the methods are as the words say -/
set_option maxRecDepth 100000 in
theorem ckM_0 : ∀ j, j < 10 → ckM (1 + j) = true := by decide +kernel
set_option maxRecDepth 100000 in
theorem ckM_1 : ∀ j, j < 10 → ckM (11 + j) = true := by decide +kernel
set_option maxRecDepth 100000 in
theorem ckM_2 : ∀ j, j < 10 → ckM (21 + j) = true := by decide +kernel
set_option maxRecDepth 100000 in
theorem ckM_3 : ∀ j, j < 10 → ckM (31 + j) = true := by decide +kernel
set_option maxRecDepth 100000 in
theorem ckM_4 : ∀ j, j < 10 → ckM (41 + j) = true := by decide +kernel
set_option maxRecDepth 100000 in
theorem ckM_5 : ∀ j, j < 10 → ckM (51 + j) = true := by decide +kernel
set_option maxRecDepth 100000 in
theorem ckM_6 : ∀ j, j < 10 → ckM (61 + j) = true := by decide +kernel
set_option maxRecDepth 100000 in
theorem ckM_7 : ∀ j, j < 10 → ckM (71 + j) = true := by decide +kernel
set_option maxRecDepth 100000 in
theorem ckM_8 : ∀ j, j < 10 → ckM (81 + j) = true := by decide +kernel
set_option maxRecDepth 100000 in
theorem ckM_9 : ∀ j, j < 10 → ckM (91 + j) = true := by decide +kernel
set_option maxRecDepth 100000 in
theorem ckM_10 : ∀ j, j < 10 → ckM (101 + j) = true := by decide +kernel
set_option maxRecDepth 100000 in
theorem ckM_11 : ∀ j, j < 10 → ckM (111 + j) = true := by decide +kernel
set_option maxRecDepth 100000 in
theorem ckM_12 : ∀ j, j < 10 → ckM (121 + j) = true := by decide +kernel
set_option maxRecDepth 100000 in
theorem ckM_13 : ∀ j, j < 10 → ckM (131 + j) = true := by decide +kernel
set_option maxRecDepth 100000 in
theorem ckM_14 : ∀ j, j < 10 → ckM (141 + j) = true := by decide +kernel
set_option maxRecDepth 100000 in
theorem ckM_15 : ∀ j, j < 10 → ckM (151 + j) = true := by decide +kernel
set_option maxRecDepth 100000 in
theorem ckM_16 : ∀ j, j < 10 → ckM (161 + j) = true := by decide +kernel
set_option maxRecDepth 100000 in
theorem ckM_17 : ∀ j, j < 10 → ckM (171 + j) = true := by decide +kernel
set_option maxRecDepth 100000 in
theorem ckM_18 : ∀ j, j < 10 → ckM (181 + j) = true := by decide +kernel
set_option maxRecDepth 100000 in
theorem ckM_19 : ∀ j, j < 10 → ckM (191 + j) = true := by decide +kernel
set_option maxRecDepth 100000 in
theorem ckM_20 : ∀ j, j < 10 → ckM (201 + j) = true := by decide +kernel
set_option maxRecDepth 100000 in
theorem ckM_21 : ∀ j, j < 10 → ckM (211 + j) = true := by decide +kernel
set_option maxRecDepth 100000 in
theorem ckM_22 : ∀ j, j < 10 → ckM (221 + j) = true := by decide +kernel
set_option maxRecDepth 100000 in
theorem ckM_23 : ∀ j, j < 10 → ckM (231 + j) = true := by decide +kernel
set_option maxRecDepth 100000 in
theorem ckM_24 : ∀ j, j < 10 → ckM (241 + j) = true := by decide +kernel
set_option maxRecDepth 100000 in
theorem ckM_25 : ∀ j, j < 10 → ckM (251 + j) = true := by decide +kernel
set_option maxRecDepth 100000 in
theorem ckM_26 : ∀ j, j < 10 → ckM (261 + j) = true := by decide +kernel
set_option maxRecDepth 100000 in
theorem ckM_27 : ∀ j, j < 10 → ckM (271 + j) = true := by decide +kernel
set_option maxRecDepth 100000 in
theorem ckM_28 : ∀ j, j < 10 → ckM (281 + j) = true := by decide +kernel
set_option maxRecDepth 100000 in
theorem ckM_29 : ∀ j, j < 10 → ckM (291 + j) = true := by decide +kernel
set_option maxRecDepth 100000 in
theorem ckM_30 : ∀ j, j < 10 → ckM (301 + j) = true := by decide +kernel
