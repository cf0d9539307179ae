/-! ENTRIES and their checks: printed by a program (wip/ai). -/
theorem ks147_0 : aseg kS krf kB [kE135, kE136, kE137, kE138, kE139, kE140, kE141, kE142, kE143, kE144, kE145, kE146] (ksp [(111, 0, 1, 0, 59, 0)]) kE147 [kC147_0, kC147_1, kC147_2, kC147_3, kC147_4, kC147_5, kC147_6, kC147_7, kC147_8, kC147_9, kC147_10, kC147_11, kC147_12, kC147_13, kC147_14, kC147_15, kC147_16, kC147_17, kC147_18, kC147_19, kC147_20, kC147_21, kC147_22, kC147_23, kC147_24, kC147_25, kC147_26, kC147_27, kC147_28, kC147_29, kC147_30, kC147_31, kC147_32, kC147_33, kC147_34, kC147_35] 30000 (some kC147_0) = true := by decide +kernel
theorem ks147_1 : aseg kS krf kB [kE135, kE136, kE137, kE138, kE139, kE140, kE141, kE142, kE143, kE144, kE145, kE146] (ksp [(111, 0, 1, 0, 59, 0)]) kE147 [kC147_0, kC147_1, kC147_2, kC147_3, kC147_4, kC147_5, kC147_6, kC147_7, kC147_8, kC147_9, kC147_10, kC147_11, kC147_12, kC147_13, kC147_14, kC147_15, kC147_16, kC147_17, kC147_18, kC147_19, kC147_20, kC147_21, kC147_22, kC147_23, kC147_24, kC147_25, kC147_26, kC147_27, kC147_28, kC147_29, kC147_30, kC147_31, kC147_32, kC147_33, kC147_34, kC147_35] 30000 (some kC147_1) = true := by decide +kernel
theorem ks147_2 : aseg kS krf kB [kE135, kE136, kE137, kE138, kE139, kE140, kE141, kE142, kE143, kE144, kE145, kE146] (ksp [(111, 0, 1, 0, 59, 0)]) kE147 [kC147_0, kC147_1, kC147_2, kC147_3, kC147_4, kC147_5, kC147_6, kC147_7, kC147_8, kC147_9, kC147_10, kC147_11, kC147_12, kC147_13, kC147_14, kC147_15, kC147_16, kC147_17, kC147_18, kC147_19, kC147_20, kC147_21, kC147_22, kC147_23, kC147_24, kC147_25, kC147_26, kC147_27, kC147_28, kC147_29, kC147_30, kC147_31, kC147_32, kC147_33, kC147_34, kC147_35] 30000 (some kC147_2) = true := by decide +kernel
theorem ks147_3 : aseg kS krf kB [kE135, kE136, kE137, kE138, kE139, kE140, kE141, kE142, kE143, kE144, kE145, kE146] (ksp [(111, 0, 1, 0, 59, 0)]) kE147 [kC147_0, kC147_1, kC147_2, kC147_3, kC147_4, kC147_5, kC147_6, kC147_7, kC147_8, kC147_9, kC147_10, kC147_11, kC147_12, kC147_13, kC147_14, kC147_15, kC147_16, kC147_17, kC147_18, kC147_19, kC147_20, kC147_21, kC147_22, kC147_23, kC147_24, kC147_25, kC147_26, kC147_27, kC147_28, kC147_29, kC147_30, kC147_31, kC147_32, kC147_33, kC147_34, kC147_35] 30000 (some kC147_3) = true := by decide +kernel
theorem ks147_4 : aseg kS krf kB [kE135, kE136, kE137, kE138, kE139, kE140, kE141, kE142, kE143, kE144, kE145, kE146] (ksp [(111, 0, 1, 0, 59, 0)]) kE147 [kC147_0, kC147_1, kC147_2, kC147_3, kC147_4, kC147_5, kC147_6, kC147_7, kC147_8, kC147_9, kC147_10, kC147_11, kC147_12, kC147_13, kC147_14, kC147_15, kC147_16, kC147_17, kC147_18, kC147_19, kC147_20, kC147_21, kC147_22, kC147_23, kC147_24, kC147_25, kC147_26, kC147_27, kC147_28, kC147_29, kC147_30, kC147_31, kC147_32, kC147_33, kC147_34, kC147_35] 30000 (some kC147_4) = true := by decide +kernel
theorem ks147_5 : aseg kS krf kB [kE135, kE136, kE137, kE138, kE139, kE140, kE141, kE142, kE143, kE144, kE145, kE146] (ksp [(111, 0, 1, 0, 59, 0)]) kE147 [kC147_0, kC147_1, kC147_2, kC147_3, kC147_4, kC147_5, kC147_6, kC147_7, kC147_8, kC147_9, kC147_10, kC147_11, kC147_12, kC147_13, kC147_14, kC147_15, kC147_16, kC147_17, kC147_18, kC147_19, kC147_20, kC147_21, kC147_22, kC147_23, kC147_24, kC147_25, kC147_26, kC147_27, kC147_28, kC147_29, kC147_30, kC147_31, kC147_32, kC147_33, kC147_34, kC147_35] 30000 (some kC147_5) = true := by decide +kernel
theorem ks147_6 : aseg kS krf kB [kE135, kE136, kE137, kE138, kE139, kE140, kE141, kE142, kE143, kE144, kE145, kE146] (ksp [(111, 0, 1, 0, 59, 0)]) kE147 [kC147_0, kC147_1, kC147_2, kC147_3, kC147_4, kC147_5, kC147_6, kC147_7, kC147_8, kC147_9, kC147_10, kC147_11, kC147_12, kC147_13, kC147_14, kC147_15, kC147_16, kC147_17, kC147_18, kC147_19, kC147_20, kC147_21, kC147_22, kC147_23, kC147_24, kC147_25, kC147_26, kC147_27, kC147_28, kC147_29, kC147_30, kC147_31, kC147_32, kC147_33, kC147_34, kC147_35] 30000 (some kC147_6) = true := by decide +kernel
theorem ks147_7 : aseg kS krf kB [kE135, kE136, kE137, kE138, kE139, kE140, kE141, kE142, kE143, kE144, kE145, kE146] (ksp [(111, 0, 1, 0, 59, 0)]) kE147 [kC147_0, kC147_1, kC147_2, kC147_3, kC147_4, kC147_5, kC147_6, kC147_7, kC147_8, kC147_9, kC147_10, kC147_11, kC147_12, kC147_13, kC147_14, kC147_15, kC147_16, kC147_17, kC147_18, kC147_19, kC147_20, kC147_21, kC147_22, kC147_23, kC147_24, kC147_25, kC147_26, kC147_27, kC147_28, kC147_29, kC147_30, kC147_31, kC147_32, kC147_33, kC147_34, kC147_35] 30000 (some kC147_7) = true := by decide +kernel
theorem ks147_8 : aseg kS krf kB [kE135, kE136, kE137, kE138, kE139, kE140, kE141, kE142, kE143, kE144, kE145, kE146] (ksp [(111, 0, 1, 0, 59, 0)]) kE147 [kC147_0, kC147_1, kC147_2, kC147_3, kC147_4, kC147_5, kC147_6, kC147_7, kC147_8, kC147_9, kC147_10, kC147_11, kC147_12, kC147_13, kC147_14, kC147_15, kC147_16, kC147_17, kC147_18, kC147_19, kC147_20, kC147_21, kC147_22, kC147_23, kC147_24, kC147_25, kC147_26, kC147_27, kC147_28, kC147_29, kC147_30, kC147_31, kC147_32, kC147_33, kC147_34, kC147_35] 30000 (some kC147_8) = true := by decide +kernel
theorem ks147_9 : aseg kS krf kB [kE135, kE136, kE137, kE138, kE139, kE140, kE141, kE142, kE143, kE144, kE145, kE146] (ksp [(111, 0, 1, 0, 59, 0)]) kE147 [kC147_0, kC147_1, kC147_2, kC147_3, kC147_4, kC147_5, kC147_6, kC147_7, kC147_8, kC147_9, kC147_10, kC147_11, kC147_12, kC147_13, kC147_14, kC147_15, kC147_16, kC147_17, kC147_18, kC147_19, kC147_20, kC147_21, kC147_22, kC147_23, kC147_24, kC147_25, kC147_26, kC147_27, kC147_28, kC147_29, kC147_30, kC147_31, kC147_32, kC147_33, kC147_34, kC147_35] 30000 (some kC147_9) = true := by decide +kernel
theorem ks147_10 : aseg kS krf kB [kE135, kE136, kE137, kE138, kE139, kE140, kE141, kE142, kE143, kE144, kE145, kE146] (ksp [(111, 0, 1, 0, 59, 0)]) kE147 [kC147_0, kC147_1, kC147_2, kC147_3, kC147_4, kC147_5, kC147_6, kC147_7, kC147_8, kC147_9, kC147_10, kC147_11, kC147_12, kC147_13, kC147_14, kC147_15, kC147_16, kC147_17, kC147_18, kC147_19, kC147_20, kC147_21, kC147_22, kC147_23, kC147_24, kC147_25, kC147_26, kC147_27, kC147_28, kC147_29, kC147_30, kC147_31, kC147_32, kC147_33, kC147_34, kC147_35] 30000 (some kC147_10) = true := by decide +kernel
theorem ks147_11 : aseg kS krf kB [kE135, kE136, kE137, kE138, kE139, kE140, kE141, kE142, kE143, kE144, kE145, kE146] (ksp [(111, 0, 1, 0, 59, 0)]) kE147 [kC147_0, kC147_1, kC147_2, kC147_3, kC147_4, kC147_5, kC147_6, kC147_7, kC147_8, kC147_9, kC147_10, kC147_11, kC147_12, kC147_13, kC147_14, kC147_15, kC147_16, kC147_17, kC147_18, kC147_19, kC147_20, kC147_21, kC147_22, kC147_23, kC147_24, kC147_25, kC147_26, kC147_27, kC147_28, kC147_29, kC147_30, kC147_31, kC147_32, kC147_33, kC147_34, kC147_35] 30000 (some kC147_11) = true := by decide +kernel
theorem ks147_12 : aseg kS krf kB [kE135, kE136, kE137, kE138, kE139, kE140, kE141, kE142, kE143, kE144, kE145, kE146] (ksp [(111, 0, 1, 0, 59, 0)]) kE147 [kC147_0, kC147_1, kC147_2, kC147_3, kC147_4, kC147_5, kC147_6, kC147_7, kC147_8, kC147_9, kC147_10, kC147_11, kC147_12, kC147_13, kC147_14, kC147_15, kC147_16, kC147_17, kC147_18, kC147_19, kC147_20, kC147_21, kC147_22, kC147_23, kC147_24, kC147_25, kC147_26, kC147_27, kC147_28, kC147_29, kC147_30, kC147_31, kC147_32, kC147_33, kC147_34, kC147_35] 30000 (some kC147_12) = true := by decide +kernel
theorem ks147_13 : aseg kS krf kB [kE135, kE136, kE137, kE138, kE139, kE140, kE141, kE142, kE143, kE144, kE145, kE146] (ksp [(111, 0, 1, 0, 59, 0)]) kE147 [kC147_0, kC147_1, kC147_2, kC147_3, kC147_4, kC147_5, kC147_6, kC147_7, kC147_8, kC147_9, kC147_10, kC147_11, kC147_12, kC147_13, kC147_14, kC147_15, kC147_16, kC147_17, kC147_18, kC147_19, kC147_20, kC147_21, kC147_22, kC147_23, kC147_24, kC147_25, kC147_26, kC147_27, kC147_28, kC147_29, kC147_30, kC147_31, kC147_32, kC147_33, kC147_34, kC147_35] 30000 (some kC147_13) = true := by decide +kernel
theorem ks147_14 : aseg kS krf kB [kE135, kE136, kE137, kE138, kE139, kE140, kE141, kE142, kE143, kE144, kE145, kE146] (ksp [(111, 0, 1, 0, 59, 0)]) kE147 [kC147_0, kC147_1, kC147_2, kC147_3, kC147_4, kC147_5, kC147_6, kC147_7, kC147_8, kC147_9, kC147_10, kC147_11, kC147_12, kC147_13, kC147_14, kC147_15, kC147_16, kC147_17, kC147_18, kC147_19, kC147_20, kC147_21, kC147_22, kC147_23, kC147_24, kC147_25, kC147_26, kC147_27, kC147_28, kC147_29, kC147_30, kC147_31, kC147_32, kC147_33, kC147_34, kC147_35] 30000 (some kC147_14) = true := by decide +kernel
theorem ks147_15 : aseg kS krf kB [kE135, kE136, kE137, kE138, kE139, kE140, kE141, kE142, kE143, kE144, kE145, kE146] (ksp [(111, 0, 1, 0, 59, 0)]) kE147 [kC147_0, kC147_1, kC147_2, kC147_3, kC147_4, kC147_5, kC147_6, kC147_7, kC147_8, kC147_9, kC147_10, kC147_11, kC147_12, kC147_13, kC147_14, kC147_15, kC147_16, kC147_17, kC147_18, kC147_19, kC147_20, kC147_21, kC147_22, kC147_23, kC147_24, kC147_25, kC147_26, kC147_27, kC147_28, kC147_29, kC147_30, kC147_31, kC147_32, kC147_33, kC147_34, kC147_35] 30000 (some kC147_15) = true := by decide +kernel
theorem ks147_16 : aseg kS krf kB [kE135, kE136, kE137, kE138, kE139, kE140, kE141, kE142, kE143, kE144, kE145, kE146] (ksp [(111, 0, 1, 0, 59, 0)]) kE147 [kC147_0, kC147_1, kC147_2, kC147_3, kC147_4, kC147_5, kC147_6, kC147_7, kC147_8, kC147_9, kC147_10, kC147_11, kC147_12, kC147_13, kC147_14, kC147_15, kC147_16, kC147_17, kC147_18, kC147_19, kC147_20, kC147_21, kC147_22, kC147_23, kC147_24, kC147_25, kC147_26, kC147_27, kC147_28, kC147_29, kC147_30, kC147_31, kC147_32, kC147_33, kC147_34, kC147_35] 30000 (some kC147_16) = true := by decide +kernel
theorem ks147_17 : aseg kS krf kB [kE135, kE136, kE137, kE138, kE139, kE140, kE141, kE142, kE143, kE144, kE145, kE146] (ksp [(111, 0, 1, 0, 59, 0)]) kE147 [kC147_0, kC147_1, kC147_2, kC147_3, kC147_4, kC147_5, kC147_6, kC147_7, kC147_8, kC147_9, kC147_10, kC147_11, kC147_12, kC147_13, kC147_14, kC147_15, kC147_16, kC147_17, kC147_18, kC147_19, kC147_20, kC147_21, kC147_22, kC147_23, kC147_24, kC147_25, kC147_26, kC147_27, kC147_28, kC147_29, kC147_30, kC147_31, kC147_32, kC147_33, kC147_34, kC147_35] 30000 (some kC147_17) = true := by decide +kernel
theorem ks147_18 : aseg kS krf kB [kE135, kE136, kE137, kE138, kE139, kE140, kE141, kE142, kE143, kE144, kE145, kE146] (ksp [(111, 0, 1, 0, 59, 0)]) kE147 [kC147_0, kC147_1, kC147_2, kC147_3, kC147_4, kC147_5, kC147_6, kC147_7, kC147_8, kC147_9, kC147_10, kC147_11, kC147_12, kC147_13, kC147_14, kC147_15, kC147_16, kC147_17, kC147_18, kC147_19, kC147_20, kC147_21, kC147_22, kC147_23, kC147_24, kC147_25, kC147_26, kC147_27, kC147_28, kC147_29, kC147_30, kC147_31, kC147_32, kC147_33, kC147_34, kC147_35] 30000 (some kC147_18) = true := by decide +kernel
theorem ks147_19 : aseg kS krf kB [kE135, kE136, kE137, kE138, kE139, kE140, kE141, kE142, kE143, kE144, kE145, kE146] (ksp [(111, 0, 1, 0, 59, 0)]) kE147 [kC147_0, kC147_1, kC147_2, kC147_3, kC147_4, kC147_5, kC147_6, kC147_7, kC147_8, kC147_9, kC147_10, kC147_11, kC147_12, kC147_13, kC147_14, kC147_15, kC147_16, kC147_17, kC147_18, kC147_19, kC147_20, kC147_21, kC147_22, kC147_23, kC147_24, kC147_25, kC147_26, kC147_27, kC147_28, kC147_29, kC147_30, kC147_31, kC147_32, kC147_33, kC147_34, kC147_35] 30000 (some kC147_19) = true := by decide +kernel
theorem ks147_20 : aseg kS krf kB [kE135, kE136, kE137, kE138, kE139, kE140, kE141, kE142, kE143, kE144, kE145, kE146] (ksp [(111, 0, 1, 0, 59, 0)]) kE147 [kC147_0, kC147_1, kC147_2, kC147_3, kC147_4, kC147_5, kC147_6, kC147_7, kC147_8, kC147_9, kC147_10, kC147_11, kC147_12, kC147_13, kC147_14, kC147_15, kC147_16, kC147_17, kC147_18, kC147_19, kC147_20, kC147_21, kC147_22, kC147_23, kC147_24, kC147_25, kC147_26, kC147_27, kC147_28, kC147_29, kC147_30, kC147_31, kC147_32, kC147_33, kC147_34, kC147_35] 30000 (some kC147_20) = true := by decide +kernel
theorem ks147_21 : aseg kS krf kB [kE135, kE136, kE137, kE138, kE139, kE140, kE141, kE142, kE143, kE144, kE145, kE146] (ksp [(111, 0, 1, 0, 59, 0)]) kE147 [kC147_0, kC147_1, kC147_2, kC147_3, kC147_4, kC147_5, kC147_6, kC147_7, kC147_8, kC147_9, kC147_10, kC147_11, kC147_12, kC147_13, kC147_14, kC147_15, kC147_16, kC147_17, kC147_18, kC147_19, kC147_20, kC147_21, kC147_22, kC147_23, kC147_24, kC147_25, kC147_26, kC147_27, kC147_28, kC147_29, kC147_30, kC147_31, kC147_32, kC147_33, kC147_34, kC147_35] 30000 (some kC147_21) = true := by decide +kernel
theorem ks147_22 : aseg kS krf kB [kE135, kE136, kE137, kE138, kE139, kE140, kE141, kE142, kE143, kE144, kE145, kE146] (ksp [(111, 0, 1, 0, 59, 0)]) kE147 [kC147_0, kC147_1, kC147_2, kC147_3, kC147_4, kC147_5, kC147_6, kC147_7, kC147_8, kC147_9, kC147_10, kC147_11, kC147_12, kC147_13, kC147_14, kC147_15, kC147_16, kC147_17, kC147_18, kC147_19, kC147_20, kC147_21, kC147_22, kC147_23, kC147_24, kC147_25, kC147_26, kC147_27, kC147_28, kC147_29, kC147_30, kC147_31, kC147_32, kC147_33, kC147_34, kC147_35] 30000 (some kC147_22) = true := by decide +kernel
theorem ks147_23 : aseg kS krf kB [kE135, kE136, kE137, kE138, kE139, kE140, kE141, kE142, kE143, kE144, kE145, kE146] (ksp [(111, 0, 1, 0, 59, 0)]) kE147 [kC147_0, kC147_1, kC147_2, kC147_3, kC147_4, kC147_5, kC147_6, kC147_7, kC147_8, kC147_9, kC147_10, kC147_11, kC147_12, kC147_13, kC147_14, kC147_15, kC147_16, kC147_17, kC147_18, kC147_19, kC147_20, kC147_21, kC147_22, kC147_23, kC147_24, kC147_25, kC147_26, kC147_27, kC147_28, kC147_29, kC147_30, kC147_31, kC147_32, kC147_33, kC147_34, kC147_35] 30000 (some kC147_23) = true := by decide +kernel
theorem ks147_24 : aseg kS krf kB [kE135, kE136, kE137, kE138, kE139, kE140, kE141, kE142, kE143, kE144, kE145, kE146] (ksp [(111, 0, 1, 0, 59, 0)]) kE147 [kC147_0, kC147_1, kC147_2, kC147_3, kC147_4, kC147_5, kC147_6, kC147_7, kC147_8, kC147_9, kC147_10, kC147_11, kC147_12, kC147_13, kC147_14, kC147_15, kC147_16, kC147_17, kC147_18, kC147_19, kC147_20, kC147_21, kC147_22, kC147_23, kC147_24, kC147_25, kC147_26, kC147_27, kC147_28, kC147_29, kC147_30, kC147_31, kC147_32, kC147_33, kC147_34, kC147_35] 30000 (some kC147_24) = true := by decide +kernel
theorem ks147_25 : aseg kS krf kB [kE135, kE136, kE137, kE138, kE139, kE140, kE141, kE142, kE143, kE144, kE145, kE146] (ksp [(111, 0, 1, 0, 59, 0)]) kE147 [kC147_0, kC147_1, kC147_2, kC147_3, kC147_4, kC147_5, kC147_6, kC147_7, kC147_8, kC147_9, kC147_10, kC147_11, kC147_12, kC147_13, kC147_14, kC147_15, kC147_16, kC147_17, kC147_18, kC147_19, kC147_20, kC147_21, kC147_22, kC147_23, kC147_24, kC147_25, kC147_26, kC147_27, kC147_28, kC147_29, kC147_30, kC147_31, kC147_32, kC147_33, kC147_34, kC147_35] 30000 (some kC147_25) = true := by decide +kernel
theorem ks147_26 : aseg kS krf kB [kE135, kE136, kE137, kE138, kE139, kE140, kE141, kE142, kE143, kE144, kE145, kE146] (ksp [(111, 0, 1, 0, 59, 0)]) kE147 [kC147_0, kC147_1, kC147_2, kC147_3, kC147_4, kC147_5, kC147_6, kC147_7, kC147_8, kC147_9, kC147_10, kC147_11, kC147_12, kC147_13, kC147_14, kC147_15, kC147_16, kC147_17, kC147_18, kC147_19, kC147_20, kC147_21, kC147_22, kC147_23, kC147_24, kC147_25, kC147_26, kC147_27, kC147_28, kC147_29, kC147_30, kC147_31, kC147_32, kC147_33, kC147_34, kC147_35] 30000 (some kC147_26) = true := by decide +kernel
theorem ks147_27 : aseg kS krf kB [kE135, kE136, kE137, kE138, kE139, kE140, kE141, kE142, kE143, kE144, kE145, kE146] (ksp [(111, 0, 1, 0, 59, 0)]) kE147 [kC147_0, kC147_1, kC147_2, kC147_3, kC147_4, kC147_5, kC147_6, kC147_7, kC147_8, kC147_9, kC147_10, kC147_11, kC147_12, kC147_13, kC147_14, kC147_15, kC147_16, kC147_17, kC147_18, kC147_19, kC147_20, kC147_21, kC147_22, kC147_23, kC147_24, kC147_25, kC147_26, kC147_27, kC147_28, kC147_29, kC147_30, kC147_31, kC147_32, kC147_33, kC147_34, kC147_35] 30000 (some kC147_27) = true := by decide +kernel
theorem ks147_28 : aseg kS krf kB [kE135, kE136, kE137, kE138, kE139, kE140, kE141, kE142, kE143, kE144, kE145, kE146] (ksp [(111, 0, 1, 0, 59, 0)]) kE147 [kC147_0, kC147_1, kC147_2, kC147_3, kC147_4, kC147_5, kC147_6, kC147_7, kC147_8, kC147_9, kC147_10, kC147_11, kC147_12, kC147_13, kC147_14, kC147_15, kC147_16, kC147_17, kC147_18, kC147_19, kC147_20, kC147_21, kC147_22, kC147_23, kC147_24, kC147_25, kC147_26, kC147_27, kC147_28, kC147_29, kC147_30, kC147_31, kC147_32, kC147_33, kC147_34, kC147_35] 30000 (some kC147_28) = true := by decide +kernel
theorem ks147_29 : aseg kS krf kB [kE135, kE136, kE137, kE138, kE139, kE140, kE141, kE142, kE143, kE144, kE145, kE146] (ksp [(111, 0, 1, 0, 59, 0)]) kE147 [kC147_0, kC147_1, kC147_2, kC147_3, kC147_4, kC147_5, kC147_6, kC147_7, kC147_8, kC147_9, kC147_10, kC147_11, kC147_12, kC147_13, kC147_14, kC147_15, kC147_16, kC147_17, kC147_18, kC147_19, kC147_20, kC147_21, kC147_22, kC147_23, kC147_24, kC147_25, kC147_26, kC147_27, kC147_28, kC147_29, kC147_30, kC147_31, kC147_32, kC147_33, kC147_34, kC147_35] 30000 (some kC147_29) = true := by decide +kernel
theorem ks147_30 : aseg kS krf kB [kE135, kE136, kE137, kE138, kE139, kE140, kE141, kE142, kE143, kE144, kE145, kE146] (ksp [(111, 0, 1, 0, 59, 0)]) kE147 [kC147_0, kC147_1, kC147_2, kC147_3, kC147_4, kC147_5, kC147_6, kC147_7, kC147_8, kC147_9, kC147_10, kC147_11, kC147_12, kC147_13, kC147_14, kC147_15, kC147_16, kC147_17, kC147_18, kC147_19, kC147_20, kC147_21, kC147_22, kC147_23, kC147_24, kC147_25, kC147_26, kC147_27, kC147_28, kC147_29, kC147_30, kC147_31, kC147_32, kC147_33, kC147_34, kC147_35] 30000 (some kC147_30) = true := by decide +kernel
theorem ks147_31 : aseg kS krf kB [kE135, kE136, kE137, kE138, kE139, kE140, kE141, kE142, kE143, kE144, kE145, kE146] (ksp [(111, 0, 1, 0, 59, 0)]) kE147 [kC147_0, kC147_1, kC147_2, kC147_3, kC147_4, kC147_5, kC147_6, kC147_7, kC147_8, kC147_9, kC147_10, kC147_11, kC147_12, kC147_13, kC147_14, kC147_15, kC147_16, kC147_17, kC147_18, kC147_19, kC147_20, kC147_21, kC147_22, kC147_23, kC147_24, kC147_25, kC147_26, kC147_27, kC147_28, kC147_29, kC147_30, kC147_31, kC147_32, kC147_33, kC147_34, kC147_35] 30000 (some kC147_31) = true := by decide +kernel
theorem ks147_32 : aseg kS krf kB [kE135, kE136, kE137, kE138, kE139, kE140, kE141, kE142, kE143, kE144, kE145, kE146] (ksp [(111, 0, 1, 0, 59, 0)]) kE147 [kC147_0, kC147_1, kC147_2, kC147_3, kC147_4, kC147_5, kC147_6, kC147_7, kC147_8, kC147_9, kC147_10, kC147_11, kC147_12, kC147_13, kC147_14, kC147_15, kC147_16, kC147_17, kC147_18, kC147_19, kC147_20, kC147_21, kC147_22, kC147_23, kC147_24, kC147_25, kC147_26, kC147_27, kC147_28, kC147_29, kC147_30, kC147_31, kC147_32, kC147_33, kC147_34, kC147_35] 30000 (some kC147_32) = true := by decide +kernel
theorem ks147_33 : aseg kS krf kB [kE135, kE136, kE137, kE138, kE139, kE140, kE141, kE142, kE143, kE144, kE145, kE146] (ksp [(111, 0, 1, 0, 59, 0)]) kE147 [kC147_0, kC147_1, kC147_2, kC147_3, kC147_4, kC147_5, kC147_6, kC147_7, kC147_8, kC147_9, kC147_10, kC147_11, kC147_12, kC147_13, kC147_14, kC147_15, kC147_16, kC147_17, kC147_18, kC147_19, kC147_20, kC147_21, kC147_22, kC147_23, kC147_24, kC147_25, kC147_26, kC147_27, kC147_28, kC147_29, kC147_30, kC147_31, kC147_32, kC147_33, kC147_34, kC147_35] 30000 (some kC147_33) = true := by decide +kernel
theorem ks147_34 : aseg kS krf kB [kE135, kE136, kE137, kE138, kE139, kE140, kE141, kE142, kE143, kE144, kE145, kE146] (ksp [(111, 0, 1, 0, 59, 0)]) kE147 [kC147_0, kC147_1, kC147_2, kC147_3, kC147_4, kC147_5, kC147_6, kC147_7, kC147_8, kC147_9, kC147_10, kC147_11, kC147_12, kC147_13, kC147_14, kC147_15, kC147_16, kC147_17, kC147_18, kC147_19, kC147_20, kC147_21, kC147_22, kC147_23, kC147_24, kC147_25, kC147_26, kC147_27, kC147_28, kC147_29, kC147_30, kC147_31, kC147_32, kC147_33, kC147_34, kC147_35] 30000 (some kC147_34) = true := by decide +kernel
theorem ks147_35 : aseg kS krf kB [kE135, kE136, kE137, kE138, kE139, kE140, kE141, kE142, kE143, kE144, kE145, kE146] (ksp [(111, 0, 1, 0, 59, 0)]) kE147 [kC147_0, kC147_1, kC147_2, kC147_3, kC147_4, kC147_5, kC147_6, kC147_7, kC147_8, kC147_9, kC147_10, kC147_11, kC147_12, kC147_13, kC147_14, kC147_15, kC147_16, kC147_17, kC147_18, kC147_19, kC147_20, kC147_21, kC147_22, kC147_23, kC147_24, kC147_25, kC147_26, kC147_27, kC147_28, kC147_29, kC147_30, kC147_31, kC147_32, kC147_33, kC147_34, kC147_35] 30000 (some kC147_35) = true := by decide +kernel
theorem kok147 : aOK kS krf kB kE147 := aOK_of (kal1 kok135 (kal1 kok136 (kal1 kok137 (kal1 kok138 (kal1 kok139 (kal1 kok140 (kal1 kok141 (kal1 kok142 (kal1 kok143 (kal1 kok144 (kal1 kok145 (kal1 kok146 kal0)))))))))))) (kcl1 ks147_0 (kcl1 ks147_1 (kcl1 ks147_2 (kcl1 ks147_3 (kcl1 ks147_4 (kcl1 ks147_5 (kcl1 ks147_6 (kcl1 ks147_7 (kcl1 ks147_8 (kcl1 ks147_9 (kcl1 ks147_10 (kcl1 ks147_11 (kcl1 ks147_12 (kcl1 ks147_13 (kcl1 ks147_14 (kcl1 ks147_15 (kcl1 ks147_16 (kcl1 ks147_17 (kcl1 ks147_18 (kcl1 ks147_19 (kcl1 ks147_20 (kcl1 ks147_21 (kcl1 ks147_22 (kcl1 ks147_23 (kcl1 ks147_24 (kcl1 ks147_25 (kcl1 ks147_26 (kcl1 ks147_27 (kcl1 ks147_28 (kcl1 ks147_29 (kcl1 ks147_30 (kcl1 ks147_31 (kcl1 ks147_32 (kcl1 ks147_33 (kcl1 ks147_34 (kcl1 ks147_35 kcl0)))))))))))))))))))))))))))))))))))) ks147
/-- ColdShodModel.rowsAre(I)I -/
def kE148 : aE := (203, 2, ([], [], 0, [kvR 102, kvN 59], []), ([], none), ([(.negSucc 0, .negSucc 0)], [], kvI 0, ([], [])), kvW0)
theorem ks148 : aseg kS krf kB [] (ksp []) kE148 [] 30000 (none) = true := by decide +kernel
theorem kok148 : aOK kS krf kB kE148 := aOK_of kal0 kcl0 ks148
/-- ColdShodModel.rowsAre(I)I -/
def kE149 : aE := (203, 2, ([], [], 0, [kvR 102, kvN 58], []), ([], none), ([(.negSucc 0, .negSucc 0)], [], kvI 0, ([], [])), kvW0)
theorem ks149 : aseg kS krf kB [] (ksp []) kE149 [] 30000 (none) = true := by decide +kernel
theorem kok149 : aOK kS krf kB kE149 := aOK_of kal0 kcl0 ks149
/-- ColdShodModel.rowsAre(I)I -/
def kE150 : aE := (203, 2, ([], [], 0, [kvR 102, kvN 57], []), ([], none), ([(.negSucc 0, .negSucc 0)], [], kvI 0, ([], [])), kvW0)
theorem ks150 : aseg kS krf kB [] (ksp []) kE150 [] 30000 (none) = true := by decide +kernel
theorem kok150 : aOK kS krf kB kE150 := aOK_of kal0 kcl0 ks150
/-- ColdShodModel.rowsAre(I)I -/
def kE151 : aE := (203, 2, ([], [], 0, [kvR 102, kvN 56], []), ([], none), ([(.negSucc 0, .negSucc 0)], [], kvI 0, ([], [])), kvW0)
theorem ks151 : aseg kS krf kB [] (ksp []) kE151 [] 30000 (none) = true := by decide +kernel
theorem kok151 : aOK kS krf kB kE151 := aOK_of kal0 kcl0 ks151
/-- ColdShodModel.rowsAre(I)I -/
def kE152 : aE := (203, 3, ([], [], 0, [kvR 102, kvN 55], []), ([], none), ([(.negSucc 11, .ofNat 1)], [], kvI 0, ([], [])), kvW0)
theorem ks152 : aseg kS krf kB [] (ksp []) kE152 [] 30000 (none) = true := by decide +kernel
theorem kok152 : aOK kS krf kB kE152 := aOK_of kal0 kcl0 ks152
/-- ColdShodModel.rowsAre(I)I -/
def kE153 : aE := (203, 3, ([], [], 0, [kvR 102, kvN 54], []), ([], none), ([(.negSucc 11, .ofNat 1)], [], kvI 0, ([], [])), kvW0)
theorem ks153 : aseg kS krf kB [] (ksp []) kE153 [] 30000 (none) = true := by decide +kernel
theorem kok153 : aOK kS krf kB kE153 := aOK_of kal0 kcl0 ks153
/-- ColdShodModel.rowsAre(I)I -/
def kE154 : aE := (203, 3, ([], [], 0, [kvR 102, kvN 53], []), ([], none), ([(.negSucc 11, .ofNat 1)], [], kvI 0, ([], [])), kvW0)
theorem ks154 : aseg kS krf kB [] (ksp []) kE154 [] 30000 (none) = true := by decide +kernel
theorem kok154 : aOK kS krf kB kE154 := aOK_of kal0 kcl0 ks154
/-- ColdShodModel.rowsAre(I)I -/
def kE155 : aE := (203, 3, ([], [], 0, [kvR 102, kvN 52], []), ([], none), ([(.negSucc 11, .ofNat 1)], [], kvI 0, ([], [])), kvW0)
theorem ks155 : aseg kS krf kB [] (ksp []) kE155 [] 30000 (none) = true := by decide +kernel
theorem kok155 : aOK kS krf kB kE155 := aOK_of kal0 kcl0 ks155
/-- ColdShodModel.rowsAre(I)I -/
def kE156 : aE := (203, 3, ([], [], 0, [kvR 102, kvN 51], []), ([], none), ([(.negSucc 11, .ofNat 1)], [], kvI 0, ([], [])), kvW0)
theorem ks156 : aseg kS krf kB [] (ksp []) kE156 [] 30000 (none) = true := by decide +kernel
theorem kok156 : aOK kS krf kB kE156 := aOK_of kal0 kcl0 ks156
/-- ColdShodModel.rowsAre(I)I -/
def kE157 : aE := (203, 3, ([], [], 0, [kvR 102, kvN 50], []), ([], none), ([(.negSucc 11, .ofNat 1)], [], kvI 0, ([], [])), kvW0)
theorem ks157 : aseg kS krf kB [] (ksp []) kE157 [] 30000 (none) = true := by decide +kernel
theorem kok157 : aOK kS krf kB kE157 := aOK_of kal0 kcl0 ks157
/-- ColdShodModel.rowsAre(I)I -/
def kE158 : aE := (203, 2, ([], [], 0, [kvR 102, kvN 49], []), ([], none), ([(.negSucc 0, .negSucc 0)], [], kvI 0, ([], [])), kvW0)
theorem ks158 : aseg kS krf kB [] (ksp []) kE158 [] 30000 (none) = true := by decide +kernel
theorem kok158 : aOK kS krf kB kE158 := aOK_of kal0 kcl0 ks158
/-- ColdShodModel.rowsAre(I)I -/
def kE159 : aE := (203, 2, ([], [], 0, [kvR 102, kvN 48], []), ([], none), ([(.negSucc 0, .negSucc 0)], [], kvI 0, ([], [])), kvW0)
theorem ks159 : aseg kS krf kB [] (ksp []) kE159 [] 30000 (none) = true := by decide +kernel
theorem kok159 : aOK kS krf kB kE159 := aOK_of kal0 kcl0 ks159
/-- ColdShodModel.rowsAre(I)I -/
def kE160 : aE := (203, 2, ([], [], 0, [kvR 102, kvN 47], []), ([], none), ([(.negSucc 0, .negSucc 0)], [], kvI 0, ([], [])), kvW0)
theorem ks160 : aseg kS krf kB [] (ksp []) kE160 [] 30000 (none) = true := by decide +kernel
theorem kok160 : aOK kS krf kB kE160 := aOK_of kal0 kcl0 ks160
/-- ColdShodModel.rowsAre(I)I -/
def kE161 : aE := (203, 2, ([], [], 0, [kvR 102, kvN 46], []), ([], none), ([(.negSucc 0, .negSucc 0)], [], kvI 0, ([], [])), kvW0)
theorem ks161 : aseg kS krf kB [] (ksp []) kE161 [] 30000 (none) = true := by decide +kernel
theorem kok161 : aOK kS krf kB kE161 := aOK_of kal0 kcl0 ks161
/-- ColdShodModel.rowsAre(I)I -/
def kE162 : aE := (203, 3, ([], [], 0, [kvR 102, kvN 45], []), ([], none), ([(.negSucc 11, .ofNat 1)], [], kvI 0, ([], [])), kvW0)
theorem ks162 : aseg kS krf kB [] (ksp []) kE162 [] 30000 (none) = true := by decide +kernel
theorem kok162 : aOK kS krf kB kE162 := aOK_of kal0 kcl0 ks162
/-- ColdShodModel.rowsAre(I)I -/
def kE163 : aE := (203, 3, ([], [], 0, [kvR 102, kvN 44], []), ([], none), ([(.negSucc 11, .ofNat 1)], [], kvI 0, ([], [])), kvW0)
theorem ks163 : aseg kS krf kB [] (ksp []) kE163 [] 30000 (none) = true := by decide +kernel
theorem kok163 : aOK kS krf kB kE163 := aOK_of kal0 kcl0 ks163
/-- ColdShodModel.rowsAre(I)I -/
def kE164 : aE := (203, 3, ([], [], 0, [kvR 102, kvN 43], []), ([], none), ([(.negSucc 11, .ofNat 1)], [], kvI 0, ([], [])), kvW0)
theorem ks164 : aseg kS krf kB [] (ksp []) kE164 [] 30000 (none) = true := by decide +kernel
theorem kok164 : aOK kS krf kB kE164 := aOK_of kal0 kcl0 ks164
/-- ColdShodModel.rowsAre(I)I -/
def kE165 : aE := (203, 3, ([], [], 0, [kvR 102, kvN 42], []), ([], none), ([(.negSucc 11, .ofNat 1)], [], kvI 0, ([], [])), kvW0)
theorem ks165 : aseg kS krf kB [] (ksp []) kE165 [] 30000 (none) = true := by decide +kernel
theorem kok165 : aOK kS krf kB kE165 := aOK_of kal0 kcl0 ks165
/-- ColdShodModel.rowsAre(I)I -/
def kE166 : aE := (203, 3, ([], [], 0, [kvR 102, kvN 41], []), ([], none), ([(.negSucc 11, .ofNat 1)], [], kvI 0, ([], [])), kvW0)
theorem ks166 : aseg kS krf kB [] (ksp []) kE166 [] 30000 (none) = true := by decide +kernel
theorem kok166 : aOK kS krf kB kE166 := aOK_of kal0 kcl0 ks166
/-- ColdShodModel.rowsAre(I)I -/
def kE167 : aE := (203, 3, ([], [], 0, [kvR 102, kvN 40], []), ([], none), ([(.negSucc 11, .ofNat 1)], [], kvI 0, ([], [])), kvW0)
theorem ks167 : aseg kS krf kB [] (ksp []) kE167 [] 30000 (none) = true := by decide +kernel
theorem kok167 : aOK kS krf kB kE167 := aOK_of kal0 kcl0 ks167
/-- ColdShodModel.rowsAre(I)I -/
def kE168 : aE := (203, 2, ([], [], 0, [kvR 102, kvN 39], []), ([], none), ([(.negSucc 0, .negSucc 0)], [], kvI 0, ([], [])), kvW0)
theorem ks168 : aseg kS krf kB [] (ksp []) kE168 [] 30000 (none) = true := by decide +kernel
theorem kok168 : aOK kS krf kB kE168 := aOK_of kal0 kcl0 ks168
/-- ColdShodModel.rowsAre(I)I -/
def kE169 : aE := (203, 2, ([], [], 0, [kvR 102, kvN 38], []), ([], none), ([(.negSucc 0, .negSucc 0)], [], kvI 0, ([], [])), kvW0)
theorem ks169 : aseg kS krf kB [] (ksp []) kE169 [] 30000 (none) = true := by decide +kernel
theorem kok169 : aOK kS krf kB kE169 := aOK_of kal0 kcl0 ks169
/-- ColdShodModel.rowsAre(I)I -/
def kE170 : aE := (203, 2, ([], [], 0, [kvR 102, kvN 37], []), ([], none), ([(.negSucc 0, .negSucc 0)], [], kvI 0, ([], [])), kvW0)
theorem ks170 : aseg kS krf kB [] (ksp []) kE170 [] 30000 (none) = true := by decide +kernel
theorem kok170 : aOK kS krf kB kE170 := aOK_of kal0 kcl0 ks170
/-- ColdShodModel.rowsAre(I)I -/
def kE171 : aE := (203, 2, ([], [], 0, [kvR 102, kvN 36], []), ([], none), ([(.negSucc 0, .negSucc 0)], [], kvI 0, ([], [])), kvW0)
theorem ks171 : aseg kS krf kB [] (ksp []) kE171 [] 30000 (none) = true := by decide +kernel
theorem kok171 : aOK kS krf kB kE171 := aOK_of kal0 kcl0 ks171
/-- ColdShodModel.rowsAre(I)I -/
def kE172 : aE := (203, 3, ([], [], 0, [kvR 102, kvN 35], []), ([], none), ([(.negSucc 11, .ofNat 1)], [], kvI 0, ([], [])), kvW0)
theorem ks172 : aseg kS krf kB [] (ksp []) kE172 [] 30000 (none) = true := by decide +kernel
theorem kok172 : aOK kS krf kB kE172 := aOK_of kal0 kcl0 ks172
/-- ColdShodModel.rowsAre(I)I -/
def kE173 : aE := (203, 3, ([], [], 0, [kvR 102, kvN 34], []), ([], none), ([(.negSucc 11, .ofNat 1)], [], kvI 0, ([], [])), kvW0)
theorem ks173 : aseg kS krf kB [] (ksp []) kE173 [] 30000 (none) = true := by decide +kernel
theorem kok173 : aOK kS krf kB kE173 := aOK_of kal0 kcl0 ks173
/-- ColdShodModel.rowsAre(I)I -/
def kE174 : aE := (203, 3, ([], [], 0, [kvR 102, kvN 33], []), ([], none), ([(.negSucc 11, .ofNat 1)], [], kvI 0, ([], [])), kvW0)
theorem ks174 : aseg kS krf kB [] (ksp []) kE174 [] 30000 (none) = true := by decide +kernel
theorem kok174 : aOK kS krf kB kE174 := aOK_of kal0 kcl0 ks174
/-- ColdShodModel.rowsAre(I)I -/
def kE175 : aE := (203, 3, ([], [], 0, [kvR 102, kvN 32], []), ([], none), ([(.negSucc 11, .ofNat 1)], [], kvI 0, ([], [])), kvW0)
theorem ks175 : aseg kS krf kB [] (ksp []) kE175 [] 30000 (none) = true := by decide +kernel
theorem kok175 : aOK kS krf kB kE175 := aOK_of kal0 kcl0 ks175
/-- ColdShodModel.rowsAre(I)I -/
def kE176 : aE := (203, 3, ([], [], 0, [kvR 102, kvN 31], []), ([], none), ([(.negSucc 11, .ofNat 1)], [], kvI 0, ([], [])), kvW0)
theorem ks176 : aseg kS krf kB [] (ksp []) kE176 [] 30000 (none) = true := by decide +kernel
theorem kok176 : aOK kS krf kB kE176 := aOK_of kal0 kcl0 ks176
/-- ColdShodModel.rowsAre(I)I -/
def kE177 : aE := (203, 3, ([], [], 0, [kvR 102, kvN 30], []), ([], none), ([(.negSucc 11, .ofNat 1)], [], kvI 0, ([], [])), kvW0)
theorem ks177 : aseg kS krf kB [] (ksp []) kE177 [] 30000 (none) = true := by decide +kernel
theorem kok177 : aOK kS krf kB kE177 := aOK_of kal0 kcl0 ks177
/-- ColdShodModel.rowsAre(I)I -/
def kE178 : aE := (203, 2, ([], [], 0, [kvR 102, kvN 29], []), ([], none), ([(.negSucc 0, .negSucc 0)], [], kvI 0, ([], [])), kvW0)
theorem ks178 : aseg kS krf kB [] (ksp []) kE178 [] 30000 (none) = true := by decide +kernel
theorem kok178 : aOK kS krf kB kE178 := aOK_of kal0 kcl0 ks178
/-- ColdShodModel.rowsAre(I)I -/
def kE179 : aE := (203, 2, ([], [], 0, [kvR 102, kvN 28], []), ([], none), ([(.negSucc 0, .negSucc 0)], [], kvI 0, ([], [])), kvW0)
theorem ks179 : aseg kS krf kB [] (ksp []) kE179 [] 30000 (none) = true := by decide +kernel
theorem kok179 : aOK kS krf kB kE179 := aOK_of kal0 kcl0 ks179
/-- ColdShodModel.rowsAre(I)I -/
def kE180 : aE := (203, 2, ([], [], 0, [kvR 102, kvN 27], []), ([], none), ([(.negSucc 0, .negSucc 0)], [], kvI 0, ([], [])), kvW0)
theorem ks180 : aseg kS krf kB [] (ksp []) kE180 [] 30000 (none) = true := by decide +kernel
theorem kok180 : aOK kS krf kB kE180 := aOK_of kal0 kcl0 ks180
/-- ColdShodModel.rowsAre(I)I -/
def kE181 : aE := (203, 2, ([], [], 0, [kvR 102, kvN 26], []), ([], none), ([(.negSucc 0, .negSucc 0)], [], kvI 0, ([], [])), kvW0)
theorem ks181 : aseg kS krf kB [] (ksp []) kE181 [] 30000 (none) = true := by decide +kernel
theorem kok181 : aOK kS krf kB kE181 := aOK_of kal0 kcl0 ks181
/-- ColdShodModel.rowsAre(I)I -/
def kE182 : aE := (203, 3, ([], [], 0, [kvR 102, kvN 25], []), ([], none), ([(.negSucc 11, .ofNat 1)], [], kvI 0, ([], [])), kvW0)
theorem ks182 : aseg kS krf kB [] (ksp []) kE182 [] 30000 (none) = true := by decide +kernel
theorem kok182 : aOK kS krf kB kE182 := aOK_of kal0 kcl0 ks182
/-- ColdShodModel.rowsAre(I)I -/
def kE183 : aE := (203, 3, ([], [], 0, [kvR 102, kvN 24], []), ([], none), ([(.negSucc 11, .ofNat 1)], [], kvI 0, ([], [])), kvW0)
theorem ks183 : aseg kS krf kB [] (ksp []) kE183 [] 30000 (none) = true := by decide +kernel
theorem kok183 : aOK kS krf kB kE183 := aOK_of kal0 kcl0 ks183
/-- ColdShodModel.rowsAre(I)I -/
def kE184 : aE := (203, 3, ([], [], 0, [kvR 102, kvN 23], []), ([], none), ([(.negSucc 11, .ofNat 1)], [], kvI 0, ([], [])), kvW0)
theorem ks184 : aseg kS krf kB [] (ksp []) kE184 [] 30000 (none) = true := by decide +kernel
theorem kok184 : aOK kS krf kB kE184 := aOK_of kal0 kcl0 ks184
/-- ColdShodModel.rowsAre(I)I -/
def kE185 : aE := (203, 3, ([], [], 0, [kvR 102, kvN 22], []), ([], none), ([(.negSucc 11, .ofNat 1)], [], kvI 0, ([], [])), kvW0)
theorem ks185 : aseg kS krf kB [] (ksp []) kE185 [] 30000 (none) = true := by decide +kernel
theorem kok185 : aOK kS krf kB kE185 := aOK_of kal0 kcl0 ks185
/-- ColdShodModel.rowsAre(I)I -/
def kE186 : aE := (203, 3, ([], [], 0, [kvR 102, kvN 21], []), ([], none), ([(.negSucc 11, .ofNat 1)], [], kvI 0, ([], [])), kvW0)
theorem ks186 : aseg kS krf kB [] (ksp []) kE186 [] 30000 (none) = true := by decide +kernel
theorem kok186 : aOK kS krf kB kE186 := aOK_of kal0 kcl0 ks186
/-- ColdShodModel.rowsAre(I)I -/
def kE187 : aE := (203, 3, ([], [], 0, [kvR 102, kvN 20], []), ([], none), ([(.negSucc 11, .ofNat 1)], [], kvI 0, ([], [])), kvW0)
theorem ks187 : aseg kS krf kB [] (ksp []) kE187 [] 30000 (none) = true := by decide +kernel
theorem kok187 : aOK kS krf kB kE187 := aOK_of kal0 kcl0 ks187
/-- ColdShodModel.rowsAre(I)I -/
def kE188 : aE := (203, 2, ([], [], 0, [kvR 102, kvN 19], []), ([], none), ([(.negSucc 0, .negSucc 0)], [], kvI 0, ([], [])), kvW0)
theorem ks188 : aseg kS krf kB [] (ksp []) kE188 [] 30000 (none) = true := by decide +kernel
theorem kok188 : aOK kS krf kB kE188 := aOK_of kal0 kcl0 ks188
/-- ColdShodModel.rowsAre(I)I -/
def kE189 : aE := (203, 2, ([], [], 0, [kvR 102, kvN 18], []), ([], none), ([(.negSucc 0, .negSucc 0)], [], kvI 0, ([], [])), kvW0)
theorem ks189 : aseg kS krf kB [] (ksp []) kE189 [] 30000 (none) = true := by decide +kernel
theorem kok189 : aOK kS krf kB kE189 := aOK_of kal0 kcl0 ks189
/-- ColdShodModel.rowsAre(I)I -/
def kE190 : aE := (203, 2, ([], [], 0, [kvR 102, kvN 17], []), ([], none), ([(.negSucc 0, .negSucc 0)], [], kvI 0, ([], [])), kvW0)
theorem ks190 : aseg kS krf kB [] (ksp []) kE190 [] 30000 (none) = true := by decide +kernel
theorem kok190 : aOK kS krf kB kE190 := aOK_of kal0 kcl0 ks190
/-- ColdShodModel.rowsAre(I)I -/
def kE191 : aE := (203, 2, ([], [], 0, [kvR 102, kvN 16], []), ([], none), ([(.negSucc 0, .negSucc 0)], [], kvI 0, ([], [])), kvW0)
theorem ks191 : aseg kS krf kB [] (ksp []) kE191 [] 30000 (none) = true := by decide +kernel
theorem kok191 : aOK kS krf kB kE191 := aOK_of kal0 kcl0 ks191
/-- ColdShodModel.rowsAre(I)I -/
def kE192 : aE := (203, 3, ([], [], 0, [kvR 102, kvN 15], []), ([], none), ([(.negSucc 11, .ofNat 1)], [], kvI 0, ([], [])), kvW0)
theorem ks192 : aseg kS krf kB [] (ksp []) kE192 [] 30000 (none) = true := by decide +kernel
theorem kok192 : aOK kS krf kB kE192 := aOK_of kal0 kcl0 ks192
/-- ColdShodModel.rowsAre(I)I -/
def kE193 : aE := (203, 3, ([], [], 0, [kvR 102, kvN 14], []), ([], none), ([(.negSucc 11, .ofNat 1)], [], kvI 0, ([], [])), kvW0)
theorem ks193 : aseg kS krf kB [] (ksp []) kE193 [] 30000 (none) = true := by decide +kernel
theorem kok193 : aOK kS krf kB kE193 := aOK_of kal0 kcl0 ks193
/-- ColdShodModel.rowsAre(I)I -/
def kE194 : aE := (203, 3, ([], [], 0, [kvR 102, kvN 13], []), ([], none), ([(.negSucc 11, .ofNat 1)], [], kvI 0, ([], [])), kvW0)
theorem ks194 : aseg kS krf kB [] (ksp []) kE194 [] 30000 (none) = true := by decide +kernel
theorem kok194 : aOK kS krf kB kE194 := aOK_of kal0 kcl0 ks194
/-- ColdShodModel.rowsAre(I)I -/
def kE195 : aE := (203, 3, ([], [], 0, [kvR 102, kvN 12], []), ([], none), ([(.negSucc 11, .ofNat 1)], [], kvI 0, ([], [])), kvW0)
theorem ks195 : aseg kS krf kB [] (ksp []) kE195 [] 30000 (none) = true := by decide +kernel
theorem kok195 : aOK kS krf kB kE195 := aOK_of kal0 kcl0 ks195
/-- ColdShodModel.rowsAre(I)I -/
def kE196 : aE := (203, 3, ([], [], 0, [kvR 102, kvN 11], []), ([], none), ([(.negSucc 11, .ofNat 1)], [], kvI 0, ([], [])), kvW0)
theorem ks196 : aseg kS krf kB [] (ksp []) kE196 [] 30000 (none) = true := by decide +kernel
theorem kok196 : aOK kS krf kB kE196 := aOK_of kal0 kcl0 ks196
/-- ColdShodModel.rowsAre(I)I -/
def kE197 : aE := (203, 3, ([], [], 0, [kvR 102, kvN 10], []), ([], none), ([(.negSucc 11, .ofNat 1)], [], kvI 0, ([], [])), kvW0)
theorem ks197 : aseg kS krf kB [] (ksp []) kE197 [] 30000 (none) = true := by decide +kernel
theorem kok197 : aOK kS krf kB kE197 := aOK_of kal0 kcl0 ks197
/-- ColdShodModel.rowsAre(I)I -/
def kE198 : aE := (203, 2, ([], [], 0, [kvR 102, kvN 9], []), ([], none), ([(.negSucc 0, .negSucc 0)], [], kvI 0, ([], [])), kvW0)
theorem ks198 : aseg kS krf kB [] (ksp []) kE198 [] 30000 (none) = true := by decide +kernel
theorem kok198 : aOK kS krf kB kE198 := aOK_of kal0 kcl0 ks198
/-- ColdShodModel.rowsAre(I)I -/
def kE199 : aE := (203, 2, ([], [], 0, [kvR 102, kvN 8], []), ([], none), ([(.negSucc 0, .negSucc 0)], [], kvI 0, ([], [])), kvW0)
theorem ks199 : aseg kS krf kB [] (ksp []) kE199 [] 30000 (none) = true := by decide +kernel
theorem kok199 : aOK kS krf kB kE199 := aOK_of kal0 kcl0 ks199
/-- ColdShodModel.rowsAre(I)I -/
def kE200 : aE := (203, 2, ([], [], 0, [kvR 102, kvN 7], []), ([], none), ([(.negSucc 0, .negSucc 0)], [], kvI 0, ([], [])), kvW0)
theorem ks200 : aseg kS krf kB [] (ksp []) kE200 [] 30000 (none) = true := by decide +kernel
theorem kok200 : aOK kS krf kB kE200 := aOK_of kal0 kcl0 ks200
/-- ColdShodModel.rowsAre(I)I -/
def kE201 : aE := (203, 2, ([], [], 0, [kvR 102, kvN 6], []), ([], none), ([(.negSucc 0, .negSucc 0)], [], kvI 0, ([], [])), kvW0)
theorem ks201 : aseg kS krf kB [] (ksp []) kE201 [] 30000 (none) = true := by decide +kernel
theorem kok201 : aOK kS krf kB kE201 := aOK_of kal0 kcl0 ks201
/-- ColdShodModel.rowsAre(I)I -/
def kE202 : aE := (203, 3, ([], [], 0, [kvR 102, kvN 5], []), ([], none), ([(.negSucc 11, .ofNat 1)], [], kvI 0, ([], [])), kvW0)
theorem ks202 : aseg kS krf kB [] (ksp []) kE202 [] 30000 (none) = true := by decide +kernel
theorem kok202 : aOK kS krf kB kE202 := aOK_of kal0 kcl0 ks202
/-- ColdShodModel.rowsAre(I)I -/
def kE203 : aE := (203, 3, ([], [], 0, [kvR 102, kvN 4], []), ([], none), ([(.negSucc 11, .ofNat 1)], [], kvI 0, ([], [])), kvW0)
theorem ks203 : aseg kS krf kB [] (ksp []) kE203 [] 30000 (none) = true := by decide +kernel
theorem kok203 : aOK kS krf kB kE203 := aOK_of kal0 kcl0 ks203
/-- ColdShodModel.rowsAre(I)I -/
def kE204 : aE := (203, 3, ([], [], 0, [kvR 102, kvN 3], []), ([], none), ([(.negSucc 11, .ofNat 1)], [], kvI 0, ([], [])), kvW0)
theorem ks204 : aseg kS krf kB [] (ksp []) kE204 [] 30000 (none) = true := by decide +kernel
theorem kok204 : aOK kS krf kB kE204 := aOK_of kal0 kcl0 ks204
