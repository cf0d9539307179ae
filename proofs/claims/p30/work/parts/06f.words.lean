set_option maxRecDepth 20000 in
theorem zWa_48 : zatl lw_tbl [156, 159, 161, 194, 195, 555, 658, 660, 659, 91, 661, 674, 676, 675, 677, 670] zW_48 = true := zatl_c rfl (zatl_c rfl (zatl_c rfl (zatl_c rfl (zatl_c rfl (zatl_c rfl (zatl_c rfl (zatl_c rfl (zatl_c rfl (zatl_c rfl (zatl_c rfl (zatl_c rfl (zatl_c rfl (zatl_c rfl (zatl_c rfl (zatl_c rfl (rfl))))))))))))))))
theorem zWa_49 : zatl lw_tbl [669, 713, 726, 727, 732, 119, 733, 821, 824, 832, 828, 836, 860, 866, 137, 160] zW_49 = true := by decide +kernel
theorem zWa_50 : zatl lw_tbl [138, 155, 697, 141, 145, 151, 157, 193, 725, 717, 721, 731, 737, 767, 771, 776] zW_50 = true := by decide +kernel
theorem zWa_51 : zatl lw_tbl [775, 331, 332, 333, 419, 423, 334, 336, 705, 215, 709, 190, 147, 117, 120, 122] zW_51 = true := by decide +kernel
theorem zWa_52 : zatl lw_tbl [121, 118, 632, 665, 668, 671, 259, 260, 261, 594, 263, 598, 633, 602, 621, 640] zW_52 = true := by decide +kernel
theorem zWa_53 : zatl lw_tbl [644, 606, 610, 637, 614, 617, 625, 628, 182, 183, 186, 412, 413, 422, 415, 417] zW_53 = true := by decide +kernel
theorem zWa_54 : zatl lw_tbl [420, 1024, 352, 355, 357, 358, 359, 360, 353, 361, 746, 362, 749, 754, 755, 759] zW_54 = true := by decide +kernel
theorem zWa_55 : zatl lw_tbl [763, 780, 143, 148, 152, 158, 753, 383, 386, 392, 384, 393, 388, 792, 793, 797] zW_55 = true := by decide +kernel
theorem zWa_56 : zatl lw_tbl [224, 214, 802, 806, 189, 146, 390, 801, 99, 102, 104, 438, 254, 439, 271, 440] zW_56 = true := by decide +kernel
theorem zWa_57 : zatl lw_tbl [298, 441, 326, 442, 347, 443, 378, 380, 444, 405, 445, 407, 446, 447, 448, 449] zW_57 = true := by decide +kernel
theorem zWa_58 : zatl lw_tbl [450, 451, 221, 208, 210, 223, 212, 139, 142, 493, 500, 508, 414, 511, 421, 515] zW_58 = true := by decide +kernel
theorem zWa_59 : zatl lw_tbl [424, 496, 519, 524, 540, 548, 549, 559, 563, 582, 262, 230, 590, 228, 652, 653] zW_59 = true := by decide +kernel
