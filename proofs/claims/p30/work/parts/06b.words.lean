set_option maxRecDepth 20000 in
theorem zWa_0 : zatl lw_tbl [302, 84, 301, 986, 984, 985, 974, 972, 973, 1058, 1057, 1006, 1004, 1005, 982, 980] zW_0 = true := zatl_c rfl (zatl_c rfl (zatl_c rfl (zatl_c rfl (zatl_c rfl (zatl_c rfl (zatl_c rfl (zatl_c rfl (zatl_c rfl (zatl_c rfl (zatl_c rfl (zatl_c rfl (zatl_c rfl (zatl_c rfl (zatl_c rfl (zatl_c rfl (rfl))))))))))))))))
set_option maxRecDepth 20000 in
theorem zWa_1 : zatl lw_tbl [981, 990, 989, 28, 998, 997, 29, 275, 83, 274, 566, 564, 565, 570, 569, 1] zW_1 = true := zatl_c rfl (zatl_c rfl (zatl_c rfl (zatl_c rfl (zatl_c rfl (zatl_c rfl (zatl_c rfl (zatl_c rfl (zatl_c rfl (zatl_c rfl (zatl_c rfl (zatl_c rfl (zatl_c rfl (zatl_c rfl (zatl_c rfl (zatl_c rfl (rfl))))))))))))))))
set_option maxRecDepth 20000 in
theorem zWa_2 : zatl lw_tbl [957, 955, 956, 966, 964, 965, 106, 78, 105, 531, 529, 530, 535, 533, 534, 539] zW_2 = true := zatl_c rfl (zatl_c rfl (zatl_c rfl (zatl_c rfl (zatl_c rfl (zatl_c rfl (zatl_c rfl (zatl_c rfl (zatl_c rfl (zatl_c rfl (zatl_c rfl (zatl_c rfl (zatl_c rfl (zatl_c rfl (zatl_c rfl (zatl_c rfl (rfl))))))))))))))))
set_option maxRecDepth 20000 in
theorem zWa_3 : zatl lw_tbl [537, 538, 503, 501, 502, 527, 525, 526, 543, 541, 542, 552, 550, 551, 562, 560] zW_3 = true := zatl_c rfl (zatl_c rfl (zatl_c rfl (zatl_c rfl (zatl_c rfl (zatl_c rfl (zatl_c rfl (zatl_c rfl (zatl_c rfl (zatl_c rfl (zatl_c rfl (zatl_c rfl (zatl_c rfl (zatl_c rfl (zatl_c rfl (zatl_c rfl (rfl))))))))))))))))
set_option maxRecDepth 20000 in
theorem zWa_4 : zatl lw_tbl [561, 919, 917, 918, 657, 655, 656, 712, 710, 711, 820, 818, 819, 827, 826, 19] zW_4 = true := zatl_c rfl (zatl_c rfl (zatl_c rfl (zatl_c rfl (zatl_c rfl (zatl_c rfl (zatl_c rfl (zatl_c rfl (zatl_c rfl (zatl_c rfl (zatl_c rfl (zatl_c rfl (zatl_c rfl (zatl_c rfl (zatl_c rfl (zatl_c rfl (rfl))))))))))))))))
set_option maxRecDepth 20000 in
theorem zWa_5 : zatl lw_tbl [835, 834, 21, 831, 830, 20, 839, 838, 22, 847, 845, 846, 855, 853, 854, 859] zW_5 = true := zatl_c rfl (zatl_c rfl (zatl_c rfl (zatl_c rfl (zatl_c rfl (zatl_c rfl (zatl_c rfl (zatl_c rfl (zatl_c rfl (zatl_c rfl (zatl_c rfl (zatl_c rfl (zatl_c rfl (zatl_c rfl (zatl_c rfl (zatl_c rfl (rfl))))))))))))))))
set_option maxRecDepth 20000 in
theorem zWa_6 : zatl lw_tbl [857, 858, 869, 868, 23, 136, 80, 135, 696, 694, 695, 700, 698, 699, 558, 556] zW_6 = true := zatl_c rfl (zatl_c rfl (zatl_c rfl (zatl_c rfl (zatl_c rfl (zatl_c rfl (zatl_c rfl (zatl_c rfl (zatl_c rfl (zatl_c rfl (zatl_c rfl (zatl_c rfl (zatl_c rfl (zatl_c rfl (zatl_c rfl (zatl_c rfl (rfl))))))))))))))))
set_option maxRecDepth 20000 in
theorem zWa_7 : zatl lw_tbl [557, 720, 718, 719, 724, 722, 723, 716, 714, 715, 730, 728, 729, 736, 734, 735] zW_7 = true := zatl_c rfl (zatl_c rfl (zatl_c rfl (zatl_c rfl (zatl_c rfl (zatl_c rfl (zatl_c rfl (zatl_c rfl (zatl_c rfl (zatl_c rfl (zatl_c rfl (zatl_c rfl (zatl_c rfl (zatl_c rfl (zatl_c rfl (zatl_c rfl (rfl))))))))))))))))
set_option maxRecDepth 20000 in
theorem zWa_8 : zatl lw_tbl [766, 764, 765, 770, 769, 13, 774, 773, 14, 779, 778, 15, 330, 85, 329, 688] zW_8 = true := zatl_c rfl (zatl_c rfl (zatl_c rfl (zatl_c rfl (zatl_c rfl (zatl_c rfl (zatl_c rfl (zatl_c rfl (zatl_c rfl (zatl_c rfl (zatl_c rfl (zatl_c rfl (zatl_c rfl (zatl_c rfl (zatl_c rfl (zatl_c rfl (rfl))))))))))))))))
set_option maxRecDepth 20000 in
theorem zWa_9 : zatl lw_tbl [686, 687, 704, 702, 703, 708, 707, 9, 885, 883, 884, 116, 79, 115, 597, 595] zW_9 = true := zatl_c rfl (zatl_c rfl (zatl_c rfl (zatl_c rfl (zatl_c rfl (zatl_c rfl (zatl_c rfl (zatl_c rfl (zatl_c rfl (zatl_c rfl (zatl_c rfl (zatl_c rfl (zatl_c rfl (zatl_c rfl (zatl_c rfl (zatl_c rfl (rfl))))))))))))))))
set_option maxRecDepth 20000 in
theorem zWa_10 : zatl lw_tbl [596, 624, 622, 623, 631, 629, 630, 643, 641, 642, 647, 645, 646, 664, 662, 663] zW_10 = true := zatl_c rfl (zatl_c rfl (zatl_c rfl (zatl_c rfl (zatl_c rfl (zatl_c rfl (zatl_c rfl (zatl_c rfl (zatl_c rfl (zatl_c rfl (zatl_c rfl (zatl_c rfl (zatl_c rfl (zatl_c rfl (zatl_c rfl (zatl_c rfl (rfl))))))))))))))))
set_option maxRecDepth 20000 in
theorem zWa_11 : zatl lw_tbl [667, 666, 673, 672, 258, 82, 257, 585, 583, 584, 593, 591, 592, 601, 600, 2] zW_11 = true := zatl_c rfl (zatl_c rfl (zatl_c rfl (zatl_c rfl (zatl_c rfl (zatl_c rfl (zatl_c rfl (zatl_c rfl (zatl_c rfl (zatl_c rfl (zatl_c rfl (zatl_c rfl (zatl_c rfl (zatl_c rfl (zatl_c rfl (zatl_c rfl (rfl))))))))))))))))
