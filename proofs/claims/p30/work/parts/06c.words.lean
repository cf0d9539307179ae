set_option maxRecDepth 20000 in
theorem zWa_12 : zatl lw_tbl [605, 604, 3, 609, 608, 4, 620, 619, 6, 613, 612, 5, 636, 635, 7, 616] zW_12 = true := zatl_c rfl (zatl_c rfl (zatl_c rfl (zatl_c rfl (zatl_c rfl (zatl_c rfl (zatl_c rfl (zatl_c rfl (zatl_c rfl (zatl_c rfl (zatl_c rfl (zatl_c rfl (zatl_c rfl (zatl_c rfl (zatl_c rfl (zatl_c rfl (rfl))))))))))))))))
set_option maxRecDepth 20000 in
theorem zWa_13 : zatl lw_tbl [615, 627, 626, 639, 638, 181, 81, 180, 805, 803, 804, 411, 88, 410, 1015, 1013] zW_13 = true := zatl_c rfl (zatl_c rfl (zatl_c rfl (zatl_c rfl (zatl_c rfl (zatl_c rfl (zatl_c rfl (zatl_c rfl (zatl_c rfl (zatl_c rfl (zatl_c rfl (zatl_c rfl (zatl_c rfl (zatl_c rfl (zatl_c rfl (zatl_c rfl (rfl))))))))))))))))
set_option maxRecDepth 20000 in
theorem zWa_14 : zatl lw_tbl [1014, 1023, 1021, 1022, 514, 512, 513, 1051, 1049, 1050, 1038, 1036, 1037, 351, 86, 350] zW_14 = true := zatl_c rfl (zatl_c rfl (zatl_c rfl (zatl_c rfl (zatl_c rfl (zatl_c rfl (zatl_c rfl (zatl_c rfl (zatl_c rfl (zatl_c rfl (zatl_c rfl (zatl_c rfl (zatl_c rfl (zatl_c rfl (zatl_c rfl (zatl_c rfl (rfl))))))))))))))))
set_option maxRecDepth 20000 in
theorem zWa_15 : zatl lw_tbl [745, 743, 744, 762, 761, 12, 783, 782, 16, 758, 757, 11, 748, 747, 752, 751] zW_15 = true := zatl_c rfl (zatl_c rfl (zatl_c rfl (zatl_c rfl (zatl_c rfl (zatl_c rfl (zatl_c rfl (zatl_c rfl (zatl_c rfl (zatl_c rfl (zatl_c rfl (zatl_c rfl (zatl_c rfl (zatl_c rfl (zatl_c rfl (zatl_c rfl (rfl))))))))))))))))
set_option maxRecDepth 20000 in
theorem zWa_16 : zatl lw_tbl [10, 382, 87, 381, 791, 789, 790, 796, 795, 17, 800, 799, 18, 98, 77, 97] zW_16 = true := zatl_c rfl (zatl_c rfl (zatl_c rfl (zatl_c rfl (zatl_c rfl (zatl_c rfl (zatl_c rfl (zatl_c rfl (zatl_c rfl (zatl_c rfl (zatl_c rfl (zatl_c rfl (zatl_c rfl (zatl_c rfl (zatl_c rfl (zatl_c rfl (rfl))))))))))))))))
set_option maxRecDepth 20000 in
theorem zWa_17 : zatl lw_tbl [484, 482, 483, 488, 486, 487, 492, 490, 491, 507, 505, 506, 518, 517, 0, 523] zW_17 = true := zatl_c rfl (zatl_c rfl (zatl_c rfl (zatl_c rfl (zatl_c rfl (zatl_c rfl (zatl_c rfl (zatl_c rfl (zatl_c rfl (zatl_c rfl (zatl_c rfl (zatl_c rfl (zatl_c rfl (zatl_c rfl (zatl_c rfl (zatl_c rfl (rfl))))))))))))))))
set_option maxRecDepth 20000 in
theorem zWa_18 : zatl lw_tbl [521, 522, 577, 575, 576, 581, 579, 580, 589, 587, 588, 651, 649, 650, 681, 679] zW_18 = true := zatl_c rfl (zatl_c rfl (zatl_c rfl (zatl_c rfl (zatl_c rfl (zatl_c rfl (zatl_c rfl (zatl_c rfl (zatl_c rfl (zatl_c rfl (zatl_c rfl (zatl_c rfl (zatl_c rfl (zatl_c rfl (zatl_c rfl (zatl_c rfl (rfl))))))))))))))))
set_option maxRecDepth 20000 in
theorem zWa_19 : zatl lw_tbl [680, 741, 739, 740, 787, 785, 786, 810, 808, 809, 815, 813, 814, 843, 841, 842] zW_19 = true := zatl_c rfl (zatl_c rfl (zatl_c rfl (zatl_c rfl (zatl_c rfl (zatl_c rfl (zatl_c rfl (zatl_c rfl (zatl_c rfl (zatl_c rfl (zatl_c rfl (zatl_c rfl (zatl_c rfl (zatl_c rfl (zatl_c rfl (zatl_c rfl (rfl))))))))))))))))
set_option maxRecDepth 20000 in
theorem zWa_20 : zatl lw_tbl [851, 849, 850, 874, 872, 873, 889, 887, 888, 893, 891, 892, 897, 896, 25, 901] zW_20 = true := zatl_c rfl (zatl_c rfl (zatl_c rfl (zatl_c rfl (zatl_c rfl (zatl_c rfl (zatl_c rfl (zatl_c rfl (zatl_c rfl (zatl_c rfl (zatl_c rfl (zatl_c rfl (zatl_c rfl (zatl_c rfl (zatl_c rfl (zatl_c rfl (rfl))))))))))))))))
set_option maxRecDepth 20000 in
theorem zWa_21 : zatl lw_tbl [900, 26, 908, 907, 27, 915, 913, 914, 926, 924, 925, 930, 928, 929, 935, 933] zW_21 = true := zatl_c rfl (zatl_c rfl (zatl_c rfl (zatl_c rfl (zatl_c rfl (zatl_c rfl (zatl_c rfl (zatl_c rfl (zatl_c rfl (zatl_c rfl (zatl_c rfl (zatl_c rfl (zatl_c rfl (zatl_c rfl (zatl_c rfl (zatl_c rfl (rfl))))))))))))))))
set_option maxRecDepth 20000 in
theorem zWa_22 : zatl lw_tbl [934, 939, 937, 938, 943, 941, 942, 948, 946, 947, 953, 951, 952, 962, 960, 961] zW_22 = true := zatl_c rfl (zatl_c rfl (zatl_c rfl (zatl_c rfl (zatl_c rfl (zatl_c rfl (zatl_c rfl (zatl_c rfl (zatl_c rfl (zatl_c rfl (zatl_c rfl (zatl_c rfl (zatl_c rfl (zatl_c rfl (zatl_c rfl (zatl_c rfl (rfl))))))))))))))))
set_option maxRecDepth 20000 in
theorem zWa_23 : zatl lw_tbl [970, 968, 969, 978, 976, 977, 1002, 1000, 1001, 1010, 1008, 1009, 1019, 1017, 1018, 1030] zW_23 = true := zatl_c rfl (zatl_c rfl (zatl_c rfl (zatl_c rfl (zatl_c rfl (zatl_c rfl (zatl_c rfl (zatl_c rfl (zatl_c rfl (zatl_c rfl (zatl_c rfl (zatl_c rfl (zatl_c rfl (zatl_c rfl (zatl_c rfl (zatl_c rfl (rfl))))))))))))))))
