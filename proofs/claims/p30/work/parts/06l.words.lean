set_option maxRecDepth 20000 in
theorem zW_at : zatll lw_tbl zWp zW = true := z_and zWa_0 (z_and zWa_1 (z_and zWa_2 (z_and zWa_3 (z_and zWa_4 (z_and zWa_5 (z_and zWa_6 (z_and zWa_7 (z_and zWa_8 (z_and zWa_9 (z_and zWa_10 (z_and zWa_11 (z_and zWa_12 (z_and zWa_13 (z_and zWa_14 (z_and zWa_15 (z_and zWa_16 (z_and zWa_17 (z_and zWa_18 (z_and zWa_19 (z_and zWa_20 (z_and zWa_21 (z_and zWa_22 (z_and zWa_23 (z_and zWa_24 (z_and zWa_25 (z_and zWa_26 (z_and zWa_27 (z_and zWa_28 (z_and zWa_29 (z_and zWa_30 (z_and zWa_31 (z_and zWa_32 (z_and zWa_33 (z_and zWa_34 (z_and zWa_35 (z_and zWa_36 (z_and zWa_37 (z_and zWa_38 (z_and zWa_39 (z_and zWa_40 (z_and zWa_41 (z_and zWa_42 (z_and zWa_43 (z_and zWa_44 (z_and zWa_45 (z_and zWa_46 (z_and zWa_47 (z_and zWa_48 (z_and zWa_49 (z_and zWa_50 (z_and zWa_51 (z_and zWa_52 (z_and zWa_53 (z_and zWa_54 (z_and zWa_55 (z_and zWa_56 (z_and zWa_57 (z_and zWa_58 (z_and zWa_59 (z_and zWa_60 (z_and zWa_61 (z_and zWa_62 (z_and zWa_63 (z_and zWa_64 (z_and zWa_65 (z_and zWa_66 (z_and zWa_67 (z_and zWa_68 (z_and zWa_69 (z_and zWa_70 (z_and zWa_71 (z_and zWa_72 (z_and zWa_73 (z_and zWa_74 (z_and zWa_75 (z_and zWa_76 (z_and zWa_77 (rfl))))))))))))))))))))))))))))))))))))))))))))))))))))))))))))))))))))))))))))))
theorem zCa_0 : zatl lw_tbl [313, 315, 317, 319, 321, 323] (u_ws RX0 TX0 6) = true := by decide +kernel
theorem zCa_1 : zatl lw_tbl [285, 287, 289, 291, 293, 295] (u_ws RX1 TX1 6) = true := by decide +kernel
theorem zCa_2 : zatl lw_tbl [231, 233, 235, 237, 239, 241, 243, 245, 247, 249, 251] (u_ws RX2 TX2 11) = true := by decide +kernel
theorem zCa_3 : zatl lw_tbl [163, 165, 167, 169, 171, 173, 175] (u_ws RX3 TX3 7) = true := by decide +kernel
theorem zCa_4 : zatl lw_tbl [338, 340, 342, 344] (u_ws RX4 TX4 4) = true := by decide +kernel
theorem zCa_5 : zatl lw_tbl [123, 125, 127, 129] (u_ws RX5 TX5 4) = true := by decide +kernel
theorem zCa_6 : zatl lw_tbl [264, 266, 268] (u_ws RX6 TX6 3) = true := by decide +kernel
theorem zCa_7 : zatl lw_tbl [196, 198, 200, 202, 204] (u_ws RX7 TX7 5) = true := by decide +kernel
theorem zCa_8 : zatl lw_tbl [425, 427, 429, 431, 433] (u_ws RX8 TX8 5) = true := by decide +kernel
theorem zCa_9 : zatl lw_tbl [363, 365, 367, 369, 371, 373, 375] (u_ws RX9 TX9 7) = true := by decide +kernel
theorem zCa_10 : zatl lw_tbl [394, 396, 398, 400, 402] (u_ws RX10 TX10 5) = true := by decide +kernel
theorem zCa_11 : zatl lw_tbl [452, 454, 456, 458, 460, 462, 464, 466, 468, 470, 472, 474, 476, 478] (u_ws RX11 TX11 14) = true := by decide +kernel
theorem zCa_12 : zatl lw_tbl [1118, 1120, 1122, 1124, 1126, 1128, 1130, 1132, 1134, 1136, 1138, 1140, 1142, 1144, 1146, 1148, 1150, 1152, 1154, 1156, 1158, 1160, 1162, 1164, 1166, 1168, 1170, 1172, 1174, 1176, 1178, 1180, 1182, 1184, 1186, 1188, 1190, 1192, 1194, 1196, 1198, 1200, 1202, 1204, 1206, 1208, 1210, 1212, 1214] (u_ws RX12 TX12 49) = true := by decide +kernel
set_option maxRecDepth 20000 in
theorem zC_at : zatll lw_tbl zCp zCw = true := z_and zCa_0 (z_and zCa_1 (z_and zCa_2 (z_and zCa_3 (z_and zCa_4 (z_and zCa_5 (z_and zCa_6 (z_and zCa_7 (z_and zCa_8 (z_and zCa_9 (z_and zCa_10 (z_and zCa_11 (z_and zCa_12 (rfl)))))))))))))
