set_option maxRecDepth 20000 in
theorem zW_at : ∀ w ∈ zW.flatten, w ∈ lw_tbl := zmf zWa_0 (zmf zWa_1 (zmf zWa_2 (zmf zWa_3 (zmf zWa_4 (zmf zWa_5 (zmf zWa_6 (zmf zWa_7 (zmf zWa_8 (zmf zWa_9 (zmf zWa_10 (zmf zWa_11 (zmf zWa_12 (zmf zWa_13 (zmf zWa_14 (zmf zWa_15 (zmf zWa_16 (zmf zWa_17 (zmf zWa_18 (zmf zWa_19 (zmf zWa_20 (zmf zWa_21 (zmf zWa_22 (zmf zWa_23 (zmf zWa_24 (zmf zWa_25 (zmf zWa_26 (zmf zWa_27 (zmf zWa_28 (zmf zWa_29 (zmf zWa_30 (zmf zWa_31 (zmf zWa_32 (zmf zWa_33 (zmf zWa_34 (zmf zWa_35 (zmf zWa_36 (zmf zWa_37 (zmf zWa_38 (zmf zWa_39 (zmf zWa_40 (zmf zWa_41 (zmf zWa_42 (zmf zWa_43 (zmf zWa_44 (zmf zWa_45 (zmf zWa_46 (zmf zWa_47 (zmf zWa_48 (zmf zWa_49 (zmf zWa_50 (zmf zWa_51 (zmf zWa_52 (zmf zWa_53 (zmf zWa_54 (zmf zWa_55 (zmf zWa_56 (zmf zWa_57 (zmf zWa_58 (zmf zWa_59 (zmf zWa_60 (zmf zWa_61 (zmf zWa_62 (zmf zWa_63 (zmf zWa_64 (zmf zWa_65 (zmf zWa_66 (zmf zWa_67 (zmf zWa_68 (zmf zWa_69 (zmf zWa_70 (zmf zWa_71 (zmf zWa_72 (zmf zWa_73 (zmf zWa_74 (zmf zWa_75 (zmf zWa_76 (zmf zWa_77 (zmn2))))))))))))))))))))))))))))))))))))))))))))))))))))))))))))))))))))))))))))))
theorem zCa_0 : zatl lw_tbl [313, 315, 317, 319, 321, 323] (u_ws RX0 TX0 6) = true := by decide +kernel
theorem zCa_1 : zatl lw_tbl [285, 287, 289, 291, 293, 295] (u_ws RX1 TX1 6) = true := by decide +kernel
theorem zCa_2 : zatl lw_tbl [231, 233, 235, 237, 239, 241, 243, 245, 247, 249, 251] (u_ws RX2 TX2 11) = true := by decide +kernel
theorem zCa_3 : zatl lw_tbl [163, 165, 167, 169, 171, 173, 175] (u_ws RX3 TX3 7) = true := by decide +kernel
theorem zCa_4 : zatl lw_tbl [338, 340, 342, 344] (u_ws RX4 TX4 4) = true := by decide +kernel
theorem zCa_5 : zatl lw_tbl [123, 125, 127, 129] (u_ws RX5 TX5 4) = true := by decide +kernel
theorem zCa_6 : zatl lw_tbl [264, 266, 268] (u_ws RX6 TX6 3) = true := by decide +kernel
theorem zCa_7 : zatl lw_tbl [196, 198, 200, 202, 204] (u_ws RX7 TX7 5) = true := by decide +kernel
theorem zCa_8 : zatl lw_tbl [425, 427, 429, 431, 433] (u_ws RX8 TX8 5) = true := by decide +kernel
theorem zCa_9 : zatl lw_tbl [363, 365, 367, 369, 371, 373, 375] (u_ws RX9 TX9 7) = true := by decide +kernel
theorem zCa_10 : zatl lw_tbl [394, 396, 398, 400, 402] (u_ws RX10 TX10 5) = true := by decide +kernel
theorem zCa_11 : zatl lw_tbl [452, 454, 456, 458, 460, 462, 464, 466, 468, 470, 472, 474, 476, 478] (u_ws RX11 TX11 14) = true := by decide +kernel
theorem zCa_12 : zatl lw_tbl [1118, 1120, 1122, 1124, 1126, 1128, 1130, 1132, 1134, 1136, 1138, 1140, 1142, 1144, 1146, 1148, 1150, 1152, 1154, 1156, 1158, 1160, 1162, 1164, 1166, 1168, 1170, 1172, 1174, 1176, 1178, 1180, 1182, 1184, 1186, 1188, 1190, 1192, 1194, 1196, 1198, 1200, 1202, 1204, 1206, 1208, 1210, 1212, 1214] (u_ws RX12 TX12 49) = true := by decide +kernel
set_option maxRecDepth 20000 in
theorem zC_at : zatll lw_tbl zCp zCw = true := z_and zCa_0 (z_and zCa_1 (z_and zCa_2 (z_and zCa_3 (z_and zCa_4 (z_and zCa_5 (z_and zCa_6 (z_and zCa_7 (z_and zCa_8 (z_and zCa_9 (z_and zCa_10 (z_and zCa_11 (z_and zCa_12 (rfl)))))))))))))
