set_option maxRecDepth 20000 in
theorem zW_at : ∀ w ∈ zW.flatten, w ∈ lw_tbl := zmf zWa_0 (zmf zWa_1 (zmf zWa_2 (zmf zWa_3 (zmf zWa_4 (zmf zWa_5 (zmf zWa_6 (zmf zWa_7 (zmf zWa_8 (zmf zWa_9 (zmf zWa_10 (zmf zWa_11 (zmf zWa_12 (zmf zWa_13 (zmf zWa_14 (zmf zWa_15 (zmf zWa_16 (zmf zWa_17 (zmf zWa_18 (zmf zWa_19 (zmf zWa_20 (zmf zWa_21 (zmf zWa_22 (zmf zWa_23 (zmf zWa_24 (zmf zWa_25 (zmf zWa_26 (zmf zWa_27 (zmf zWa_28 (zmf zWa_29 (zmf zWa_30 (zmf zWa_31 (zmf zWa_32 (zmf zWa_33 (zmf zWa_34 (zmf zWa_35 (zmf zWa_36 (zmf zWa_37 (zmf zWa_38 (zmf zWa_39 (zmf zWa_40 (zmf zWa_41 (zmf zWa_42 (zmf zWa_43 (zmf zWa_44 (zmf zWa_45 (zmf zWa_46 (zmf zWa_47 (zmf zWa_48 (zmf zWa_49 (zmf zWa_50 (zmf zWa_51 (zmf zWa_52 (zmf zWa_53 (zmf zWa_54 (zmf zWa_55 (zmf zWa_56 (zmf zWa_57 (zmf zWa_58 (zmf zWa_59 (zmf zWa_60 (zmf zWa_61 (zmf zWa_62 (zmf zWa_63 (zmf zWa_64 (zmf zWa_65 (zmf zWa_66 (zmf zWa_67 (zmf zWa_68 (zmf zWa_69 (zmf zWa_70 (zmf zWa_71 (zmf zWa_72 (zmf zWa_73 (zmf zWa_74 (zmf zWa_75 (zmf zWa_76 (zmf zWa_77 (zmn2))))))))))))))))))))))))))))))))))))))))))))))))))))))))))))))))))))))))))))))
theorem zCa_0 : zatl lw_tbl [313, 315, 317, 319, 321, 323] (u_ws RX0 TX0 6) = true := by decide +kernel
theorem zCa_1 : zatl lw_tbl [285, 287, 289, 291, 293, 295] (u_ws RX1 TX1 6) = true := by decide +kernel
theorem zCa_2 : zatl lw_tbl [231, 233, 235, 237, 239, 241, 243, 245, 247, 249, 251] (u_ws RX2 TX2 11) = true := by decide +kernel
theorem zCa_3 : zatl lw_tbl [163, 165, 167, 169, 171, 173, 175] (u_ws RX3 TX3 7) = true := by decide +kernel
theorem zCa_4 : zatl lw_tbl [338, 340, 342, 344] (u_ws RX4 TX4 4) = true := by decide +kernel
theorem zCa_5 : zatl lw_tbl [123, 125, 127, 129] (u_ws RX5 TX5 4) = true := by decide +kernel
theorem zCa_6 : zatl lw_tbl [264, 266, 268] (u_ws RX6 TX6 3) = true := by decide +kernel
theorem zCa_7 : zatl lw_tbl [196, 198, 200, 202, 204] (u_ws RX7 TX7 5) = true := by decide +kernel
theorem zCa_8 : zatl lw_tbl [425, 427, 429, 431, 433] (u_ws RX8 TX8 5) = true := by decide +kernel
theorem zCa_9 : zatl lw_tbl [363, 365, 367, 369, 371, 373, 375] (u_ws RX9 TX9 7) = true := by decide +kernel
theorem zCa_10 : zatl lw_tbl [394, 396, 398, 400, 402] (u_ws RX10 TX10 5) = true := by decide +kernel
theorem zCa_11 : zatl lw_tbl [452, 454, 456, 458, 460, 462, 464, 466, 468, 470, 472, 474, 476, 478] (u_ws RX11 TX11 14) = true := by decide +kernel
theorem zCa_12 : zatl lw_tbl [1118, 1120, 1122, 1124, 1126, 1128, 1130, 1132, 1134, 1136, 1138, 1140, 1142, 1144, 1146, 1148, 1150, 1152, 1154, 1156, 1158, 1160, 1162, 1164, 1166, 1168, 1170, 1172, 1174, 1176, 1178, 1180, 1182, 1184, 1186, 1188, 1190, 1192, 1194, 1196, 1198, 1200, 1202, 1204, 1206, 1208, 1210, 1212, 1214] (u_ws RX12 TX12 49) = true := by decide +kernel
set_option maxRecDepth 20000 in
theorem zC_at : zatll lw_tbl zCp zCw = true := z_and zCa_0 (z_and zCa_1 (z_and zCa_2 (z_and zCa_3 (z_and zCa_4 (z_and zCa_5 (z_and zCa_6 (z_and zCa_7 (z_and zCa_8 (z_and zCa_9 (z_and zCa_10 (z_and zCa_11 (z_and zCa_12 (rfl)))))))))))))
theorem zN_at : zatl lw_tbl zNp zN = true := by decide +kernel
theorem zWall_in : ∀ w ∈ zWall, w ∈ lw_tbl := fun w h => (List.mem_append.mp h).elim (zW_at w) (zatll_in zC_at w)
theorem zN_in : ∀ w ∈ zN, w ∈ lw_tbl := zatl_in zN_at
theorem zWall_good : zWall.all goodWord = true := by decide +kernel
theorem zN_tabs : zN.all (fun w => w.onTables) = true := by decide +kernel
theorem zin_0 : ∀ w ∈ u_ws RX0 TX0 6, w ∈ zWall := fun w h => List.mem_append_right _ (List.mem_flatten.mpr ⟨_, List.mem_of_getElem? (i := 0) rfl, h⟩)
theorem zin_1 : ∀ w ∈ u_ws RX1 TX1 6, w ∈ zWall := fun w h => List.mem_append_right _ (List.mem_flatten.mpr ⟨_, List.mem_of_getElem? (i := 1) rfl, h⟩)
theorem zin_2 : ∀ w ∈ u_ws RX2 TX2 11, w ∈ zWall := fun w h => List.mem_append_right _ (List.mem_flatten.mpr ⟨_, List.mem_of_getElem? (i := 2) rfl, h⟩)
theorem zin_3 : ∀ w ∈ u_ws RX3 TX3 7, w ∈ zWall := fun w h => List.mem_append_right _ (List.mem_flatten.mpr ⟨_, List.mem_of_getElem? (i := 3) rfl, h⟩)
theorem zin_4 : ∀ w ∈ u_ws RX4 TX4 4, w ∈ zWall := fun w h => List.mem_append_right _ (List.mem_flatten.mpr ⟨_, List.mem_of_getElem? (i := 4) rfl, h⟩)
theorem zin_5 : ∀ w ∈ u_ws RX5 TX5 4, w ∈ zWall := fun w h => List.mem_append_right _ (List.mem_flatten.mpr ⟨_, List.mem_of_getElem? (i := 5) rfl, h⟩)
theorem zin_6 : ∀ w ∈ u_ws RX6 TX6 3, w ∈ zWall := fun w h => List.mem_append_right _ (List.mem_flatten.mpr ⟨_, List.mem_of_getElem? (i := 6) rfl, h⟩)
theorem zin_7 : ∀ w ∈ u_ws RX7 TX7 5, w ∈ zWall := fun w h => List.mem_append_right _ (List.mem_flatten.mpr ⟨_, List.mem_of_getElem? (i := 7) rfl, h⟩)
theorem zin_8 : ∀ w ∈ u_ws RX8 TX8 5, w ∈ zWall := fun w h => List.mem_append_right _ (List.mem_flatten.mpr ⟨_, List.mem_of_getElem? (i := 8) rfl, h⟩)
theorem zin_9 : ∀ w ∈ u_ws RX9 TX9 7, w ∈ zWall := fun w h => List.mem_append_right _ (List.mem_flatten.mpr ⟨_, List.mem_of_getElem? (i := 9) rfl, h⟩)
theorem zin_10 : ∀ w ∈ u_ws RX10 TX10 5, w ∈ zWall := fun w h => List.mem_append_right _ (List.mem_flatten.mpr ⟨_, List.mem_of_getElem? (i := 10) rfl, h⟩)
theorem zin_11 : ∀ w ∈ u_ws RX11 TX11 14, w ∈ zWall := fun w h => List.mem_append_right _ (List.mem_flatten.mpr ⟨_, List.mem_of_getElem? (i := 11) rfl, h⟩)
theorem zin_12 : ∀ w ∈ u_ws RX12 TX12 49, w ∈ zWall := fun w h => List.mem_append_right _ (List.mem_flatten.mpr ⟨_, List.mem_of_getElem? (i := 12) rfl, h⟩)
theorem zw_in {p : Nat} {w : Cond} (h : zis p w = true) : w ∈ zWall := by
  have h : zw p = some w := of_decide_eq_true h
  unfold zw at h
  cases h1 : zget zW (p / 16) with
  | none =>
    rw [h1] at h
    cases h
  | some g =>
    rw [h1] at h
    exact List.mem_append_left _ (List.mem_flatten.mpr ⟨g, zget_mem6 h1, zget_mem6 h⟩)
/-- a method's own words -/
noncomputable def zmchk (mi : Nat) (M : zM) : Bool := match M with
  | (y, cc, L, r, n, st, p0, p1, p2, p3) => zis p0 (.code y cc L r) && zis p1 (.initialized y.cls) && (bif st then zis p2 (.static y) else zis p2 (.instanceMethod y) && (decide (y.name = "<init>") || zis p3 (.selects y.cls y y))) && decide (plainName y.cls = true) && decide (y.cls ≠ "java/lang/invoke/MethodHandle" ∧ y.cls ≠ "java/lang/invoke/VarHandle") && decide ((parseMethodDescriptor y.desc).map (fun d => d.parameters.length) = some n) && decide (L ≤ 20) && decide (zL mi = L)
noncomputable def zmG : Nat → List zM → Bool
  | _, [] => true
  | mi, M :: r => (decide (mi = zlaw) || zmchk mi M) && zmG (mi + 1) r
noncomputable def zmA : Nat → List (List zM) → Bool
  | _, [] => true
  | mi, g :: r => zmG mi g && zmA (mi + 16) r
noncomputable def zmchk2 (mi : Nat) (M : zM) : Bool := match M with
  | (y, cc, L, r, n, st, p0, p1, p2, p3) => true && zis p1 (.initialized y.cls) && (bif st then zis p2 (.static y) else zis p2 (.instanceMethod y) && (decide (y.name = "<init>") || zis p3 (.selects y.cls y y))) && decide (plainName y.cls = true) && decide (y.cls ≠ "java/lang/invoke/MethodHandle" ∧ y.cls ≠ "java/lang/invoke/VarHandle") && decide ((parseMethodDescriptor y.desc).map (fun d => d.parameters.length) = some n) && decide (L ≤ 20) && decide (zL mi = L)
theorem zmG_c {mi : Nat} {M : zM} {g : List zM} (h : zw M.2.2.2.2.2.2.1 = some (.code M.1 M.2.1 M.2.2.1 M.2.2.2.1)) (h2 : zmchk2 mi M = true) (t : zmG (mi + 1) g = true) : zmG mi (M :: g) = true := by
  have e : zmchk mi M = true := by
    obtain ⟨y, cc, L, r, n, st, p0, p1, p2, p3⟩ := M
    have h0 : zis p0 (.code y cc L r) = true := decide_eq_true h
    simp only [zmchk]
    rw [h0]
    exact h2
  show ((decide (mi = zlaw) || zmchk mi M) && zmG (mi + 1) g) = true
  rw [e, Bool.or_true, t]
  rfl
set_option maxRecDepth 20000 in
theorem zmG_0 : zmG 0 zm_0 = true := zmG_c rfl (by decide +kernel) (zmG_c rfl (by decide +kernel) (zmG_c rfl (by decide +kernel) (zmG_c rfl (by decide +kernel) (zmG_c rfl (by decide +kernel) (zmG_c rfl (by decide +kernel) (zmG_c rfl (by decide +kernel) (zmG_c rfl (by decide +kernel) (zmG_c rfl (by decide +kernel) (zmG_c rfl (by decide +kernel) (zmG_c rfl (by decide +kernel) (zmG_c rfl (by decide +kernel) (zmG_c rfl (by decide +kernel) (zmG_c rfl (by decide +kernel) (zmG_c rfl (by decide +kernel) (zmG_c rfl (by decide +kernel) (rfl))))))))))))))))
set_option maxRecDepth 20000 in
theorem zmG_1 : zmG 16 zm_1 = true := zmG_c rfl (by decide +kernel) (zmG_c rfl (by decide +kernel) (zmG_c rfl (by decide +kernel) (zmG_c rfl (by decide +kernel) (zmG_c rfl (by decide +kernel) (zmG_c rfl (by decide +kernel) (zmG_c rfl (by decide +kernel) (zmG_c rfl (by decide +kernel) (zmG_c rfl (by decide +kernel) (zmG_c rfl (by decide +kernel) (zmG_c rfl (by decide +kernel) (zmG_c rfl (by decide +kernel) (zmG_c rfl (by decide +kernel) (zmG_c rfl (by decide +kernel) (zmG_c rfl (by decide +kernel) (zmG_c rfl (by decide +kernel) (rfl))))))))))))))))
set_option maxRecDepth 20000 in
theorem zmG_2 : zmG 32 zm_2 = true := zmG_c rfl (by decide +kernel) (zmG_c rfl (by decide +kernel) (zmG_c rfl (by decide +kernel) (zmG_c rfl (by decide +kernel) (zmG_c rfl (by decide +kernel) (zmG_c rfl (by decide +kernel) (zmG_c rfl (by decide +kernel) (zmG_c rfl (by decide +kernel) (zmG_c rfl (by decide +kernel) (zmG_c rfl (by decide +kernel) (zmG_c rfl (by decide +kernel) (zmG_c rfl (by decide +kernel) (zmG_c rfl (by decide +kernel) (zmG_c rfl (by decide +kernel) (zmG_c rfl (by decide +kernel) (zmG_c rfl (by decide +kernel) (rfl))))))))))))))))
set_option maxRecDepth 20000 in
theorem zmG_3 : zmG 48 zm_3 = true := zmG_c rfl (by decide +kernel) (zmG_c rfl (by decide +kernel) (zmG_c rfl (by decide +kernel) (zmG_c rfl (by decide +kernel) (zmG_c rfl (by decide +kernel) (zmG_c rfl (by decide +kernel) (zmG_c rfl (by decide +kernel) (zmG_c rfl (by decide +kernel) (zmG_c rfl (by decide +kernel) (zmG_c rfl (by decide +kernel) (zmG_c rfl (by decide +kernel) (zmG_c rfl (by decide +kernel) (zmG_c rfl (by decide +kernel) (zmG_c rfl (by decide +kernel) (zmG_c rfl (by decide +kernel) (zmG_c rfl (by decide +kernel) (rfl))))))))))))))))
set_option maxRecDepth 20000 in
theorem zmG_4 : zmG 64 zm_4 = true := zmG_c rfl (by decide +kernel) (zmG_c rfl (by decide +kernel) (zmG_c rfl (by decide +kernel) (zmG_c rfl (by decide +kernel) (zmG_c rfl (by decide +kernel) (zmG_c rfl (by decide +kernel) (zmG_c rfl (by decide +kernel) (zmG_c rfl (by decide +kernel) (zmG_c rfl (by decide +kernel) (zmG_c rfl (by decide +kernel) (zmG_c rfl (by decide +kernel) (zmG_c rfl (by decide +kernel) (zmG_c rfl (by decide +kernel) (zmG_c rfl (by decide +kernel) (zmG_c rfl (by decide +kernel) (zmG_c rfl (by decide +kernel) (rfl))))))))))))))))
set_option maxRecDepth 20000 in
theorem zmG_5 : zmG 80 zm_5 = true := zmG_c rfl (by decide +kernel) (zmG_c rfl (by decide +kernel) (zmG_c rfl (by decide +kernel) (zmG_c rfl (by decide +kernel) (zmG_c rfl (by decide +kernel) (zmG_c rfl (by decide +kernel) (zmG_c rfl (by decide +kernel) (zmG_c rfl (by decide +kernel) (zmG_c rfl (by decide +kernel) (zmG_c rfl (by decide +kernel) (zmG_c rfl (by decide +kernel) (zmG_c rfl (by decide +kernel) (zmG_c rfl (by decide +kernel) (zmG_c rfl (by decide +kernel) (zmG_c rfl (by decide +kernel) (zmG_c rfl (by decide +kernel) (rfl))))))))))))))))
set_option maxRecDepth 20000 in
theorem zmG_6 : zmG 96 zm_6 = true := zmG_c rfl (by decide +kernel) (zmG_c rfl (by decide +kernel) (zmG_c rfl (by decide +kernel) (zmG_c rfl (by decide +kernel) (zmG_c rfl (by decide +kernel) (zmG_c rfl (by decide +kernel) (zmG_c rfl (by decide +kernel) (zmG_c rfl (by decide +kernel) (zmG_c rfl (by decide +kernel) (zmG_c rfl (by decide +kernel) (zmG_c rfl (by decide +kernel) (zmG_c rfl (by decide +kernel) (zmG_c rfl (by decide +kernel) (zmG_c rfl (by decide +kernel) (zmG_c rfl (by decide +kernel) (zmG_c rfl (by decide +kernel) (rfl))))))))))))))))
set_option maxRecDepth 20000 in
theorem zmG_7 : zmG 112 zm_7 = true := zmG_c rfl (by decide +kernel) (zmG_c rfl (by decide +kernel) (zmG_c rfl (by decide +kernel) (zmG_c rfl (by decide +kernel) (zmG_c rfl (by decide +kernel) (zmG_c rfl (by decide +kernel) (zmG_c rfl (by decide +kernel) (zmG_c rfl (by decide +kernel) (zmG_c rfl (by decide +kernel) (zmG_c rfl (by decide +kernel) (zmG_c rfl (by decide +kernel) (zmG_c rfl (by decide +kernel) (zmG_c rfl (by decide +kernel) (zmG_c rfl (by decide +kernel) (zmG_c rfl (by decide +kernel) (zmG_c rfl (by decide +kernel) (rfl))))))))))))))))
set_option maxRecDepth 20000 in
theorem zmG_8 : zmG 128 zm_8 = true := zmG_c rfl (by decide +kernel) (zmG_c rfl (by decide +kernel) (zmG_c rfl (by decide +kernel) (zmG_c rfl (by decide +kernel) (zmG_c rfl (by decide +kernel) (zmG_c rfl (by decide +kernel) (zmG_c rfl (by decide +kernel) (zmG_c rfl (by decide +kernel) (zmG_c rfl (by decide +kernel) (zmG_c rfl (by decide +kernel) (zmG_c rfl (by decide +kernel) (zmG_c rfl (by decide +kernel) (zmG_c rfl (by decide +kernel) (zmG_c rfl (by decide +kernel) (zmG_c rfl (by decide +kernel) (zmG_c rfl (by decide +kernel) (rfl))))))))))))))))
set_option maxRecDepth 20000 in
theorem zmG_9 : zmG 144 zm_9 = true := zmG_c rfl (by decide +kernel) (zmG_c rfl (by decide +kernel) (zmG_c rfl (by decide +kernel) (zmG_c rfl (by decide +kernel) (zmG_c rfl (by decide +kernel) (zmG_c rfl (by decide +kernel) (zmG_c rfl (by decide +kernel) (zmG_c rfl (by decide +kernel) (zmG_c rfl (by decide +kernel) (zmG_c rfl (by decide +kernel) (zmG_c rfl (by decide +kernel) (zmG_c rfl (by decide +kernel) (zmG_c rfl (by decide +kernel) (zmG_c rfl (by decide +kernel) (zmG_c rfl (by decide +kernel) (zmG_c rfl (by decide +kernel) (rfl))))))))))))))))
set_option maxRecDepth 20000 in
theorem zmG_10 : zmG 160 zm_10 = true := zmG_c rfl (by decide +kernel) (zmG_c rfl (by decide +kernel) (zmG_c rfl (by decide +kernel) (zmG_c rfl (by decide +kernel) (zmG_c rfl (by decide +kernel) (zmG_c rfl (by decide +kernel) (zmG_c rfl (by decide +kernel) (zmG_c rfl (by decide +kernel) (zmG_c rfl (by decide +kernel) (zmG_c rfl (by decide +kernel) (zmG_c rfl (by decide +kernel) (zmG_c rfl (by decide +kernel) (zmG_c rfl (by decide +kernel) (zmG_c rfl (by decide +kernel) (zmG_c rfl (by decide +kernel) (zmG_c rfl (by decide +kernel) (rfl))))))))))))))))
set_option maxRecDepth 20000 in
theorem zmG_11 : zmG 176 zm_11 = true := zmG_c rfl (by decide +kernel) (zmG_c rfl (by decide +kernel) (zmG_c rfl (by decide +kernel) (zmG_c rfl (by decide +kernel) (zmG_c rfl (by decide +kernel) (zmG_c rfl (by decide +kernel) (zmG_c rfl (by decide +kernel) (zmG_c rfl (by decide +kernel) (zmG_c rfl (by decide +kernel) (zmG_c rfl (by decide +kernel) (zmG_c rfl (by decide +kernel) (zmG_c rfl (by decide +kernel) (zmG_c rfl (by decide +kernel) (zmG_c rfl (by decide +kernel) (zmG_c rfl (by decide +kernel) (zmG_c rfl (by decide +kernel) (rfl))))))))))))))))
set_option maxRecDepth 20000 in
theorem zmG_12 : zmG 192 zm_12 = true := zmG_c rfl (by decide +kernel) (zmG_c rfl (by decide +kernel) (zmG_c rfl (by decide +kernel) (zmG_c rfl (by decide +kernel) (zmG_c rfl (by decide +kernel) (zmG_c rfl (by decide +kernel) (zmG_c rfl (by decide +kernel) (zmG_c rfl (by decide +kernel) (zmG_c rfl (by decide +kernel) (zmG_c rfl (by decide +kernel) (zmG_c rfl (by decide +kernel) (zmG_c rfl (by decide +kernel) (zmG_c rfl (by decide +kernel) (zmG_c rfl (by decide +kernel) (zmG_c rfl (by decide +kernel) (zmG_c rfl (by decide +kernel) (rfl))))))))))))))))
set_option maxRecDepth 20000 in
theorem zmG_13 : zmG 208 zm_13 = true := zmG_c rfl (by decide +kernel) (zmG_c rfl (by decide +kernel) (zmG_c rfl (by decide +kernel) (zmG_c rfl (by decide +kernel) (zmG_c rfl (by decide +kernel) (zmG_c rfl (by decide +kernel) (zmG_c rfl (by decide +kernel) (zmG_c rfl (by decide +kernel) (zmG_c rfl (by decide +kernel) (zmG_c rfl (by decide +kernel) (zmG_c rfl (by decide +kernel) (zmG_c rfl (by decide +kernel) (zmG_c rfl (by decide +kernel) (zmG_c rfl (by decide +kernel) (zmG_c rfl (by decide +kernel) (zmG_c rfl (by decide +kernel) (rfl))))))))))))))))
set_option maxRecDepth 20000 in
theorem zmG_14 : zmG 224 zm_14 = true := zmG_c rfl (by decide +kernel) (zmG_c rfl (by decide +kernel) (zmG_c rfl (by decide +kernel) (zmG_c rfl (by decide +kernel) (zmG_c rfl (by decide +kernel) (zmG_c rfl (by decide +kernel) (zmG_c rfl (by decide +kernel) (zmG_c rfl (by decide +kernel) (zmG_c rfl (by decide +kernel) (zmG_c rfl (by decide +kernel) (zmG_c rfl (by decide +kernel) (zmG_c rfl (by decide +kernel) (zmG_c rfl (by decide +kernel) (zmG_c rfl (by decide +kernel) (zmG_c rfl (by decide +kernel) (zmG_c rfl (by decide +kernel) (rfl))))))))))))))))
theorem zmG_15 : zmG 240 zm_15 = true := by decide +kernel
set_option maxRecDepth 20000 in
theorem zmA_ok : zmA 0 zma = true := z_and zmG_0 (z_and zmG_1 (z_and zmG_2 (z_and zmG_3 (z_and zmG_4 (z_and zmG_5 (z_and zmG_6 (z_and zmG_7 (z_and zmG_8 (z_and zmG_9 (z_and zmG_10 (z_and zmG_11 (z_and zmG_12 (z_and zmG_13 (z_and zmG_14 (z_and zmG_15 (rfl))))))))))))))))
theorem zmG_at : ∀ {g : List zM} {mi j : Nat} {M : zM}, zmG mi g = true → zget g j = some M → mi + j = zlaw ∨ zmchk (mi + j) M = true
  | [], _, _, _, _, h => by simp [zget] at h
  | x :: g, mi, 0, t, hc, h => by
    simp only [zget, Option.some.injEq] at h
    subst h
    simp only [zmG, Bool.and_eq_true, Bool.or_eq_true, decide_eq_true_eq] at hc
    exact hc.1
  | x :: g, mi, j + 1, t, hc, h => by
    simp only [zmG, Bool.and_eq_true] at hc
    have := zmG_at (g := g) (mi := mi + 1) (j := j) (M := t) hc.2 h
    rw [show mi + (j + 1) = mi + 1 + j by omega]
    exact this
theorem zmA_at : ∀ {a : List (List zM)} {mi q : Nat} {g : List zM}, zmA mi a = true → zget a q = some g → zmG (mi + 16 * q) g = true
  | [], _, _, _, _, h => by simp [zget] at h
  | x :: a, mi, 0, g, hc, h => by
    simp only [zget, Option.some.injEq] at h
    subst h
    simp only [zmA, Bool.and_eq_true] at hc
    exact hc.1
  | x :: a, mi, q + 1, g, hc, h => by
    simp only [zmA, Bool.and_eq_true] at hc
    have := zmA_at (a := a) (mi := mi + 16) (q := q) (g := g) hc.2 h
    rw [show mi + 16 * (q + 1) = mi + 16 + 16 * q by omega]
    exact this
theorem zm_ok {mi : Nat} {M : zM} (h : zm mi = some M) (hl : mi ≠ zlaw) : zmchk mi M = true := by
  unfold zm at h
  cases h1 : zget zma (mi / 16) with
  | none => simp [h1] at h
  | some g =>
    simp only [h1] at h
    have a := zmG_at (zmA_at zmA_ok h1) h
    rw [show 0 + 16 * (mi / 16) + mi % 16 = mi by omega] at a
    exact a.resolve_left hl
