theorem zN_at : zatl lw_tbl zNp zN = true := by decide +kernel
theorem zWall_in : ∀ w ∈ zWall, w ∈ lw_tbl := fun w h => (List.mem_append.mp h).elim (zW_at w) (zatll_in zC_at w)
theorem zN_in : ∀ w ∈ zN, w ∈ lw_tbl := zatl_in zN_at
theorem zWall_good : zWall.all goodWord = true := by decide +kernel
theorem zN_tabs : zN.all (fun w => w.onTables) = true := by decide +kernel
theorem zin_0 : ∀ w ∈ u_ws RX0 TX0 6, w ∈ zWall := fun w h => List.mem_append_right _ (List.mem_flatten.mpr ⟨_, List.mem_of_getElem? (i := 0) rfl, h⟩)
theorem zin_1 : ∀ w ∈ u_ws RX1 TX1 6, w ∈ zWall := fun w h => List.mem_append_right _ (List.mem_flatten.mpr ⟨_, List.mem_of_getElem? (i := 1) rfl, h⟩)
theorem zin_2 : ∀ w ∈ u_ws RX2 TX2 11, w ∈ zWall := fun w h => List.mem_append_right _ (List.mem_flatten.mpr ⟨_, List.mem_of_getElem? (i := 2) rfl, h⟩)
theorem zin_3 : ∀ w ∈ u_ws RX3 TX3 7, w ∈ zWall := fun w h => List.mem_append_right _ (List.mem_flatten.mpr ⟨_, List.mem_of_getElem? (i := 3) rfl, h⟩)
theorem zin_4 : ∀ w ∈ u_ws RX4 TX4 4, w ∈ zWall := fun w h => List.mem_append_right _ (List.mem_flatten.mpr ⟨_, List.mem_of_getElem? (i := 4) rfl, h⟩)
theorem zin_5 : ∀ w ∈ u_ws RX5 TX5 4, w ∈ zWall := fun w h => List.mem_append_right _ (List.mem_flatten.mpr ⟨_, List.mem_of_getElem? (i := 5) rfl, h⟩)
theorem zin_6 : ∀ w ∈ u_ws RX6 TX6 3, w ∈ zWall := fun w h => List.mem_append_right _ (List.mem_flatten.mpr ⟨_, List.mem_of_getElem? (i := 6) rfl, h⟩)
theorem zin_7 : ∀ w ∈ u_ws RX7 TX7 5, w ∈ zWall := fun w h => List.mem_append_right _ (List.mem_flatten.mpr ⟨_, List.mem_of_getElem? (i := 7) rfl, h⟩)
theorem zin_8 : ∀ w ∈ u_ws RX8 TX8 5, w ∈ zWall := fun w h => List.mem_append_right _ (List.mem_flatten.mpr ⟨_, List.mem_of_getElem? (i := 8) rfl, h⟩)
theorem zin_9 : ∀ w ∈ u_ws RX9 TX9 7, w ∈ zWall := fun w h => List.mem_append_right _ (List.mem_flatten.mpr ⟨_, List.mem_of_getElem? (i := 9) rfl, h⟩)
theorem zin_10 : ∀ w ∈ u_ws RX10 TX10 5, w ∈ zWall := fun w h => List.mem_append_right _ (List.mem_flatten.mpr ⟨_, List.mem_of_getElem? (i := 10) rfl, h⟩)
theorem zin_11 : ∀ w ∈ u_ws RX11 TX11 14, w ∈ zWall := fun w h => List.mem_append_right _ (List.mem_flatten.mpr ⟨_, List.mem_of_getElem? (i := 11) rfl, h⟩)
theorem zin_12 : ∀ w ∈ u_ws RX12 TX12 49, w ∈ zWall := fun w h => List.mem_append_right _ (List.mem_flatten.mpr ⟨_, List.mem_of_getElem? (i := 12) rfl, h⟩)
theorem zw_in {p : Nat} {w : Cond} (h : zis p w = true) : w ∈ zWall := by
  have h : zw p = some w := of_decide_eq_true h
  unfold zw at h
  cases h1 : zget zW (p / 16) with
  | none =>
    rw [h1] at h
    cases h
  | some g =>
    rw [h1] at h
    exact List.mem_append_left _ (List.mem_flatten.mpr ⟨g, zget_mem6 h1, zget_mem6 h⟩)
/-- a method's own words -/
def zmchk (mi : Nat) (M : zM) : Bool := match M with
  | (y, cc, L, r, n, st, p0, p1, p2, p3) => zis p0 (.code y cc L r) && zis p1 (.initialized y.cls) && (bif st then zis p2 (.static y) else zis p2 (.instanceMethod y) && (decide (y.name = "<init>") || zis p3 (.selects y.cls y y))) && decide (plainName y.cls = true) && decide (y.cls ≠ "java/lang/invoke/MethodHandle" ∧ y.cls ≠ "java/lang/invoke/VarHandle") && decide ((parseMethodDescriptor y.desc).map (fun d => d.parameters.length) = some n) && decide (L ≤ 20) && decide (zL mi = L)
def zmG : Nat → List zM → Bool
  | _, [] => true
  | mi, M :: r => (decide (mi = zlaw) || zmchk mi M) && zmG (mi + 1) r
def zmA : Nat → List (List zM) → Bool
  | _, [] => true
  | mi, g :: r => zmG mi g && zmA (mi + 16) r
def zmchk2 (mi : Nat) (M : zM) : Bool := match M with
  | (y, cc, L, r, n, st, p0, p1, p2, p3) => true && zis p1 (.initialized y.cls) && (bif st then zis p2 (.static y) else zis p2 (.instanceMethod y) && (decide (y.name = "<init>") || zis p3 (.selects y.cls y y))) && decide (plainName y.cls = true) && decide (y.cls ≠ "java/lang/invoke/MethodHandle" ∧ y.cls ≠ "java/lang/invoke/VarHandle") && decide ((parseMethodDescriptor y.desc).map (fun d => d.parameters.length) = some n) && decide (L ≤ 20) && decide (zL mi = L)
theorem zmG_c {mi : Nat} {M : zM} {g : List zM} (h : zw M.2.2.2.2.2.2.1 = some (.code M.1 M.2.1 M.2.2.1 M.2.2.2.1)) (h2 : zmchk2 mi M = true) (t : zmG (mi + 1) g = true) : zmG mi (M :: g) = true := by
  have e : zmchk mi M = true := by
    obtain ⟨y, cc, L, r, n, st, p0, p1, p2, p3⟩ := M
    have h0 : zis p0 (.code y cc L r) = true := decide_eq_true h
    simp only [zmchk]
    rw [h0]
    exact h2
  show ((decide (mi = zlaw) || zmchk mi M) && zmG (mi + 1) g) = true
  rw [e, Bool.or_true, t]
  rfl
