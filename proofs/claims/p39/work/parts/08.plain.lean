/-! A STEP AT A TIME: what the small machine does, the real one does: instructions that leave the cells alone. -/
def zX (p : Program) (s : State) (m : MethodId) (args : Array Value) (meth : Method) (c : Code) (M : zM) (D : va_G) (sa : Nat → Nat) (base : Nat) : Prop :=
  p.tables.exec = Jvm.exec ∧ c.code = M.2.1 ∧ c.maxLocals = M.2.2.1 ∧ s.vm.findClass M.1.cls = some m.cls ∧ (M.1.name = "<init>" → meth.name = "<init>") ∧ (∀ w ∈ zWall, w.before args s = true) ∧ zG D sa base s s.heap ∧ base ≤ s.heap.size
def zIn (D : va_G) (sa : Nat → Nat) (base L : Nat) (s : State) (H : Heap) (locs : List Loc) (lo : List (Option Value)) (h : zH) (ls : Array Slot) : Prop :=
  lv_has ls L (zlvl (zad sa base) 0 lo) ∧ lo.length = L ∧ zRep D sa base s H h ∧ va_S (zA base) s.heap H locs
def zK (p : Program) (l : Launch) (e : Env) (R : Room) (s : State) (m : MethodId) (args : Array Value) (below : List Frame) (meth : Method) (c : Code) (cells slots : Nat) (Q : State → Prop) (D : va_G) (sa : Nat → Nat) (base L : Nat) (h : zH) (y : zC) : Prop :=
  ∀ (ls' : Array Slot) (H' : Heap) (locs' : List Loc) (cells' slots' : Nat), zIn D sa base L s H' locs' y.2.1 y.2.2.2 ls' → cells' + h.1.length = cells + y.2.2.2.1.length → slots' + zslots h.1 = slots + zslots y.2.2.2.1 → W p l e R s m args below meth c H' locs' cells' slots' Q (F0 m y.1 ls' (y.2.2.1.map (zv (zad sa base))))
theorem zcat1 {ad : Nat → Nat} {v : Value} (h : zlong v = false) : (zv ad v).category = 1 := by
  rw [zv_cat]
  rcases lv_cat v with q | q
  · exact q
  · rw [(zlong_cat v).mpr q] at h
    exact absurd h (by decide)
/-- a table's row -/
theorem zrows_in {pc : Nat} {x : Int32} {d : Nat} : ∀ {lo : Int} {os : List Int} {r : List (Int32 × Nat)}, zrows pc lo os r = true → ¬ x.toInt < lo → ¬ lo + (os.length : Int) - 1 < x.toInt → ∃ off, os[(x.toInt - lo).toNat]? = some off ∧ (pc : Int) + off = (zsw x r d : Int)
  | lo, [], [], _, h1, h2 => by simp at h2; omega
  | lo, [], _ :: _, h, _, _ => by simp [zrows] at h
  | lo, _ :: _, [], h, _, _ => by simp [zrows] at h
  | lo, o :: os, (k, t) :: r, h, h1, h2 => by
    simp only [zrows, Bool.and_eq_true, decide_eq_true_eq] at h
    obtain ⟨⟨e1, e2⟩, e3⟩ := h
    by_cases hx : x = k
    · subst hx
      refine ⟨o, ?_, ?_⟩
      · rw [e1]
        simp
      · simp only [zsw, if_pos rfl]
        exact e2
    · have hne : x.toInt ≠ lo := fun q => hx (Int32.toInt_inj.mp (q.trans e1.symm))
      obtain ⟨off, f1, f2⟩ := zrows_in (x := x) (d := d) e3 (by omega) (by simp only [List.length_cons] at h2; omega)
      refine ⟨off, ?_, ?_⟩
      · rw [show (x.toInt - lo).toNat = (x.toInt - (lo + 1)).toNat + 1 by omega]
        simpa using f1
      · simp only [zsw, if_neg hx]
        exact f2
theorem zrows_out {pc : Nat} {x : Int32} {d : Nat} : ∀ {lo : Int} {os : List Int} {r : List (Int32 × Nat)}, zrows pc lo os r = true → (x.toInt < lo ∨ lo + (os.length : Int) - 1 < x.toInt) → zsw x r d = d
  | lo, [], [], _, _ => rfl
  | lo, [], _ :: _, h, _ => by simp [zrows] at h
  | lo, _ :: _, [], h, _ => by simp [zrows] at h
  | lo, o :: os, (k, t) :: r, h, h1 => by
    simp only [zrows, Bool.and_eq_true, decide_eq_true_eq] at h
    obtain ⟨⟨e1, e2⟩, e3⟩ := h
    simp only [List.length_cons] at h1
    have hx : ¬ x = k := fun q => by subst q; omega
    simp only [zsw, if_neg hx]
    exact zrows_out (x := x) (d := d) e3 (by omega)
theorem zrowl_at {pc : Nat} {x : Int32} {d : Nat} {df : Int} (hd : (pc : Int) + df = (d : Int)) : ∀ {ps : List (Int × Int)} {r : List (Int32 × Nat)}, zrowl pc ps r = true → (pc : Int) + Op.lookupswitch.offset ps df x.toInt = (zsw x r d : Int)
  | [], [], _ => hd
  | [], _ :: _, h => by simp [zrowl] at h
  | _ :: _, [], h => by simp [zrowl] at h
  | (n, o) :: ps, (k, t) :: r, h => by
    simp only [zrowl, Bool.and_eq_true, decide_eq_true_eq] at h
    obtain ⟨⟨e1, e2⟩, e3⟩ := h
    rw [Op.lookupswitch.offset_cons]
    by_cases hx : x = k
    · subst hx
      rw [if_pos e1.symm]
      simp only [zsw, if_pos rfl]
      exact e2
    · have hne : ¬ n = x.toInt := fun q => hx (Int32.toInt_inj.mp (q.symm.trans e1.symm))
      rw [if_neg hne]
      simp only [zsw, if_neg hx]
      exact zrowl_at hd e3
section ZW
variable {p : Program} {l : Launch} {e : Env} {R : Room} {s : State} {m : MethodId} {args : Array Value} {below : List Frame} {meth : Method} {c : Code} {H : Heap} {locs : List Loc} {cells slots : Nat} {Q : State → Prop}
variable {M : zM} {D : va_G} {sa : Nat → Nat} {base : Nat} {pc len a b k3 : Nat} {v : Value} {sw : List (Int32 × Nat)} {i : Instr} {lo : List (Option Value)} {st : List Value} {h : zH} {ls : Array Slot} {y : zC}
theorem zw_0 (C : zX p s m args meth c M D sa base) (hd : decode M.2.1 pc = .ok (i, len)) (hc : zc0 M.1.cls len v sw i = true) (I : zIn D sa base M.2.2.1 s H locs lo h ls) (hs : zs0 len v (pc, lo, st, h) = some (.inl y)) (kk : zK p l e R s m args below meth c cells slots Q D sa base M.2.2.1 h y) : W p l e R s m args below meth c H locs cells slots Q (F0 m pc ls (st.map (zv (zad sa base)))) := by
  obtain ⟨hx, hb, hml, hown, hnm, hts, hG, hbs⟩ := C
  simp only [zs0] at hs
  simp only [zgo, Option.some.injEq, Sum.inl.injEq] at hs
  subst hs
  unfold zc0 at hc
  split at hc
  · simp only [Bool.and_eq_true, decide_eq_true_eq] at hc
    obtain ⟨h1, h2⟩ := hc
    subst h1; subst h2
    exact lv_iconst hx hb hd rfl (kk _ _ _ _ _ I rfl rfl)
  · simp only [Bool.and_eq_true, decide_eq_true_eq] at hc
    obtain ⟨h1, h2⟩ := hc
    subst h1; subst h2
    exact lv_bipush hx hb hd rfl (kk _ _ _ _ _ I rfl rfl)
  · simp only [Bool.and_eq_true, decide_eq_true_eq] at hc
    obtain ⟨h1, h2⟩ := hc
    subst h1; subst h2
    exact lv_sipush hx hb hd rfl (kk _ _ _ _ _ I rfl rfl)
  · rw [Bool.and_eq_true, decide_eq_true_eq] at hc
    obtain ⟨h1, h2⟩ := hc
    subst h1
    split at h2
    · exact lv_ldc hx hb hown (hts _ (zw_in h2)) hd (kk _ _ _ _ _ I rfl rfl)
    · cases h2
  · rw [Bool.and_eq_true, decide_eq_true_eq] at hc
    obtain ⟨h1, h2⟩ := hc
    subst h1
    split at h2
    · exact lv_ldcw hx hb hown (hts _ (zw_in h2)) hd (kk _ _ _ _ _ I rfl rfl)
    · cases h2
  · simp only [Bool.and_eq_true, decide_eq_true_eq] at hc
    obtain ⟨h1, h2⟩ := hc
    subst h1; subst h2
    exact lv_lconst hx hb hd rfl (kk _ _ _ _ _ I rfl rfl)
  · rw [Bool.and_eq_true, decide_eq_true_eq] at hc
    obtain ⟨h1, h2⟩ := hc
    subst h1
    split at h2
    · exact lv_ldc2 hx hb hown (hts _ (zw_in h2)) hd (kk _ _ _ _ _ I rfl rfl)
    · cases h2
  · cases hc
theorem zw_1 (C : zX p s m args meth c M D sa base) (hd : decode M.2.1 pc = .ok (i, len)) (hc : zc1 len a i = true) (I : zIn D sa base M.2.2.1 s H locs lo h ls) (hs : zs1 len a (pc, lo, st, h) = some (.inl y)) (kk : zK p l e R s m args below meth c cells slots Q D sa base M.2.2.1 h y) : W p l e R s m args below meth c H locs cells slots Q (F0 m pc ls (st.map (zv (zad sa base)))) := by
  obtain ⟨hx, hb, hml, hown, hnm, hts, hG, hbs⟩ := C
  simp only [zs1] at hs
  split at hs
  · rename_i x hg
    simp only [zgo, Option.some.injEq, Sum.inl.injEq] at hs
    subst hs
    unfold zc1 at hc
    split at hc
    · simp only [Bool.and_eq_true, decide_eq_true_eq] at hc
      obtain ⟨h1, h2⟩ := hc
      subst h1; subst h2
      exact lv_iload hx hb hd (zlv_get I.1 hg) (kk _ _ _ _ _ I rfl rfl)
    · simp only [Bool.and_eq_true, decide_eq_true_eq] at hc
      obtain ⟨h1, h2⟩ := hc
      subst h1
      exact lv_iload_n hx hb hd h2 (zlv_get I.1 hg) (kk _ _ _ _ _ I rfl rfl)
    · cases hc
  · cases hs
theorem zw_2 (C : zX p s m args meth c M D sa base) (hd : decode M.2.1 pc = .ok (i, len)) (hc : zc2 len a i = true) (I : zIn D sa base M.2.2.1 s H locs lo h ls) (hs : zs2 len a (pc, lo, st, h) = some (.inl y)) (kk : zK p l e R s m args below meth c cells slots Q D sa base M.2.2.1 h y) : W p l e R s m args below meth c H locs cells slots Q (F0 m pc ls (st.map (zv (zad sa base)))) := by
  obtain ⟨hx, hb, hml, hown, hnm, hts, hG, hbs⟩ := C
  simp only [zs2] at hs
  split at hs
  · rename_i x hg
    simp only [zgo, Option.some.injEq, Sum.inl.injEq] at hs
    subst hs
    unfold zc2 at hc
    split at hc
    · simp only [Bool.and_eq_true, decide_eq_true_eq] at hc
      obtain ⟨h1, h2⟩ := hc
      subst h1; subst h2
      exact lv_lload hx hb hd (zlv_get I.1 hg) (kk _ _ _ _ _ I rfl rfl)
    · simp only [Bool.and_eq_true, decide_eq_true_eq] at hc
      obtain ⟨h1, h2⟩ := hc
      subst h1
      exact lv_lload_n hx hb hd h2 (zlv_get I.1 hg) (kk _ _ _ _ _ I rfl rfl)
    · cases hc
  · cases hs
theorem zw_3 (C : zX p s m args meth c M D sa base) (hd : decode M.2.1 pc = .ok (i, len)) (hc : zc3 len a i = true) (I : zIn D sa base M.2.2.1 s H locs lo h ls) (hs : zs3 len a (pc, lo, st, h) = some (.inl y)) (kk : zK p l e R s m args below meth c cells slots Q D sa base M.2.2.1 h y) : W p l e R s m args below meth c H locs cells slots Q (F0 m pc ls (st.map (zv (zad sa base)))) := by
  obtain ⟨hx, hb, hml, hown, hnm, hts, hG, hbs⟩ := C
  simp only [zs3] at hs
  split at hs
  · rename_i x hg
    simp only [zgo, Option.some.injEq, Sum.inl.injEq] at hs
    subst hs
    unfold zc3 at hc
    split at hc
    · simp only [Bool.and_eq_true, decide_eq_true_eq] at hc
      obtain ⟨h1, h2⟩ := hc
      subst h1; subst h2
      exact lv_aload hx hb hd (zlv_get I.1 hg) (kk _ _ _ _ _ I rfl rfl)
    · simp only [Bool.and_eq_true, decide_eq_true_eq] at hc
      obtain ⟨h1, h2⟩ := hc
      subst h1
      exact lv_aload_n hx hb hd h2 (zlv_get I.1 hg) (kk _ _ _ _ _ I rfl rfl)
    · cases hc
  · cases hs
theorem zw_4 (C : zX p s m args meth c M D sa base) (hd : decode M.2.1 pc = .ok (i, len)) (hc : zc4 M.2.2.1 len a i = true) (I : zIn D sa base M.2.2.1 s H locs lo h ls) (hs : zs4 len a (pc, lo, st, h) = some (.inl y)) (kk : zK p l e R s m args below meth c cells slots Q D sa base M.2.2.1 h y) : W p l e R s m args below meth c H locs cells slots Q (F0 m pc ls (st.map (zv (zad sa base)))) := by
  obtain ⟨hx, hb, hml, hown, hnm, hts, hG, hbs⟩ := C
  simp only [zs4] at hs
  split at hs
  · simp only [zgo, Option.some.injEq, Sum.inl.injEq] at hs
    subst hs
    unfold zc4 at hc
    split at hc
    · simp only [Bool.and_eq_true, decide_eq_true_eq] at hc
      obtain ⟨⟨h1, h2⟩, h3⟩ := hc
      subst h1; subst h2
      exact lv_istore hx hb hd I.1 h3 rfl (fun ls' hl => kk _ _ _ _ _ ⟨zst1_lv I.2.1 h3 hl, by rw [zst1_length]; exact I.2.1, I.2.2⟩ rfl rfl)
    · simp only [Bool.and_eq_true, decide_eq_true_eq] at hc
      obtain ⟨⟨h1, h2⟩, h3⟩ := hc
      subst h1
      exact lv_istore_n hx hb hd h2 I.1 h3 rfl (fun ls' hl => kk _ _ _ _ _ ⟨zst1_lv I.2.1 h3 hl, by rw [zst1_length]; exact I.2.1, I.2.2⟩ rfl rfl)
    · cases hc
  · cases hs
theorem zw_5 (C : zX p s m args meth c M D sa base) (hd : decode M.2.1 pc = .ok (i, len)) (hc : zc5 M.2.2.1 len a i = true) (I : zIn D sa base M.2.2.1 s H locs lo h ls) (hs : zs5 len a (pc, lo, st, h) = some (.inl y)) (kk : zK p l e R s m args below meth c cells slots Q D sa base M.2.2.1 h y) : W p l e R s m args below meth c H locs cells slots Q (F0 m pc ls (st.map (zv (zad sa base)))) := by
  obtain ⟨hx, hb, hml, hown, hnm, hts, hG, hbs⟩ := C
  simp only [zs5] at hs
  split at hs
  · simp only [zgo, Option.some.injEq, Sum.inl.injEq] at hs
    subst hs
    unfold zc5 at hc
    split at hc
    · simp only [Bool.and_eq_true, decide_eq_true_eq] at hc
      obtain ⟨⟨h1, h2⟩, h3⟩ := hc
      subst h1; subst h2
      exact lv_lstore hx hb hd I.1 h3 rfl (fun ls' hl => kk _ _ _ _ _ ⟨zst2_lv I.2.1 h3 hl, by rw [zst2_length]; exact I.2.1, I.2.2⟩ rfl rfl)
    · simp only [Bool.and_eq_true, decide_eq_true_eq] at hc
      obtain ⟨⟨h1, h2⟩, h3⟩ := hc
      subst h1
      exact lv_lstore_n hx hb hd h2 I.1 h3 rfl (fun ls' hl => kk _ _ _ _ _ ⟨zst2_lv I.2.1 h3 hl, by rw [zst2_length]; exact I.2.1, I.2.2⟩ rfl rfl)
    · cases hc
  · cases hs
theorem zw_6 (C : zX p s m args meth c M D sa base) (hd : decode M.2.1 pc = .ok (i, len)) (hc : zc6 M.2.2.1 len a i = true) (I : zIn D sa base M.2.2.1 s H locs lo h ls) (hs : zs6 len a (pc, lo, st, h) = some (.inl y)) (kk : zK p l e R s m args below meth c cells slots Q D sa base M.2.2.1 h y) : W p l e R s m args below meth c H locs cells slots Q (F0 m pc ls (st.map (zv (zad sa base)))) := by
  obtain ⟨hx, hb, hml, hown, hnm, hts, hG, hbs⟩ := C
  simp only [zs6] at hs
  split at hs
  · simp only [zgo, Option.some.injEq, Sum.inl.injEq] at hs
    subst hs
    unfold zc6 at hc
    split at hc
    · simp only [Bool.and_eq_true, decide_eq_true_eq] at hc
      obtain ⟨⟨h1, h2⟩, h3⟩ := hc
      subst h1; subst h2
      exact lv_astore hx hb hd I.1 h3 rfl (fun ls' hl => kk _ _ _ _ _ ⟨zst1_lv I.2.1 h3 hl, by rw [zst1_length]; exact I.2.1, I.2.2⟩ rfl rfl)
    · simp only [Bool.and_eq_true, decide_eq_true_eq] at hc
      obtain ⟨⟨h1, h2⟩, h3⟩ := hc
      subst h1
      exact lv_astore_n hx hb hd h2 I.1 h3 rfl (fun ls' hl => kk _ _ _ _ _ ⟨zst1_lv I.2.1 h3 hl, by rw [zst1_length]; exact I.2.1, I.2.2⟩ rfl rfl)
    · cases hc
  · cases hs
theorem zw_7 (C : zX p s m args meth c M D sa base) (hd : decode M.2.1 pc = .ok (i, len)) (hc : zc7 len b i = true) (I : zIn D sa base M.2.2.1 s H locs lo h ls) (hs : zs7 len b (pc, lo, st, h) = some (.inl y)) (kk : zK p l e R s m args below meth c cells slots Q D sa base M.2.2.1 h y) : W p l e R s m args below meth c H locs cells slots Q (F0 m pc ls (st.map (zv (zad sa base)))) := by
  obtain ⟨hx, hb, hml, hown, hnm, hts, hG, hbs⟩ := C
  simp only [zs7] at hs
  split at hs
  · simp only [zgo, Option.some.injEq, Sum.inl.injEq] at hs
    subst hs
    unfold zc7 at hc
    split at hc
    · simp only [Bool.and_eq_true, decide_eq_true_eq] at hc
      obtain ⟨h1, h2⟩ := hc
      subst h1; subst h2
      exact lv_iadd hx hb hd (kk _ _ _ _ _ I rfl rfl)
    · simp only [Bool.and_eq_true, decide_eq_true_eq] at hc
      obtain ⟨h1, h2⟩ := hc
      subst h1; subst h2
      exact lv_isub hx hb hd (kk _ _ _ _ _ I rfl rfl)
    · simp only [Bool.and_eq_true, decide_eq_true_eq] at hc
      obtain ⟨h1, h2⟩ := hc
      subst h1; subst h2
      exact lv_imul hx hb hd (kk _ _ _ _ _ I rfl rfl)
    · simp only [Bool.and_eq_true, decide_eq_true_eq] at hc
      obtain ⟨h1, h2⟩ := hc
      subst h1; subst h2
      exact lv_iand hx hb hd (kk _ _ _ _ _ I rfl rfl)
    · simp only [Bool.and_eq_true, decide_eq_true_eq] at hc
      obtain ⟨h1, h2⟩ := hc
      subst h1; subst h2
      exact lv_ior hx hb hd (kk _ _ _ _ _ I rfl rfl)
    · simp only [Bool.and_eq_true, decide_eq_true_eq] at hc
      obtain ⟨h1, h2⟩ := hc
      subst h1; subst h2
      exact lv_ixor hx hb hd (kk _ _ _ _ _ I rfl rfl)
    · simp only [Bool.and_eq_true, decide_eq_true_eq] at hc
      obtain ⟨h1, h2⟩ := hc
      subst h1; subst h2
      exact lv_ishl hx hb hd (kk _ _ _ _ _ I rfl rfl)
    · simp only [Bool.and_eq_true, decide_eq_true_eq] at hc
      obtain ⟨h1, h2⟩ := hc
      subst h1; subst h2
      exact lv_ishr hx hb hd (kk _ _ _ _ _ I rfl rfl)
    · simp only [Bool.and_eq_true, decide_eq_true_eq] at hc
      obtain ⟨h1, h2⟩ := hc
      subst h1; subst h2
      exact lv_iushr hx hb hd rfl (kk _ _ _ _ _ I rfl rfl)
    · cases hc
  · cases hs
theorem zw_8 (C : zX p s m args meth c M D sa base) (hd : decode M.2.1 pc = .ok (i, len)) (hc : zc8 len b i = true) (I : zIn D sa base M.2.2.1 s H locs lo h ls) (hs : zs8 len b (pc, lo, st, h) = some (.inl y)) (kk : zK p l e R s m args below meth c cells slots Q D sa base M.2.2.1 h y) : W p l e R s m args below meth c H locs cells slots Q (F0 m pc ls (st.map (zv (zad sa base)))) := by
  obtain ⟨hx, hb, hml, hown, hnm, hts, hG, hbs⟩ := C
  simp only [zs8] at hs
  split at hs
  · split at hs
    · cases hs
    · rename_i hy
      simp only [zgo, Option.some.injEq, Sum.inl.injEq] at hs
      subst hs
      unfold zc8 at hc
      split at hc
      · simp only [Bool.and_eq_true, decide_eq_true_eq] at hc
        obtain ⟨h1, h2⟩ := hc
        subst h1; subst h2
        exact lv_idiv hx hb hd hy (kk _ _ _ _ _ I rfl rfl)
      · simp only [Bool.and_eq_true, decide_eq_true_eq] at hc
        obtain ⟨h1, h2⟩ := hc
        subst h1; subst h2
        exact lv_irem hx hb hd hy (kk _ _ _ _ _ I rfl rfl)
      · cases hc
  · cases hs
theorem zw_9 (C : zX p s m args meth c M D sa base) (hd : decode M.2.1 pc = .ok (i, len)) (hc : zc9 len b i = true) (I : zIn D sa base M.2.2.1 s H locs lo h ls) (hs : zs9 len b (pc, lo, st, h) = some (.inl y)) (kk : zK p l e R s m args below meth c cells slots Q D sa base M.2.2.1 h y) : W p l e R s m args below meth c H locs cells slots Q (F0 m pc ls (st.map (zv (zad sa base)))) := by
  obtain ⟨hx, hb, hml, hown, hnm, hts, hG, hbs⟩ := C
  simp only [zs9] at hs
  split at hs
  · simp only [zgo, Option.some.injEq, Sum.inl.injEq] at hs
    subst hs
    unfold zc9 at hc
    split at hc
    · simp only [Bool.and_eq_true, decide_eq_true_eq] at hc
      obtain ⟨h1, h2⟩ := hc
      subst h1; subst h2
      exact lv_ineg hx hb hd (kk _ _ _ _ _ I rfl rfl)
    · simp only [Bool.and_eq_true, decide_eq_true_eq] at hc
      obtain ⟨h1, h2⟩ := hc
      subst h1; subst h2
      exact lv_i2b hx hb hd rfl (kk _ _ _ _ _ I rfl rfl)
    · simp only [Bool.and_eq_true, decide_eq_true_eq] at hc
      obtain ⟨h1, h2⟩ := hc
      subst h1; subst h2
      exact lv_i2s hx hb hd rfl (kk _ _ _ _ _ I rfl rfl)
    · cases hc
  · cases hs
theorem zw_10 (C : zX p s m args meth c M D sa base) (hd : decode M.2.1 pc = .ok (i, len)) (hc : zc10 len i = true) (I : zIn D sa base M.2.2.1 s H locs lo h ls) (hs : zs10 len (pc, lo, st, h) = some (.inl y)) (kk : zK p l e R s m args below meth c cells slots Q D sa base M.2.2.1 h y) : W p l e R s m args below meth c H locs cells slots Q (F0 m pc ls (st.map (zv (zad sa base)))) := by
  obtain ⟨hx, hb, hml, hown, hnm, hts, hG, hbs⟩ := C
  simp only [zs10] at hs
  split at hs
  · simp only [zgo, Option.some.injEq, Sum.inl.injEq] at hs
    subst hs
    unfold zc10 at hc
    split at hc
    · simp only [Bool.and_eq_true, decide_eq_true_eq] at hc
      subst hc
      exact lv_i2l hx hb hd rfl (kk _ _ _ _ _ I rfl rfl)
    · cases hc
  · cases hs
theorem zw_11 (C : zX p s m args meth c M D sa base) (hd : decode M.2.1 pc = .ok (i, len)) (hc : zc11 len i = true) (I : zIn D sa base M.2.2.1 s H locs lo h ls) (hs : zs11 len (pc, lo, st, h) = some (.inl y)) (kk : zK p l e R s m args below meth c cells slots Q D sa base M.2.2.1 h y) : W p l e R s m args below meth c H locs cells slots Q (F0 m pc ls (st.map (zv (zad sa base)))) := by
  obtain ⟨hx, hb, hml, hown, hnm, hts, hG, hbs⟩ := C
  simp only [zs11] at hs
  split at hs
  · simp only [zgo, Option.some.injEq, Sum.inl.injEq] at hs
    subst hs
    unfold zc11 at hc
    split at hc
    · simp only [Bool.and_eq_true, decide_eq_true_eq] at hc
      subst hc
      exact lv_l2i hx hb hd rfl (kk _ _ _ _ _ I rfl rfl)
    · cases hc
  · cases hs
theorem zw_12 (C : zX p s m args meth c M D sa base) (hd : decode M.2.1 pc = .ok (i, len)) (hc : zc12 len b i = true) (I : zIn D sa base M.2.2.1 s H locs lo h ls) (hs : zs12 len b (pc, lo, st, h) = some (.inl y)) (kk : zK p l e R s m args below meth c cells slots Q D sa base M.2.2.1 h y) : W p l e R s m args below meth c H locs cells slots Q (F0 m pc ls (st.map (zv (zad sa base)))) := by
  obtain ⟨hx, hb, hml, hown, hnm, hts, hG, hbs⟩ := C
  simp only [zs12] at hs
  split at hs
  · simp only [zgo, Option.some.injEq, Sum.inl.injEq] at hs
    subst hs
    unfold zc12 at hc
    split at hc
    · simp only [Bool.and_eq_true, decide_eq_true_eq] at hc
      obtain ⟨h1, h2⟩ := hc
      subst h1; subst h2
      exact lv_land hx hb hd (kk _ _ _ _ _ I rfl rfl)
    · simp only [Bool.and_eq_true, decide_eq_true_eq] at hc
      obtain ⟨h1, h2⟩ := hc
      subst h1; subst h2
      exact lv_lor hx hb hd (kk _ _ _ _ _ I rfl rfl)
    · cases hc
  · cases hs
theorem zw_13 (C : zX p s m args meth c M D sa base) (hd : decode M.2.1 pc = .ok (i, len)) (hc : zc13 len i = true) (I : zIn D sa base M.2.2.1 s H locs lo h ls) (hs : zs13 len (pc, lo, st, h) = some (.inl y)) (kk : zK p l e R s m args below meth c cells slots Q D sa base M.2.2.1 h y) : W p l e R s m args below meth c H locs cells slots Q (F0 m pc ls (st.map (zv (zad sa base)))) := by
  obtain ⟨hx, hb, hml, hown, hnm, hts, hG, hbs⟩ := C
  simp only [zs13] at hs
  split at hs
  · simp only [zgo, Option.some.injEq, Sum.inl.injEq] at hs
    subst hs
    unfold zc13 at hc
    split at hc
    · simp only [Bool.and_eq_true, decide_eq_true_eq] at hc
      subst hc
      exact lv_lshl hx hb hd rfl (kk _ _ _ _ _ I rfl rfl)
    · cases hc
  · cases hs
theorem zw_14 (C : zX p s m args meth c M D sa base) (hd : decode M.2.1 pc = .ok (i, len)) (hc : zc14 len i = true) (I : zIn D sa base M.2.2.1 s H locs lo h ls) (hs : zs14 len (pc, lo, st, h) = some (.inl y)) (kk : zK p l e R s m args below meth c cells slots Q D sa base M.2.2.1 h y) : W p l e R s m args below meth c H locs cells slots Q (F0 m pc ls (st.map (zv (zad sa base)))) := by
  obtain ⟨hx, hb, hml, hown, hnm, hts, hG, hbs⟩ := C
  simp only [zs14] at hs
  split at hs
  · simp only [zgo, Option.some.injEq, Sum.inl.injEq] at hs
    subst hs
    unfold zc14 at hc
    split at hc
    · simp only [Bool.and_eq_true, decide_eq_true_eq] at hc
      subst hc
      exact W.lcmp hx hb hd (kk _ _ _ _ _ I rfl rfl)
    · cases hc
  · cases hs
theorem zw_15 (C : zX p s m args meth c M D sa base) (hd : decode M.2.1 pc = .ok (i, len)) (hc : zc15 pc len a b i = true) (I : zIn D sa base M.2.2.1 s H locs lo h ls) (hs : zs15 len a b (pc, lo, st, h) = some (.inl y)) (kk : zK p l e R s m args below meth c cells slots Q D sa base M.2.2.1 h y) : W p l e R s m args below meth c H locs cells slots Q (F0 m pc ls (st.map (zv (zad sa base)))) := by
  obtain ⟨hx, hb, hml, hown, hnm, hts, hG, hbs⟩ := C
  simp only [zs15] at hs
  split at hs
  · simp only [zgo, Option.some.injEq, Sum.inl.injEq] at hs
    subst hs
    unfold zc15 at hc
    split at hc
    · rename_i kd off
      simp only [Bool.and_eq_true, decide_eq_true_eq] at hc
      obtain ⟨⟨h1, h2⟩, h3⟩ := hc
      subst h1; subst h2
      have K : ∀ n' : Nat, zif (zcnd kd) _ a (pc + 3) = n' → W p l e R s m args below meth c H locs cells slots Q (F0 m n' ls (List.map (zv (zad sa base)) _)) := fun n' q => q ▸ kk _ _ _ _ _ I rfl rfl
      cases kd with
      | eq => exact lv_if_eq hx hb hd h3 (fun q => K _ (if_pos q)) (fun q => K _ (if_neg q))
      | ne => exact lv_if_ne hx hb hd h3 (fun q => K _ (if_neg q)) (fun q => K _ (if_pos q))
      | lt => exact lv_if_lt hx hb hd h3 (fun q => K _ (if_pos q)) (fun q => K _ (if_neg q))
      | ge => exact lv_if_ge hx hb hd h3 (fun q => K _ (if_neg (Int32.not_lt.mpr q))) (fun q => K _ (if_pos (Int32.not_le.mp q)))
      | gt => exact lv_if_gt hx hb hd h3 (fun q => K _ (if_pos q)) (fun q => K _ (if_neg q))
      | le => exact lv_if_le hx hb hd h3 (fun q => K _ (if_neg (Int32.not_lt.mpr q))) (fun q => K _ (if_pos (Int32.not_le.mp q)))
    · cases hc
  · cases hs
theorem zw_16 (C : zX p s m args meth c M D sa base) (hd : decode M.2.1 pc = .ok (i, len)) (hc : zc16 pc len a b i = true) (I : zIn D sa base M.2.2.1 s H locs lo h ls) (hs : zs16 len a b (pc, lo, st, h) = some (.inl y)) (kk : zK p l e R s m args below meth c cells slots Q D sa base M.2.2.1 h y) : W p l e R s m args below meth c H locs cells slots Q (F0 m pc ls (st.map (zv (zad sa base)))) := by
  obtain ⟨hx, hb, hml, hown, hnm, hts, hG, hbs⟩ := C
  simp only [zs16] at hs
  split at hs
  · simp only [zgo, Option.some.injEq, Sum.inl.injEq] at hs
    subst hs
    unfold zc16 at hc
    split at hc
    · rename_i kd off
      simp only [Bool.and_eq_true, decide_eq_true_eq] at hc
      obtain ⟨⟨h1, h2⟩, h3⟩ := hc
      subst h1; subst h2
      have K : ∀ n' : Nat, zicmp (zcnd kd) _ _ a (pc + 3) = n' → W p l e R s m args below meth c H locs cells slots Q (F0 m n' ls (List.map (zv (zad sa base)) _)) := fun n' q => q ▸ kk _ _ _ _ _ I rfl rfl
      cases kd with
      | eq => exact lv_icmp_eq hx hb hd h3 (fun q => K _ (if_pos q)) (fun q => K _ (if_neg q))
      | ne => exact lv_icmp_ne hx hb hd h3 (fun q => K _ (if_neg q)) (fun q => K _ (if_pos q))
      | lt => exact lv_icmp_lt hx hb hd h3 (fun q => K _ (if_pos q)) (fun q => K _ (if_neg q))
      | ge => exact lv_icmp_ge hx hb hd h3 (fun q => K _ (if_neg (Int32.not_lt.mpr q))) (fun q => K _ (if_pos (Int32.not_le.mp q)))
      | gt => exact lv_icmp_gt hx hb hd h3 (fun q => K _ (if_pos q)) (fun q => K _ (if_neg q))
      | le => exact lv_icmp_le hx hb hd h3 (fun q => K _ (if_neg (Int32.not_lt.mpr q))) (fun q => K _ (if_pos (Int32.not_le.mp q)))
    · cases hc
  · cases hs
theorem zw_17 (C : zX p s m args meth c M D sa base) (hd : decode M.2.1 pc = .ok (i, len)) (hc : zc17 pc len a i = true) (I : zIn D sa base M.2.2.1 s H locs lo h ls) (hs : zs17 a (pc, lo, st, h) = some (.inl y)) (kk : zK p l e R s m args below meth c cells slots Q D sa base M.2.2.1 h y) : W p l e R s m args below meth c H locs cells slots Q (F0 m pc ls (st.map (zv (zad sa base)))) := by
  obtain ⟨hx, hb, hml, hown, hnm, hts, hG, hbs⟩ := C
  simp only [zs17] at hs
  simp only [zgo, Option.some.injEq, Sum.inl.injEq] at hs
  subst hs
  unfold zc17 at hc
  split at hc
  · simp only [Bool.and_eq_true, decide_eq_true_eq] at hc
    obtain ⟨h1, h2⟩ := hc
    subst h1
    exact lv_goto hx hb hd h2 (kk _ _ _ _ _ I rfl rfl)
  · cases hc
theorem zw_18 (C : zX p s m args meth c M D sa base) (hd : decode M.2.1 pc = .ok (i, len)) (hc : zc18 pc a sw i = true) (I : zIn D sa base M.2.2.1 s H locs lo h ls) (hs : zs18 a sw (pc, lo, st, h) = some (.inl y)) (kk : zK p l e R s m args below meth c cells slots Q D sa base M.2.2.1 h y) : W p l e R s m args below meth c H locs cells slots Q (F0 m pc ls (st.map (zv (zad sa base)))) := by
  obtain ⟨hx, hb, hml, hown, hnm, hts, hG, hbs⟩ := C
  simp only [zs18] at hs
  split at hs
  · rename_i x r
    simp only [zgo, Option.some.injEq, Sum.inl.injEq] at hs
    subst hs
    unfold zc18 at hc
    split at hc
    · rename_i d lw hi offs
      simp only [Bool.and_eq_true, decide_eq_true_eq] at hc
      obtain ⟨⟨h1, h2⟩, h3⟩ := hc
      by_cases hin : x.toInt < lw ∨ hi < x.toInt
      · have q := zrows_out (x := x) (d := a) h3 (by rw [← h2]; exact hin)
        refine lv_tableOut (tgt := a) hx hb hd hin h1 ?_
        have K := kk _ _ _ _ _ I rfl rfl
        simp only [q] at K
        exact K
      · obtain ⟨off, f1, f2⟩ := zrows_in (x := x) (d := a) h3 (fun q => hin (Or.inl q)) (by rw [← h2]; exact fun q => hin (Or.inr q))
        exact lv_tableIn hx hb hd (fun q => hin (Or.inl q)) (fun q => hin (Or.inr q)) (by rw [← Array.getElem?_toList]; exact f1) f2 (kk _ _ _ _ _ I rfl rfl)
    · simp only [Bool.and_eq_true, decide_eq_true_eq] at hc
      obtain ⟨⟨h1, h2⟩, h3⟩ := hc
      exact lv_lookup hx hb hd h2 rfl (zrowl_at h1 h3) (kk _ _ _ _ _ I rfl rfl)
    · cases hc
  · cases hs
theorem zw_19 (C : zX p s m args meth c M D sa base) (hd : decode M.2.1 pc = .ok (i, len)) (hc : zc19 M.2.2.1 len a v i = true) (I : zIn D sa base M.2.2.1 s H locs lo h ls) (hs : zs19 len a v (pc, lo, st, h) = some (.inl y)) (kk : zK p l e R s m args below meth c cells slots Q D sa base M.2.2.1 h y) : W p l e R s m args below meth c H locs cells slots Q (F0 m pc ls (st.map (zv (zad sa base)))) := by
  obtain ⟨hx, hb, hml, hown, hnm, hts, hG, hbs⟩ := C
  simp only [zs19] at hs
  split at hs
  · rename_i x k hg
    simp only [zgo, Option.some.injEq, Sum.inl.injEq] at hs
    subst hs
    unfold zc19 at hc
    split at hc
    · simp only [Bool.and_eq_true, decide_eq_true_eq] at hc
      obtain ⟨⟨⟨h1, h2⟩, h3⟩, h4⟩ := hc
      subst h1; subst h2
      simp only [Value.int.injEq] at h3
      subst h3
      obtain ⟨j, hj⟩ := zlv_idx (ad := zad sa base) hg
      exact lv_iinc hx hb hd I.1 hj rfl h4 rfl (fun ls' hl => kk _ _ _ _ _ ⟨zst1_lv I.2.1 h4 hl, by rw [zst1_length]; exact I.2.1, I.2.2⟩ rfl rfl)
    · cases hc
  · cases hs
theorem zw_39 (C : zX p s m args meth c M D sa base) (hd : decode M.2.1 pc = .ok (i, len)) (hc : zc39 len i = true) (I : zIn D sa base M.2.2.1 s H locs lo h ls) (hs : zs39 len (pc, lo, st, h) = some (.inl y)) (kk : zK p l e R s m args below meth c cells slots Q D sa base M.2.2.1 h y) : W p l e R s m args below meth c H locs cells slots Q (F0 m pc ls (st.map (zv (zad sa base)))) := by
  obtain ⟨hx, hb, hml, hown, hnm, hts, hG, hbs⟩ := C
  simp only [zs39] at hs
  split at hs
  · rename_i v r
    cases hz : zlong v
    · simp only [hz, cond_false, zgo, Option.some.injEq, Sum.inl.injEq] at hs
      subst hs
      unfold zc39 at hc
      split at hc
      · simp only [Bool.and_eq_true, decide_eq_true_eq] at hc
        subst hc
        exact lv_dup hx hb hd (zcat1 hz) (kk _ _ _ _ _ I rfl rfl)
      · cases hc
    · simp [hz] at hs
  · cases hs
theorem zw_40 (C : zX p s m args meth c M D sa base) (hd : decode M.2.1 pc = .ok (i, len)) (hc : zc40 len i = true) (I : zIn D sa base M.2.2.1 s H locs lo h ls) (hs : zs40 len (pc, lo, st, h) = some (.inl y)) (kk : zK p l e R s m args below meth c cells slots Q D sa base M.2.2.1 h y) : W p l e R s m args below meth c H locs cells slots Q (F0 m pc ls (st.map (zv (zad sa base)))) := by
  obtain ⟨hx, hb, hml, hown, hnm, hts, hG, hbs⟩ := C
  simp only [zs40] at hs
  split at hs
  · rename_i v w r
    cases hz : zlong v
    · cases hz2 : zlong w
      · simp only [hz, hz2, Bool.or_self, cond_false, zgo, Option.some.injEq, Sum.inl.injEq] at hs
        subst hs
        unfold zc40 at hc
        split at hc
        · simp only [Bool.and_eq_true, decide_eq_true_eq] at hc
          subst hc
          exact lv_dup_x1 hx hb hd (zcat1 hz) (zcat1 hz2) (kk _ _ _ _ _ I rfl rfl)
        · cases hc
      · simp [hz, hz2] at hs
    · simp [hz] at hs
  · cases hs
theorem zw_41 (C : zX p s m args meth c M D sa base) (hd : decode M.2.1 pc = .ok (i, len)) (hc : zc41 len i = true) (I : zIn D sa base M.2.2.1 s H locs lo h ls) (hs : zs41 len (pc, lo, st, h) = some (.inl y)) (kk : zK p l e R s m args below meth c cells slots Q D sa base M.2.2.1 h y) : W p l e R s m args below meth c H locs cells slots Q (F0 m pc ls (st.map (zv (zad sa base)))) := by
  obtain ⟨hx, hb, hml, hown, hnm, hts, hG, hbs⟩ := C
  simp only [zs41] at hs
  split at hs
  · rename_i v w r
    cases hz : zlong v
    · cases hz2 : zlong w
      · simp only [hz, hz2, Bool.or_self, cond_false, zgo, Option.some.injEq, Sum.inl.injEq] at hs
        subst hs
        unfold zc41 at hc
        split at hc
        · simp only [Bool.and_eq_true, decide_eq_true_eq] at hc
          subst hc
          exact lv_dup2_11 hx hb hd (zcat1 hz) (zcat1 hz2) (kk _ _ _ _ _ I rfl rfl)
        · cases hc
      · simp [hz, hz2] at hs
    · simp [hz] at hs
  · cases hs
theorem zw_42 (C : zX p s m args meth c M D sa base) (hd : decode M.2.1 pc = .ok (i, len)) (hc : zc42 len i = true) (I : zIn D sa base M.2.2.1 s H locs lo h ls) (hs : zs42 len (pc, lo, st, h) = some (.inl y)) (kk : zK p l e R s m args below meth c cells slots Q D sa base M.2.2.1 h y) : W p l e R s m args below meth c H locs cells slots Q (F0 m pc ls (st.map (zv (zad sa base)))) := by
  obtain ⟨hx, hb, hml, hown, hnm, hts, hG, hbs⟩ := C
  simp only [zs42] at hs
  split at hs
  · rename_i v r
    cases hz : zlong v
    · simp only [hz, cond_false, zgo, Option.some.injEq, Sum.inl.injEq] at hs
      subst hs
      unfold zc42 at hc
      split at hc
      · simp only [Bool.and_eq_true, decide_eq_true_eq] at hc
        subst hc
        exact lv_pop hx hb hd (zcat1 hz) (kk _ _ _ _ _ I rfl rfl)
      · cases hc
    · simp [hz] at hs
  · cases hs
theorem zw_43 (C : zX p s m args meth c M D sa base) (hd : decode M.2.1 pc = .ok (i, len)) (hc : zc43 M.1.cls len a k3 sw i = true) (I : zIn D sa base M.2.2.1 s H locs lo h ls) (hs : zs43 len a (pc, lo, st, h) = some (.inl y)) (kk : zK p l e R s m args below meth c cells slots Q D sa base M.2.2.1 h y) : W p l e R s m args below meth c H locs cells slots Q (F0 m pc ls (st.map (zv (zad sa base)))) := by
  obtain ⟨hx, hb, hml, hown, hnm, hts, hG, hbs⟩ := C
  simp only [zs43] at hs
  simp only [zgo, Option.some.injEq, Sum.inl.injEq] at hs
  subst hs
  unfold zc43 at hc
  split at hc
  · rw [Bool.and_eq_true, Bool.and_eq_true, Bool.and_eq_true, decide_eq_true_eq, decide_eq_true_eq, decide_eq_true_eq] at hc
    obtain ⟨⟨⟨h1, h2⟩, h3⟩, h4⟩ := hc
    subst h1
    have ea : zad sa base a = sa a := if_pos (by omega)
    have K := kk _ _ _ _ _ I rfl rfl
    have K : W p l e R s m args below meth c H locs cells slots Q (F0 m (pc + 3) ls (.ref (sa a) :: st.map (zv (zad sa base)))) := by rw [← ea]; exact K
    split at h4
    · exact va_gets hx hb (hG.2.2.2 a h2 h3) I.2.2.2 hown (hts _ (zw_in h4)) (fun x q => q) hd K
    · rw [decide_eq_true_eq] at h4
      exact va_getsN hx hb (hG.2.2.2 a h2 h3) I.2.2.2 hown (va_Nw.use rfl (hG.2.1 _ (zget_mem h4))) (fun x q => q) hd K
    · cases h4
  · cases hc
theorem zw_44 (C : zX p s m args meth c M D sa base) (hd : decode M.2.1 pc = .ok (i, len)) (hc : zc44 len i = true) (I : zIn D sa base M.2.2.1 s H locs lo h ls) (hs : zs44 len (pc, lo, st, h) = some (.inl y)) (kk : zK p l e R s m args below meth c cells slots Q D sa base M.2.2.1 h y) : W p l e R s m args below meth c H locs cells slots Q (F0 m pc ls (st.map (zv (zad sa base)))) := by
  obtain ⟨hx, hb, hml, hown, hnm, hts, hG, hbs⟩ := C
  simp only [zs44] at hs
  split at hs
  · rename_i v r
    cases hz : zlong v
    · simp [hz] at hs
    · simp only [hz, cond_true, zgo, Option.some.injEq, Sum.inl.injEq] at hs
      subst hs
      unfold zc44 at hc
      split at hc
      · simp only [Bool.and_eq_true, decide_eq_true_eq] at hc
        subst hc
        exact lv_pop2_2 hx hb hd (by rw [zv_cat]; exact (zlong_cat _).mp hz) (kk _ _ _ _ _ I rfl rfl)
      · cases hc
  · cases hs
end ZW
