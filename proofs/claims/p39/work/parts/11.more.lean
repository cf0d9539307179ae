/-! INSTRUCTIONS THAT MAKE CELLS; Math; Object's constructor; arraycopy. -/
theorem zslots_app : ∀ (l : List (Nat × Nat)) (t n : Nat), zslots (l ++ [(t, n)]) = zslots l + n
  | [], t, n => by simp [zslots]
  | q :: l, t, n => by simp [zslots, zslots_app l t n]; omega
theorem zcl_small {c : Nat} {q : vw_C} (h : zget vwCl c = some q) : q.2.2 < 2 ^ 31 :=
  zcl_by (P := fun _ q => q.2.2 < 2 ^ 31) (by decide) (by decide) (by decide) (by decide) (by decide) (by decide) (by decide) (by decide) (by decide) (by decide) (by decide) (by decide) (by decide) h
theorem zob_words : zis 699 (.instanceMethod objectInit) = true ∧ zis 700 (.code objectInit ⟨#[0xb1]⟩ 1 none) = true ∧ zis 701 (.native arraycopyName) = true ∧ zis 702 (.static arraycopyName) = true ∧ zis 703 (.initialized "java/lang/System") = true := by decide +kernel
theorem zcpy_eq {α : Type} (f g : Nat → α) (sp dp n : Nat) : va_cpy f g sp dp n = zcpy f g sp dp n := by
  funext k
  unfold va_cpy zcpy
  by_cases h1 : dp ≤ k
  · by_cases h2 : k < dp + n
    · rw [if_pos ⟨h1, h2⟩, Nat.ble_eq.mpr h1, show Nat.blt k (dp + n) = true from Nat.ble_eq.mpr h2]
      rfl
    · rw [if_neg (fun q => h2 q.2)]
      have e : Nat.blt k (dp + n) = false := by
        cases q : Nat.blt k (dp + n)
        · rfl
        · exact absurd (Nat.ble_eq.mp q) h2
      rw [e, Bool.and_false]
      rfl
  · rw [if_neg (fun q => h1 q.1)]
    have e : Nat.ble dp k = false := by
      cases q : Nat.ble dp k
      · rfl
      · exact absurd (Nat.ble_eq.mp q) h1
    rw [e, Bool.false_and]
    rfl
section ZD
variable {p : Program} {l : Launch} {e : Env} {R : Room} {s : State} {m : MethodId} {args : Array Value} {below : List Frame} {meth : Method} {c : Code} {H : Heap} {locs : List Loc} {cells slots : Nat} {Q : State → Prop}
variable {M : zM} {D : va_G} {sa : Nat → Nat} {base : Nat} {pc len a b k3 : Nat} {v : Value} {sw : List (Int32 × Nat)} {i : Instr} {lo : List (Option Value)} {st : List Value} {h : zH} {ls : Array Slot} {y : zC}
theorem zS_new {H1 : Heap} (hS : va_S (zA base) s.heap H locs) (z1 : H1.size = H.size + 1) (o1 : ∀ q : Nat, q < H.size → H1[q]? = H[q]?) : va_S (zA base) s.heap H1 locs :=
  ⟨Nat.le_trans hS.1 (by omega), fun x h1 h2 => (o1 x (Nat.lt_of_lt_of_le h1 hS.1)).trans (hS.2.1 x h1 h2), hS.2.2⟩
/-- behind a making: the new cell's name on top -/
theorem zmade {t n : Nat} (kk : zK p l e R s m args below meth c cells slots Q D sa base M.2.2.1 h (pc, lo, .ref h.1.length :: st, znew h t n)) (I : zIn D sa base M.2.2.1 s H locs lo h ls) {H1 : Heap} (ht : t ≠ 5) (hn : n < 2 ^ 31) (z1 : H1.size = H.size + 1) (o1 : ∀ q : Nat, q < H.size → H1[q]? = H[q]?) (hc : zcell D (zad sa base) (zA base) s H1 (znew h t n) h.1.length n t) :
    W p l e R s m args below meth c H1 locs (cells + 1) (slots + n) Q (F0 m pc ls (.ref H.size :: st.map (zv (zad sa base)))) := by
  have K := kk ls H1 locs (cells + 1) (slots + n) ⟨I.1, I.2.1, zRep_new I.2.2.1 ht hn z1 o1 hc, zS_new I.2.2.2 z1 o1⟩ (by show _ = cells + (h.1 ++ [(t, n)]).length; simp; omega) (by show _ = slots + zslots (h.1 ++ [(t, n)]); rw [zslots_app]; omega)
  have K : W p l e R s m args below meth c H1 locs (cells + 1) (slots + n) Q (F0 m pc ls (.ref (zad sa base h.1.length) :: st.map (zv (zad sa base)))) := K
  rw [zad_new I.2.2.1] at K
  exact K
theorem zw_29 (C : zX p s m args meth c M D sa base) (hd : decode M.2.1 pc = .ok (i, len)) (hc : zc29 M.1.cls len a b sw i = true) (I : zIn D sa base M.2.2.1 s H locs lo h ls) (hs : zs29 len a b (pc, lo, st, h) = some (.inl y)) (hR : cells + y.2.2.2.1.length ≤ R.cells + h.1.length ∧ slots + zslots y.2.2.2.1 ≤ R.slots + zslots h.1) (kk : zK p l e R s m args below meth c cells slots Q D sa base M.2.2.1 h y) : W p l e R s m args below meth c H locs cells slots Q (F0 m pc ls (st.map (zv (zad sa base)))) := by
  obtain ⟨hx, hb, hml, hown, hnm, hts, hG, hbs⟩ := C
  simp only [zs29, zgo, Option.some.injEq, Sum.inl.injEq] at hs
  subst hs
  have hR1 : cells + (h.1.length + 1) ≤ R.cells + h.1.length := by have := hR.1; simpa [znew] using this
  have hR2 : slots + (zslots h.1 + b) ≤ R.slots + zslots h.1 := by have := hR.2; simpa [znew, zslots_app] using this
  unfold zc29 at hc
  split at hc
  · rw [Bool.and_eq_true, decide_eq_true_eq] at hc
    obtain ⟨h1, h2⟩ := hc
    subst h1
    split at h2
    · rename_i q q1
      simp only [Bool.and_eq_true, decide_eq_true_eq] at h2
      obtain ⟨⟨⟨h2, h3⟩, h4⟩, h5⟩ := h2
      subst h2
      obtain ⟨ty, hty, hdf⟩ := zcl_ty q1
      have hKn := hG.1.1 a q (zcl_el q1)
      refine W.newcK hx hb hown (hts _ (zw_in h3)) (hts _ (zw_in h4)) (hts _ (zw_in h5)) rfl hd (by omega) (by omega) hKn.2.1 rfl fun H1 kC hkC e1 z1 o1 => ?_
      refine zmade kk I (by omega) (zcl_small q1) z1 o1 (zcell_of q1 rfl ?_)
      rw [zad_new I.2.2.1]
      refine (u_born ty hts (zcl_in q1) hKn hkC e1 hty).to fun k hk => ?_
      rw [hdf k hk]
      unfold zfv znew
      dsimp only
      rw [zrow_eq, zrow_eq]
      rfl
    · cases h2
  · cases hc
theorem zw_30 (C : zX p s m args meth c M D sa base) (hd : decode M.2.1 pc = .ok (i, len)) (hc : zc30 M.1.cls len a sw i = true) (I : zIn D sa base M.2.2.1 s H locs lo h ls) (hs : zs30 len a (pc, lo, st, h) = some (.inl y)) (hR : cells + y.2.2.2.1.length ≤ R.cells + h.1.length ∧ slots + zslots y.2.2.2.1 ≤ R.slots + zslots h.1) (kk : zK p l e R s m args below meth c cells slots Q D sa base M.2.2.1 h y) : W p l e R s m args below meth c H locs cells slots Q (F0 m pc ls (st.map (zv (zad sa base)))) := by
  obtain ⟨hx, hb, hml, hown, hnm, hts, hG, hbs⟩ := C
  simp only [zs30] at hs
  split at hs
  · rename_i n r
    cases hq : (Nat.blt (zix n) 100000 && Nat.ble a 4)
    · simp [hq] at hs
    · simp only [hq, cond_true, zgo, Option.some.injEq, Sum.inl.injEq] at hs
      subst hs
      simp only [Bool.and_eq_true, Nat.ble_eq] at hq
      obtain ⟨hlt, ha4⟩ := hq
      have hlt : zix n < 100000 := Nat.ble_eq.mp hlt
      have hz := zix_lt hlt (by omega)
      have hR1 : cells + (h.1.length + 1) ≤ R.cells + h.1.length := by have := hR.1; simpa [znew] using this
      have hR2 : slots + (zslots h.1 + zix n) ≤ R.slots + zslots h.1 := by have := hR.2; simpa [znew, zslots_app] using this
      unfold zc30 at hc
      split at hc
      · rw [Bool.and_eq_true, decide_eq_true_eq] at hc
        obtain ⟨h1, h2⟩ := hc
        subst h1
        split at h2
        · rw [Bool.and_eq_true, decide_eq_true_eq] at h2
          obtain ⟨h2, h3⟩ := h2
          subst h2
          refine va_newaK (atype := .int) hx hb (hts _ (zw_in h3)) rfl hd rfl hz.1 hz.2 (Nat.le_trans (Nat.mul_le_mul_right _ (Nat.le_of_lt hlt)) (by decide)) (by omega) (by omega) rfl fun H1 cA e1 z1 o1 hAr hNm => ?_
          refine zmade kk I (by omega) (by omega) z1 o1 ⟨cA, ?_, hAr⟩
          rw [zad_new I.2.2.1, e1]
          unfold znew
          dsimp only
          rw [zrow_eq]
          rfl
        · rw [Bool.and_eq_true, decide_eq_true_eq] at h2
          obtain ⟨h2, h3⟩ := h2
          subst h2
          refine va_newaK (atype := .long) hx hb (hts _ (zw_in h3)) rfl hd rfl hz.1 hz.2 (Nat.le_trans (Nat.mul_le_mul_right _ (Nat.le_of_lt hlt)) (by decide)) (by omega) (by omega) rfl fun H1 cA e1 z1 o1 hAr hNm => ?_
          refine zmade kk I (by omega) (by omega) z1 o1 ⟨cA, ?_, hAr⟩
          rw [zad_new I.2.2.1, e1]
          unfold znew
          dsimp only
          rw [zrow_eq]
          rfl
        · cases h2
      · rename_i k
        simp only [Bool.and_eq_true, decide_eq_true_eq] at hc
        obtain ⟨⟨⟨h1, h2⟩, h3⟩, h4⟩ := hc
        subst h1
        refine W.anew hx hb hown (hts _ (zw_in h4)) (va_AO.use (hG.2.2.1 a h2 h3)) rfl hd rfl hz.1 (by rw [hz.2]; omega) (by omega) (by rw [hz.2]; omega) fun cA kA comp f1 f2 f3 f4 => ?_
        rw [hz.2]
        refine zmade kk I (by omega) (by omega) (by rw [Array.size_push]) (fun q hq => by rw [Array.getElem?_push, if_neg (Nat.ne_of_lt hq)]) (zof_rq h2 h3 ⟨cA, ?_, fun N z => ⟨(fun k h => by cases h), kA, f2, comp, f3⟩, kA, comp, f2, f3, f4, f1⟩)
        rw [zad_new I.2.2.1, Array.getElem?_push_size]
        unfold znew
        dsimp only
        rw [zrow_eq]
        exact congrArg some (arrV_new cA (zix n) .null)
      · cases hc
  · cases hs
theorem zw_31 (C : zX p s m args meth c M D sa base) (hd : decode M.2.1 pc = .ok (i, len)) (hc : zc31 M.1.cls len b sw i = true) (I : zIn D sa base M.2.2.1 s H locs lo h ls) (hs : zs31 len b (pc, lo, st, h) = some (.inl y)) (hF : 1 ≤ R.frames ∧ 64 ≤ R.locals) (hR : cells ≤ R.cells ∧ slots ≤ R.slots) (kk : zK p l e R s m args below meth c cells slots Q D sa base M.2.2.1 h y) : W p l e R s m args below meth c H locs cells slots Q (F0 m pc ls (st.map (zv (zad sa base)))) := by
  obtain ⟨hx, hb, hml, hown, hnm, hts, hG, hbs⟩ := C
  have hsz : c.maxLocals = ls.size := hml.trans I.1.1.symm
  unfold zc31 at hc
  split at hc
  · simp only [Bool.and_eq_true, decide_eq_true_eq] at hc
    obtain ⟨⟨h1, h2⟩, h3⟩ := hc
    subst h1
    split at h3
    · simp only [Bool.and_eq_true] at h3
      obtain ⟨⟨h3, h4⟩, h5⟩ := h3
      simp only [zs31] at hs
      split at hs
      · rename_i x2 x1 r
        cases hq : Nat.ble (zcat r) 8
        · simp [hq] at hs
        · simp only [hq, cond_true, zgo, Option.some.injEq, Sum.inl.injEq] at hs
          subst hs
          have h8 : zcat r ≤ 8 := Nat.ble_eq.mp hq
          exact va_mmax hx hb hsz hown (hts _ (zw_in h3)) (hts _ (zw_in h5)) (hts _ (zw_in h2)) (hts _ (zw_in h4)) hF.1 (by rw [zcat_sum]; omega) hR.1 hR.2 hd (kk _ _ _ _ _ I rfl rfl)
      · cases hs
    · simp only [Bool.and_eq_true] at h3
      obtain ⟨⟨h3, h4⟩, h5⟩ := h3
      simp only [zs31] at hs
      split at hs
      · rename_i x2 x1 r
        cases hq : Nat.ble (zcat r) 8
        · simp [hq] at hs
        · simp only [hq, cond_true, zgo, Option.some.injEq, Sum.inl.injEq] at hs
          subst hs
          have h8 : zcat r ≤ 8 := Nat.ble_eq.mp hq
          exact va_mmin hx hb hsz hown (hts _ (zw_in h3)) (hts _ (zw_in h5)) (hts _ (zw_in h2)) (hts _ (zw_in h4)) hF.1 (by rw [zcat_sum]; omega) hR.1 hR.2 hd (kk _ _ _ _ _ I rfl rfl)
      · cases hs
    · simp only [Bool.and_eq_true] at h3
      obtain ⟨⟨h3, h4⟩, h5⟩ := h3
      simp only [zs31] at hs
      split at hs
      · rename_i x1 r
        cases hq : Nat.ble (zcat r) 8
        · simp [hq] at hs
        · simp only [hq, cond_true, zgo, Option.some.injEq, Sum.inl.injEq] at hs
          subst hs
          have h8 : zcat r ≤ 8 := Nat.ble_eq.mp hq
          refine va_mabs hx hb hsz hown (hts _ (zw_in h3)) (hts _ (zw_in h5)) (hts _ (zw_in h2)) (hts _ (zw_in h4)) hF.1 (by rw [zcat_sum]; omega) hR.1 hR.2 hd ?_
          have ea : (if 0 ≤ x1 then x1 else 0 - x1) = (if x1 < 0 then -x1 else x1) := by
            by_cases q : x1 < 0
            · rw [if_pos q, if_neg (Int32.not_le.mpr q), Int32.zero_sub]
            · rw [if_neg q, if_pos (Int32.not_lt.mp q)]
          rw [ea]
          exact kk _ _ _ _ _ I rfl rfl
      · cases hs
    · cases h3
  · cases hc
theorem zw_33 (C : zX p s m args meth c M D sa base) (hd : decode M.2.1 pc = .ok (i, len)) (hc : zc33 M.1.cls len sw i = true) (I : zIn D sa base M.2.2.1 s H locs lo h ls) (hs : zs33 len (pc, lo, st, h) = some (.inl y)) (hF : 1 ≤ R.frames ∧ 64 ≤ R.locals) (kk : zK p l e R s m args below meth c cells slots Q D sa base M.2.2.1 h y) : W p l e R s m args below meth c H locs cells slots Q (F0 m pc ls (st.map (zv (zad sa base)))) := by
  obtain ⟨hx, hb, hml, hown, hnm, hts, hG, hbs⟩ := C
  have hsz : ls.size = c.maxLocals := I.1.1.trans hml.symm
  unfold zc33 at hc
  split at hc
  · simp only [Bool.and_eq_true, decide_eq_true_eq] at hc
    obtain ⟨h1, h2⟩ := hc
    subst h1
    simp only [zs33] at hs
    split at hs
    · rename_i o r
      cases hq : Nat.ble (zcat r) 8
      · simp [hq] at hs
      · simp only [hq, cond_true, zgo, Option.some.injEq, Sum.inl.injEq] at hs
        subst hs
        have h8 : ((r.map (zv (zad sa base))).map fun v => v.category).sum ≤ 8 := by rw [zcat_sum]; exact Nat.ble_eq.mp hq
        have h9 := lv_room (m := m) (pc := pc) (ls := ls) (rest := .ref (zad sa base o) :: r.map (zv (zad sa base))) h8
        exact W.objInit hx hb hown (hts _ (zw_in h2)) (hts _ (zw_in zob_words.1)) (hts _ (zw_in zob_words.2.1)) rfl hsz rfl hd hF.1 (by show 2 * 0 + _ + 12 ≤ _; omega) (kk _ _ _ _ _ I rfl rfl)
    · cases hs
  · cases hc
/-- arraycopy between rows of numbers -/
theorem zcopy_W {α : Type} (mk : α → Value) (C : zX p s m args meth c M D sa base) {k : Nat} (hd : decode M.2.1 pc = .ok (.invokestatic k, 3)) (h2 : zis (zp sw 0) (.methodLink M.1.cls k arraycopyName) = true) (hsz : ls.size = c.maxLocals) (hF : 1 ≤ R.frames ∧ 64 ≤ R.locals) {a0 a1 n0 n1 : Nat} {c0 c1 : ClassId} {f g : Nat → α} {ty : FieldType} (hprim : refKind ty = false) (hfit : ∀ z, fits ty (mk z) = true) (hc0 : H[a0]? = some (arrV c0 n0 (fun j => mk (f j)))) (hc1 : H[a1]? = some (arrV c1 n1 (fun j => mk (g j)))) (ht0 : ArrOfT s c0 ty) (ht1 : ArrOfT s c1 ty)
    {sp dp n : Int32} (h1 : ¬ sp < 0) (h3 : ¬ dp < 0) (h4 : ¬ n < 0) (h5 : sp.toNatClampNeg + n.toNatClampNeg ≤ n0) (h6 : dp.toNatClampNeg + n.toNatClampNeg ≤ n1) {rest : List Value} (h8 : (rest.map fun v => v.category).sum ≤ 8)
    (kk : ∀ (H1 : Heap) (L : List Loc), H1[a1]? = some (arrV c1 n1 (fun j => mk (va_cpy f g sp.toNatClampNeg dp.toNatClampNeg n.toNatClampNeg j))) → H1.size = H.size → (∀ q : Nat, q ≠ a1 → H1[q]? = H[q]?) → (∀ q ∈ L, q.base = a1) → W p l e R s m args below meth c H1 (locs ++ L) cells slots Q (F0 m (pc + 3) ls rest)) :
    W p l e R s m args below meth c H locs cells slots Q (F0 m pc ls (.int n :: .int dp :: .ref a1 :: .int sp :: .ref a0 :: rest)) := by
  obtain ⟨hx, hb, hml, hown, hnm, hts, hG, hbs⟩ := C
  have nn : ∀ z : Int32, ¬ z < 0 → z.toInt = (z.toNatClampNeg : Int) := by
    intro z hz
    have hz0 : (0 : Int) ≤ z.toInt := by
      have := Int32.not_lt.mp hz
      simpa using Int32.le_iff_toInt_le.mp this
    show z.toInt = ((z.toInt.toNat : Nat) : Int)
    omega
  intro T hT X
  obtain ⟨-, k0, hk0, cm0, hkk0⟩ := ht0 n0 (fun j => mk (f j))
  obtain ⟨-, k1, hk1, cm1, hkk1⟩ := ht1 n1 (fun j => mk (g j))
  obtain ⟨vm', X', step⟩ := X.arraycopy hx hown (hts _ (zw_in h2)) (hts _ (zw_in zob_words.2.2.1)) (hts _ (zw_in zob_words.2.2.2.1)) (hts _ (zw_in zob_words.2.2.2.2)) (src := a0) (dst := a1) (cs := arrV c0 n0 (fun j => mk (f j))) (cd := arrV c1 n1 (fun j => mk (g j))) (srcPos := sp) (destPos := dp) (n := n) (by rw [hT]; exact hc0) (by rw [hT]; exact hc1)
    (fun _ h => by cases h) (fun _ h => by cases h) (fun h => by cases h) (fun h => by cases h) hk0 hk1 hkk0 hkk1 (by simp [hprim]) h1 h3 h4
    (by rw [nn sp h1, nn n h4, arrV_size]; omega)
    (by rw [nn dp h3, nn n h4, arrV_size]; omega)
    (fun vm₁ _ i hi => by
      have e : (arrV c0 n0 (fun j => mk (f j))).slots.getD (sp.toNatClampNeg + i) .null = mk (f (sp.toNatClampNeg + i)) := by
        rw [Array.getD_eq_getD_getElem?, arrV_read _ _ (by omega)]
        rfl
      refine ⟨?_, ?_⟩
      · rw [e]
        exact hfit _
      · rw [e]
        have q := hfit (f (sp.toNatClampNeg + i))
        revert q
        generalize mk (f (sp.toNatClampNeg + i)) = w
        intro q
        cases w with
        | ref z => cases ty <;> simp [fits, refKind] at q hprim
        | _ => exact trivial)
    (g := F0 m pc ls (.int n :: .int dp :: .ref a1 :: .int sp :: .ref a0 :: rest)) rfl hsz (rest := rest) rfl (by rw [hb]; exact hd) hF.1 (by show 2 * 0 + _ + (5 + 2 + 11) ≤ _; omega)
  have e1 : copied (arrV c0 n0 (fun j => mk (f j))) (arrV c1 n1 (fun j => mk (g j))) sp dp n = arrV c1 n1 (fun j => mk (va_cpy f g sp.toNatClampNeg dp.toNatClampNeg n.toNatClampNeg j)) := va_copied mk c0 c1 f g h5
  rw [e1] at X' step
  have hl : a1 < H.size := (Array.getElem?_eq_some_iff.mp hc1).1
  have hheap : ((T.setVm vm').setCell a1 (arrV c1 n1 (fun j => mk (va_cpy f g sp.toNatClampNeg dp.toNatClampNeg n.toNatClampNeg j)))).heap = H.setIfInBounds a1 (arrV c1 n1 (fun j => mk (va_cpy f g sp.toNatClampNeg dp.toNatClampNeg n.toNatClampNeg j))) := by rw [← hT]; rfl
  obtain ⟨t, q1, q2⟩ := kk _ _ (by simp [Array.getElem?_setIfInBounds, hl]) (by simp) (fun q hq => by simp [Array.getElem?_setIfInBounds, Ne.symm hq]) (fun q hq => by
    obtain ⟨z, -, hz⟩ := List.mem_map.mp hq
    rw [← hz]) _ hheap X'
  exact ⟨t, step t q1, q2⟩
theorem zS_run {H1 : Heap} {L : List Loc} {o' : Nat} (hS : va_S (zA base) s.heap H locs) (z : H1.size = H.size) (oq : ∀ q : Nat, q ≠ o' → H1[q]? = H[q]?) (hL : ∀ q ∈ L, q.base = o') (ho : zA base o') : va_S (zA base) s.heap H1 (locs ++ L) := by
  refine ⟨by rw [z]; exact hS.1, fun q h1 h2 => ?_, fun q hq => ?_⟩
  · rw [oq q (fun e => h2 (by rw [e]; exact ho))]
    exact hS.2.1 q h1 h2
  · rcases List.mem_append.mp hq with h1 | h1
    · exact hS.2.2 q h1
    · rw [hL q h1]
      exact ho
theorem zw_34 (C : zX p s m args meth c M D sa base) (hd : decode M.2.1 pc = .ok (i, len)) (hc : zc34 M.1.cls len sw i = true) (I : zIn D sa base M.2.2.1 s H locs lo h ls) (hs : zs34 len (pc, lo, st, h) = some (.inl y)) (hF : 1 ≤ R.frames ∧ 64 ≤ R.locals) (kk : zK p l e R s m args below meth c cells slots Q D sa base M.2.2.1 h y) : W p l e R s m args below meth c H locs cells slots Q (F0 m pc ls (st.map (zv (zad sa base)))) := by
  have hsz : ls.size = c.maxLocals := I.1.1.trans C.2.2.1.symm
  unfold zc34 at hc
  split at hc
  · simp only [Bool.and_eq_true, decide_eq_true_eq] at hc
    obtain ⟨h1, h2⟩ := hc
    subst h1
    simp only [zs34] at hs
    split at hs
    · rename_i n dp o1 sp o0 r
      split at hs
      · rename_i t0 n0 t1 n1 g0 g1
        cases hq : ((((Nat.beq t0 t1 && Nat.blt (zix n) 100000) && (Nat.blt (zix sp) 100000 && Nat.blt (zix dp) 100000)) && (Nat.ble (zix sp + zix n) n0 && Nat.ble (zix dp + zix n) n1)) && Nat.ble (zcat r) 8)
        · simp [hq] at hs
        · simp only [hq, cond_true] at hs
          simp only [Bool.and_eq_true, Nat.ble_eq, Nat.beq_eq] at hq
          obtain ⟨⟨⟨⟨rfl, b1⟩, ⟨b2, b3⟩⟩, ⟨b4, b5⟩⟩, b6⟩ := hq
          have b1 : zix n < 100000 := Nat.ble_eq.mp b1
          have b2 : zix sp < 100000 := Nat.ble_eq.mp b2
          have b3 : zix dp < 100000 := Nat.ble_eq.mp b3
          have z1 := zix_lt b1 (by omega)
          have z2 := zix_lt b2 (by omega)
          have z3 := zix_lt b3 (by omega)
          have h8 : ((r.map (zv (zad sa base))).map fun v => v.category).sum ≤ 8 := by rw [zcat_sum]; exact b6
          split at hs
          · simp only [zgo, Option.some.injEq, Sum.inl.injEq] at hs
            subst hs
            obtain ⟨cA, f1, f2⟩ := I.2.2.1.2.2.1 _ _ _ g0
            obtain ⟨cB, f3, f4⟩ := I.2.2.1.2.2.1 _ _ _ g1
            refine zcopy_W (fun z => .int z) C hd h2 hsz hF (ty := .int) rfl (fun _ => rfl) f1 f3 f2 f4 z2.1 z3.1 z1.1 (by rw [z1.2, z2.2]; exact b4) (by rw [z1.2, z3.2]; exact b5) h8 (fun H1 L q1 q2 q3 q4 => ?_)
            refine kk _ _ _ _ _ ⟨I.1, I.2.1, zRep_set I.2.2.1 g1 (by decide) q2 q3 rfl (fun z hz => zrow_ne hz) (fun _ _ => rfl) (fun _ _ => rfl) ⟨cB, ?_, f4⟩, zS_run I.2.2.2 q2 q3 q4 (zRep_A I.2.2.1 g1 (by decide))⟩ rfl rfl
            rw [q1, z1.2, z2.2, z3.2, zcpy_eq]
            dsimp only
            rw [zrow_eq]
          · simp only [zgo, Option.some.injEq, Sum.inl.injEq] at hs
            subst hs
            obtain ⟨cA, f1, f2⟩ := I.2.2.1.2.2.1 _ _ _ g0
            obtain ⟨cB, f3, f4⟩ := I.2.2.1.2.2.1 _ _ _ g1
            refine zcopy_W (fun z => .long z) C hd h2 hsz hF (ty := .long) rfl (fun _ => rfl) f1 f3 f2 f4 z2.1 z3.1 z1.1 (by rw [z1.2, z2.2]; exact b4) (by rw [z1.2, z3.2]; exact b5) h8 (fun H1 L q1 q2 q3 q4 => ?_)
            refine kk _ _ _ _ _ ⟨I.1, I.2.1, zRep_set I.2.2.1 g1 (by decide) q2 q3 rfl (fun _ _ => rfl) (fun z hz => zrow_ne hz) (fun _ _ => rfl) ⟨cB, ?_, f4⟩, zS_run I.2.2.2 q2 q3 q4 (zRep_A I.2.2.1 g1 (by decide))⟩ rfl rfl
            rw [q1, z1.2, z2.2, z3.2, zcpy_eq]
            dsimp only
            rw [zrow_eq]
          · cases hs
      · cases hs
    · cases hs
  · cases hc
end ZD
