/-! INSTRUCTIONS THAT READ AND WRITE CELLS. -/
section ZC
variable {p : Program} {l : Launch} {e : Env} {R : Room} {s : State} {m : MethodId} {args : Array Value} {below : List Frame} {meth : Method} {c : Code} {H : Heap} {locs : List Loc} {cells slots : Nat} {Q : State → Prop}
variable {M : zM} {D : va_G} {sa : Nat → Nat} {base : Nat} {pc len a b k3 : Nat} {v : Value} {sw : List (Int32 × Nat)} {i : Instr} {lo : List (Option Value)} {st : List Value} {h : zH} {ls : Array Slot} {y : zC}
theorem zw_20 (C : zX p s m args meth c M D sa base) (hd : decode M.2.1 pc = .ok (i, len)) (hc : zc20 M.1.cls len a b k3 sw i = true) (I : zIn D sa base M.2.2.1 s H locs lo h ls) (hs : zs20 len a b k3 (pc, lo, st, h) = some (.inl y)) (kk : zK p l e R s m args below meth c cells slots Q D sa base M.2.2.1 h y) : W p l e R s m args below meth c H locs cells slots Q (F0 m pc ls (st.map (zv (zad sa base)))) := by
  obtain ⟨hx, hb, hml, hown, hnm, hts, hG, hbs⟩ := C
  simp only [zs20] at hs
  split at hs
  · rename_i o r
    split at hs
    · rename_i t n ho
      cases hq : (Nat.beq t (10 + a) && Nat.blt b n)
      · simp [hq] at hs
      · simp only [hq, cond_true, zgo, Option.some.injEq, Sum.inl.injEq] at hs
        subst hs
        simp only [Bool.and_eq_true, Nat.beq_eq] at hq
        obtain ⟨ht, hbn⟩ := hq
        subst ht
        obtain ⟨q, q1, q2, cell, g1, g2, g3, g4⟩ := zob I.2.2.1 ho
        unfold zc20 at hc
        split at hc
        · rename_i k
          rw [Bool.and_eq_true, decide_eq_true_eq] at hc
          obtain ⟨h1, h2⟩ := hc
          subst h1
          rw [q1] at h2
          simp only [Bool.and_eq_true, decide_eq_true_eq] at h2
          obtain ⟨⟨h3, h4⟩, h5⟩ := h2
          obtain ⟨hS, hfc, kC, hkC, hkind⟩ := hG.1.1 a q (zcl_el q1)
          obtain ⟨cf, kf, fi, f, hi, hsl⟩ := hS b h3
          have hi2 := hi
          rw [zcl_own q1 b h3] at hi2
          refine W.getf hx hb hown (hts _ (zw_in h4)) hi2 (u_facts hfc hkC (u_lays hts (zcl_in q1) h3) hi).1 g1 (by rw [g3]; exact fun h => by cases h) (by rw [hsl]; exact g4 b (by omega)) rfl rfl hd ?_
          cases k3 with
          | zero =>
            have h5 : (!zft a b) = true := h5
            rw [Bool.not_eq_true'] at h5
            have e5 : zfv (zad sa base) h o a b = zv (zad sa base) (.int (h.2.1 o b)) := by unfold zfv; rw [h5]; rfl
            rw [e5]
            exact kk _ _ _ _ _ I rfl rfl
          | succ k4 =>
            cases k4 with
            | zero =>
              have h5 : zft a b = true := h5
              have e5 : zfv (zad sa base) h o a b = zv (zad sa base) (va_rf (h.2.2.2 o b)) := by unfold zfv; rw [h5, zv_rf]; rfl
              rw [e5]
              exact kk _ _ _ _ _ I rfl rfl
            | succ k5 =>
              have h5 : (!zft a b) = true := h5
              rw [Bool.not_eq_true'] at h5
              have e5 : zfv (zad sa base) h o a b = zv (zad sa base) (.int (h.2.1 o b)) := by unfold zfv; rw [h5]; rfl
              rw [e5]
              exact kk _ _ _ _ _ I rfl rfl
        · cases hc
    · cases hs
  · cases hs
/-- a field is written -/
theorem zput_W (C : zX p s m args meth c M D sa base) {k o' : Nat} (hd : decode M.2.1 pc = .ok (.putfield k, 3)) {q : vw_C} (q1 : zget vwCl a = some q) (h3 : b < q.2.2) (h4 : zis (zp sw 0) (.fieldLink M.1.cls k q.1 (q.2.1 b).2.1 (q.2.1 b).2.2.1) = true) (hfin : (!(q.2.1 b).2.2.2 || (decide (M.1.name = "<init>") && decide ((q.2.1 b).1 = M.1.cls))) = true)
    {ty : FieldType} (hty : parseFieldDescriptor (q.2.1 b).2.2.1 = some ty) (hn : narrow ty v = v) (hfit : fits ty v = true) {V : Nat → Value} (hob : t_OB o' (D.1 a) q.2.2 (D.2 a) H V) {rest : List Value}
    (kk : ∀ (H' : Heap) (j : Nat), t_OB o' (D.1 a) q.2.2 (D.2 a) H' (updV V b v) → H'.size = H.size → (∀ x : Nat, x ≠ o' → H'[x]? = H[x]?) → W p l e R s m args below meth c H' (locs ++ [⟨o', j⟩]) cells slots Q (F0 m (pc + 3) ls rest)) : W p l e R s m args below meth c H locs cells slots Q (F0 m pc ls (v :: .ref o' :: rest)) := by
  obtain ⟨hx, hb, hml, hown, hnm, hts, hG, hbs⟩ := C
  obtain ⟨ty0, hty0, -⟩ := zcl_ty q1
  have hap := va_apart (own := M.1.cls) hts (zcl_in q1) ty0 hty0 (zcl_nm q1) hG.1 (zcl_el q1)
  obtain ⟨cell, g1, g2, g3, g4⟩ := hob
  obtain ⟨hS, hfc, kC, hkC, hkind⟩ := hG.1.1 a q (zcl_el q1)
  obtain ⟨cf, kf, fi, f, hi, hsl⟩ := hS b h3
  have hi2 := hi
  rw [zcl_own q1 b h3] at hi2
  have hst := (u_facts hfc hkC (u_lays hts (zcl_in q1) h3) hi).1
  have hlay := hts _ (zcl_in q1 _ (u_in_lay h3))
  unfold u_lay at hlay
  by_cases hf : (q.2.1 b).2.2.2 = true
  · rw [if_pos hf] at hlay
    rw [hf] at hfin
    simp only [Bool.not_true, Bool.false_or, Bool.and_eq_true, decide_eq_true_eq] at hfin
    have hcf : m.cls = cf := by
      obtain ⟨_, _, c', _, _, _, -, -, hf', -, -, -, hown2, -⟩ := Cond.laysFinal_spec hlay
      have e1 : c' = cf := by have := hi.symm.trans hf'; simp at this; exact this.1.symm
      rw [hfin.2] at hown2
      rw [← e1]; exact Option.some.inj (hown.symm.trans hown2)
    have h6 := u_fits hfc hkC hkind (Or.inr hlay) hi hty hn hfit
    refine W.putFinK hx hb hown (hts _ (zw_in h4)) hi2 hst hcf (hnm hfin.1) (by rw [g2]; exact h6) g1 g3 (by rw [hsl]; exact k2_hasslot (g4 b h3)) rfl rfl hd fun H' e1 e2 e3 => ?_
    rw [hsl] at e1 ⊢
    exact kk H' _ ⟨_, e1, g2, g3, t_set g4 hap h3 v⟩ e2 e3
  · rw [if_neg hf] at hlay
    have h6 := u_store hfc hkC hkind hlay hi hty hn hfit
    refine W.putK hx hb (f := f) ⟨hown, hts _ (zw_in h4), ⟨_, _, _, hi2⟩, hst⟩ (by rw [g2]; exact h6) g1 g3 (by rw [hsl]; exact k2_hasslot (g4 b h3)) rfl rfl hd fun H' e1 e2 e3 => ?_
    rw [hsl] at e1 ⊢
    exact kk H' _ ⟨_, e1, g2, g3, t_set g4 hap h3 v⟩ e2 e3
theorem zS_put {H1 : Heap} {o' j : Nat} (hS : va_S (zA base) s.heap H locs) (z : H1.size = H.size) (oq : ∀ q : Nat, q ≠ o' → H1[q]? = H[q]?) (ho : zA base o') : va_S (zA base) s.heap H1 (locs ++ [⟨o', j⟩]) := hS.put z oq ho
theorem zw_21 (C : zX p s m args meth c M D sa base) (hd : decode M.2.1 pc = .ok (i, len)) (hc : zc21 M.1 len a b k3 sw i = true) (I : zIn D sa base M.2.2.1 s H locs lo h ls) (hs : zs21 len a b k3 (pc, lo, st, h) = some (.inl y)) (kk : zK p l e R s m args below meth c cells slots Q D sa base M.2.2.1 h y) : W p l e R s m args below meth c H locs cells slots Q (F0 m pc ls (st.map (zv (zad sa base)))) := by
  unfold zc21 at hc
  split at hc
  · rename_i k
    rw [Bool.and_eq_true, decide_eq_true_eq] at hc
    obtain ⟨h1, h2⟩ := hc
    subst h1
    simp only [zs21] at hs
    split at hs
    · rename_i x o r
      split at hs
      · rename_i t n ho
        cases hq : (Nat.beq t (10 + a) && Nat.blt b n)
        · simp [hq] at hs
        · simp only [hq, cond_true] at hs
          simp only [Bool.and_eq_true, Nat.beq_eq] at hq
          obtain ⟨ht, hbn⟩ := hq
          subst ht
          obtain ⟨q, q1, q2, hob⟩ := zob I.2.2.1 ho
          subst q2
          rw [q1] at h2
          simp only [Bool.and_eq_true, decide_eq_true_eq] at h2
          obtain ⟨⟨⟨⟨h3, h4⟩, h5⟩, h6⟩, h7⟩ := h2
          have ne : ¬ (10 + a = 5) := by omega
          have goal : ∀ ty, parseFieldDescriptor (q.2.1 b).2.2.1 = some ty → narrow ty (.int x) = .int x → fits ty (.int x) = true → zft a b = false → y = (pc + 3, lo, r, (h.1, zup h.2.1 o b x, h.2.2.1, h.2.2.2)) → W p l e R s m args below meth c H locs cells slots Q (F0 m pc ls (.int x :: .ref (zad sa base o) :: r.map (zv (zad sa base)))) := by
            intro ty p1 p2 p3 p4 p5
            subst p5
            refine zput_W C hd q1 h3 h4 h7 p1 p2 p3 hob (fun H' j f1 f2 f3 => ?_)
            refine kk _ _ _ _ _ ⟨I.1, I.2.1, zRep_set I.2.2.1 ho ne f2 f3 rfl (fun z hz => zup_row hz) (fun _ _ => rfl) (fun _ _ => rfl) (zcell_of q1 rfl (f1.to fun z hz => ?_)), I.2.2.2.put f2 f3 (zRep_A I.2.2.1 ho ne)⟩ rfl rfl
            unfold updV zfv
            by_cases hz2 : z = b
            · subst hz2
              rw [if_pos rfl, p4]
              dsimp only [cond_false]
              rw [zsame_up]
            · rw [if_neg hz2]
              cases zft a z
              · dsimp only [cond_false]
                rw [zne_up (fun w => hz2 w.2)]
              · rfl
          split at hs
          · simp only [zgo, Option.some.injEq, Sum.inl.injEq] at hs
            unfold zfty at h5
            split at h5
            · rename_i _ _ p1
              exact goal _ p1 rfl rfl (by simpa using h6) hs.symm
            · rename_i hk _; cases hk
            · rename_i hk _; cases hk
            · rename_i hk _; cases hk
            · cases h5
          · split at hs
            · rename_i hx2
              simp only [zgo, Option.some.injEq, Sum.inl.injEq] at hs
              unfold zfty at h5
              split at h5
              · rename_i hk _; cases hk
              · rename_i _ _ p1
                exact goal _ p1 (by rcases hx2 with rfl | rfl <;> rfl) (by rcases hx2 with rfl | rfl <;> rfl) (by simpa using h6) hs.symm
              · rename_i hk _; cases hk
              · rename_i hk _; cases hk
              · cases h5
            · cases hs
          · cases hs
      · cases hs
    · rename_i w o r
      split at hs
      · rename_i t n ho
        cases hq : (Nat.beq t (10 + a) && Nat.blt b n)
        · simp [hq] at hs
        · simp only [hq, cond_true] at hs
          simp only [Bool.and_eq_true, Nat.beq_eq] at hq
          obtain ⟨ht, hbn⟩ := hq
          subst ht
          obtain ⟨q, q1, q2, hob⟩ := zob I.2.2.1 ho
          subst q2
          rw [q1] at h2
          simp only [Bool.and_eq_true, decide_eq_true_eq] at h2
          obtain ⟨⟨⟨⟨h3, h4⟩, h5⟩, h6⟩, h7⟩ := h2
          have ne : ¬ (10 + a = 5) := by omega
          have goal : ∀ ty, parseFieldDescriptor (q.2.1 b).2.2.1 = some ty → narrow ty (.ref (zad sa base w)) = .ref (zad sa base w) → fits ty (.ref (zad sa base w)) = true → zft a b = true → y = (pc + 3, lo, r, (h.1, h.2.1, h.2.2.1, zup h.2.2.2 o b (some w))) → W p l e R s m args below meth c H locs cells slots Q (F0 m pc ls (.ref (zad sa base w) :: .ref (zad sa base o) :: r.map (zv (zad sa base)))) := by
            intro ty p1 p2 p3 p4 p5
            subst p5
            refine zput_W C hd q1 h3 h4 h7 p1 p2 p3 hob (fun H' j f1 f2 f3 => ?_)
            refine kk _ _ _ _ _ ⟨I.1, I.2.1, zRep_set I.2.2.1 ho ne f2 f3 rfl (fun _ _ => rfl) (fun _ _ => rfl) (fun z hz => zup_row hz) (zcell_of q1 rfl (f1.to fun z hz => ?_)), I.2.2.2.put f2 f3 (zRep_A I.2.2.1 ho ne)⟩ rfl rfl
            unfold updV zfv
            by_cases hz2 : z = b
            · subst hz2
              rw [if_pos rfl, p4]
              dsimp only [cond_true]
              rw [zsame_up]
              rfl
            · rw [if_neg hz2]
              cases zft a z
              · rfl
              · dsimp only [cond_true]
                rw [zne_up (fun w => hz2 w.2)]
          split at hs
          · simp only [zgo, Option.some.injEq, Sum.inl.injEq] at hs
            unfold zfty at h5
            split at h5
            · rename_i hk _; cases hk
            · rename_i hk _; cases hk
            · rename_i _ _ p1
              exact goal _ p1 rfl rfl h6 hs.symm
            · rename_i _ _ p1
              exact goal _ p1 rfl rfl h6 hs.symm
            · cases h5
          · cases hs
      · cases hs
    · cases hs
  · cases hc
/-- an array of the small machine that is no row of references -/
theorem zw_22 (C : zX p s m args meth c M D sa base) (hd : decode M.2.1 pc = .ok (i, len)) (hc : zc22 len i = true) (I : zIn D sa base M.2.2.1 s H locs lo h ls) (hs : zs22 len (pc, lo, st, h) = some (.inl y)) (kk : zK p l e R s m args below meth c cells slots Q D sa base M.2.2.1 h y) : W p l e R s m args below meth c H locs cells slots Q (F0 m pc ls (st.map (zv (zad sa base)))) := by
  obtain ⟨hx, hb, hml, hown, hnm, hts, hG, hbs⟩ := C
  unfold zc22 at hc
  split at hc
  · rw [decide_eq_true_eq] at hc
    subst hc
    simp only [zs22] at hs
    split at hs
    · rename_i j o r
      split at hs
      · rename_i t n ho
        cases hq : ((Nat.beq t 0 || Nat.beq t 5) && Nat.blt (zix j) n)
        · simp [hq] at hs
        · simp only [hq, cond_true, zgo, Option.some.injEq, Sum.inl.injEq] at hs
          subst hs
          simp only [Bool.and_eq_true, Bool.or_eq_true, Nat.beq_eq] at hq
          obtain ⟨ht, hlt⟩ := hq
          have hlt : zix j < n := Nat.ble_eq.mp hlt
          have hn := I.2.2.1.2.2.2.2 _ _ _ ho
          have hz := zix_lt hlt (by omega)
          rcases ht with rfl | rfl
          · obtain ⟨cA, g1, g2⟩ := I.2.2.1.2.2.1 _ _ _ ho
            refine W.iald hx hb g1 (g2 n _) (fun q => by cases q) (by show ¬ (_ ∨ (arrV _ _ _).slots.size ≤ _); rw [arrV_size]; exact zix_in hlt hn) (by show (arrV _ _ _).slots[_]? = _; rw [hz.2, arrV_read _ _ hlt]; rfl) rfl rfl hd (kk _ _ _ _ _ I rfl rfl)
          · obtain ⟨cell, g1, g2, g3, g4, g5, g6, g7⟩ := I.2.2.1.2.2.1 _ _ _ ho
            refine W.iald hx hb g1 g2 g3 (fun q => ?_) (by rw [hz.2]; exact g6 _ hlt) rfl rfl hd (kk _ _ _ _ _ I rfl rfl)
            rcases q with q | q
            · exact hz.1 q
            · rw [hz.2] at q
              omega
      · cases hs
    · cases hs
  · cases hc
theorem zw_23 (C : zX p s m args meth c M D sa base) (hd : decode M.2.1 pc = .ok (i, len)) (hc : zc23 len i = true) (I : zIn D sa base M.2.2.1 s H locs lo h ls) (hs : zs23 len (pc, lo, st, h) = some (.inl y)) (kk : zK p l e R s m args below meth c cells slots Q D sa base M.2.2.1 h y) : W p l e R s m args below meth c H locs cells slots Q (F0 m pc ls (st.map (zv (zad sa base)))) := by
  obtain ⟨hx, hb, hml, hown, hnm, hts, hG, hbs⟩ := C
  unfold zc23 at hc
  split at hc
  · rw [decide_eq_true_eq] at hc
    subst hc
    simp only [zs23] at hs
    split at hs
    · rename_i j o r
      split at hs
      · rename_i t n ho
        cases hq : (Nat.beq t 1 && Nat.blt (zix j) n)
        · simp [hq] at hs
        · simp only [hq, cond_true, zgo, Option.some.injEq, Sum.inl.injEq] at hs
          subst hs
          simp only [Bool.and_eq_true, Nat.beq_eq] at hq
          obtain ⟨rfl, hlt⟩ := hq
          have hlt : zix j < n := Nat.ble_eq.mp hlt
          have hn := I.2.2.1.2.2.2.2 _ _ _ ho
          have hz := zix_lt hlt (by omega)
          obtain ⟨cA, g1, g2⟩ := I.2.2.1.2.2.1 _ _ _ ho
          refine W.lald hx hb g1 (g2 n _) (fun q => by cases q) (by show ¬ (_ ∨ (arrV _ _ _).slots.size ≤ _); rw [arrV_size]; exact zix_in hlt hn) (by show (arrV _ _ _).slots[_]? = _; rw [hz.2, arrV_read _ _ hlt]; rfl) rfl rfl hd (kk _ _ _ _ _ I rfl rfl)
      · cases hs
    · cases hs
  · cases hc
theorem zrq_of {t n o : Nat} (r : zRep D sa base s H h) (ho : zget h.1 o = some (t, n)) (h2 : 2 ≤ t) (h4 : t ≤ 4) : zrq (zad sa base) s H h o n t := by
  have q := r.2.2.1 _ _ _ ho
  rcases (show t = 2 ∨ t = 3 ∨ t = 4 by omega) with rfl | rfl | rfl <;> exact q
theorem zof_rq {t n o : Nat} {U : State} {H1 : Heap} {h1 : zH} {A : Nat → Prop} (h2 : 2 ≤ t) (h4 : t ≤ 4) (q : zrq (zad sa base) U H1 h1 o n t) : zcell D (zad sa base) A U H1 h1 o n t := by
  rcases (show t = 2 ∨ t = 3 ∨ t = 4 by omega) with rfl | rfl | rfl <;> exact q
theorem zw_24 (C : zX p s m args meth c M D sa base) (hd : decode M.2.1 pc = .ok (i, len)) (hc : zc24 len i = true) (I : zIn D sa base M.2.2.1 s H locs lo h ls) (hs : zs24 len (pc, lo, st, h) = some (.inl y)) (kk : zK p l e R s m args below meth c cells slots Q D sa base M.2.2.1 h y) : W p l e R s m args below meth c H locs cells slots Q (F0 m pc ls (st.map (zv (zad sa base)))) := by
  obtain ⟨hx, hb, hml, hown, hnm, hts, hG, hbs⟩ := C
  unfold zc24 at hc
  split at hc
  · rw [decide_eq_true_eq] at hc
    subst hc
    simp only [zs24] at hs
    split at hs
    · rename_i j o r
      split at hs
      · rename_i t n ho
        cases hq : ((Nat.ble 2 t && Nat.ble t 4) && Nat.blt (zix j) n)
        · simp [hq] at hs
        · simp only [hq, cond_true, zgo, Option.some.injEq, Sum.inl.injEq] at hs
          subst hs
          simp only [Bool.and_eq_true, Nat.ble_eq] at hq
          obtain ⟨⟨h2, h4⟩, hlt⟩ := hq
          have hlt : zix j < n := Nat.ble_eq.mp hlt
          have hn := I.2.2.1.2.2.2.2 _ _ _ ho
          have hz := zix_lt hlt (by omega)
          obtain ⟨cA, g1, g2, g3⟩ := zrq_of I.2.2.1 ho h2 h4
          have K := kk _ _ _ _ _ I rfl rfl
          have K : W p l e R s m args below meth c H locs cells slots Q (F0 m (pc + 1) ls (va_rf ((h.2.2.2 o (zix j)).map (zad sa base)) :: r.map (zv (zad sa base)))) := by rw [← zv_rf]; exact K
          exact W.aald hx hb g1 (g2 n _) rfl (fun q => by cases q) (by show ¬ (_ ∨ (arrV _ _ _).slots.size ≤ _); rw [arrV_size]; exact zix_in hlt hn) (by show (arrV _ _ _).slots[_]? = _; rw [hz.2, arrV_read _ _ hlt]) rfl rfl hd K
      · cases hs
    · cases hs
  · cases hc
theorem zw_25 (C : zX p s m args meth c M D sa base) (hd : decode M.2.1 pc = .ok (i, len)) (hc : zc25 len i = true) (I : zIn D sa base M.2.2.1 s H locs lo h ls) (hs : zs25 len (pc, lo, st, h) = some (.inl y)) (kk : zK p l e R s m args below meth c cells slots Q D sa base M.2.2.1 h y) : W p l e R s m args below meth c H locs cells slots Q (F0 m pc ls (st.map (zv (zad sa base)))) := by
  obtain ⟨hx, hb, hml, hown, hnm, hts, hG, hbs⟩ := C
  unfold zc25 at hc
  split at hc
  · rw [decide_eq_true_eq] at hc
    subst hc
    simp only [zs25] at hs
    split at hs
    · rename_i x j o r
      split at hs
      · rename_i t n ho
        cases hq : (Nat.beq t 0 && Nat.blt (zix j) n)
        · simp [hq] at hs
        · simp only [hq, cond_true, zgo, Option.some.injEq, Sum.inl.injEq] at hs
          subst hs
          simp only [Bool.and_eq_true, Nat.beq_eq] at hq
          obtain ⟨rfl, hlt⟩ := hq
          have hlt : zix j < n := Nat.ble_eq.mp hlt
          have hn := I.2.2.1.2.2.2.2 _ _ _ ho
          have hz := zix_lt hlt (by omega)
          obtain ⟨cA, g1, g2⟩ := I.2.2.1.2.2.1 _ _ _ ho
          refine W.iast hx hb g1 (g2 n _) (fun q => by cases q) (by show ¬ (_ ∨ (arrV _ _ _).slots.size ≤ _); rw [arrV_size]; exact zix_in hlt hn) rfl rfl hd (fun H1 e1 z1 o1 => ?_)
          refine kk _ _ _ _ _ ⟨I.1, I.2.1, zRep_set I.2.2.1 ho (by decide) z1 o1 rfl (fun z hz => zup_row hz) (fun _ _ => rfl) (fun _ _ => rfl) ⟨cA, ?_, g2⟩, I.2.2.2.put z1 o1 (zRep_A I.2.2.1 ho (by decide))⟩ rfl rfl
          rw [e1, arrV_store, hz.2]
          congr 2
          funext q
          unfold updV
          dsimp only
          by_cases hq : q = zix j
          · subst hq
            rw [if_pos rfl, zsame_up]
          · rw [if_neg hq, zne_up (fun w => hq w.2)]
      · cases hs
    · cases hs
  · cases hc
theorem zw_26 (C : zX p s m args meth c M D sa base) (hd : decode M.2.1 pc = .ok (i, len)) (hc : zc26 len i = true) (I : zIn D sa base M.2.2.1 s H locs lo h ls) (hs : zs26 len (pc, lo, st, h) = some (.inl y)) (kk : zK p l e R s m args below meth c cells slots Q D sa base M.2.2.1 h y) : W p l e R s m args below meth c H locs cells slots Q (F0 m pc ls (st.map (zv (zad sa base)))) := by
  obtain ⟨hx, hb, hml, hown, hnm, hts, hG, hbs⟩ := C
  unfold zc26 at hc
  split at hc
  · rw [decide_eq_true_eq] at hc
    subst hc
    simp only [zs26] at hs
    split at hs
    · rename_i x j o r
      split at hs
      · rename_i t n ho
        cases hq : (Nat.beq t 1 && Nat.blt (zix j) n)
        · simp [hq] at hs
        · simp only [hq, cond_true, zgo, Option.some.injEq, Sum.inl.injEq] at hs
          subst hs
          simp only [Bool.and_eq_true, Nat.beq_eq] at hq
          obtain ⟨rfl, hlt⟩ := hq
          have hlt : zix j < n := Nat.ble_eq.mp hlt
          have hn := I.2.2.1.2.2.2.2 _ _ _ ho
          have hz := zix_lt hlt (by omega)
          obtain ⟨cA, g1, g2⟩ := I.2.2.1.2.2.1 _ _ _ ho
          refine W.last hx hb g1 (g2 n _) (fun q => by cases q) (by show ¬ (_ ∨ (arrV _ _ _).slots.size ≤ _); rw [arrV_size]; exact zix_in hlt hn) rfl rfl hd (fun H1 e1 z1 o1 => ?_)
          refine kk _ _ _ _ _ ⟨I.1, I.2.1, zRep_set I.2.2.1 ho (by decide) z1 o1 rfl (fun _ _ => rfl) (fun z hz => zup_row hz) (fun _ _ => rfl) ⟨cA, ?_, g2⟩, I.2.2.2.put z1 o1 (zRep_A I.2.2.1 ho (by decide))⟩ rfl rfl
          rw [e1, arrV_store, hz.2]
          congr 2
          funext q
          unfold updV
          dsimp only
          by_cases hq : q = zix j
          · subst hq
            rw [if_pos rfl, zsame_up]
          · rw [if_neg hq, zne_up (fun w => hq w.2)]
      · cases hs
    · cases hs
  · cases hc
theorem zcomp_cl {t : Nat} (h2 : 2 ≤ t) (h4 : t ≤ 4) : ∃ q : vw_C, zget vwCl (zcomp t) = some q ∧ q.1 = zcn t := by
  rcases (show t = 2 ∨ t = 3 ∨ t = 4 by omega) with rfl | rfl | rfl
  · exact ⟨_, rfl, rfl⟩
  · exact ⟨_, rfl, rfl⟩
  · exact ⟨_, rfl, rfl⟩
theorem zw_27 (C : zX p s m args meth c M D sa base) (hd : decode M.2.1 pc = .ok (i, len)) (hc : zc27 len i = true) (I : zIn D sa base M.2.2.1 s H locs lo h ls) (hs : zs27 len (pc, lo, st, h) = some (.inl y)) (kk : zK p l e R s m args below meth c cells slots Q D sa base M.2.2.1 h y) : W p l e R s m args below meth c H locs cells slots Q (F0 m pc ls (st.map (zv (zad sa base)))) := by
  obtain ⟨hx, hb, hml, hown, hnm, hts, hG, hbs⟩ := C
  unfold zc27 at hc
  split at hc
  · rw [decide_eq_true_eq] at hc
    subst hc
    simp only [zs27] at hs
    split at hs
    · rename_i v j o r
      split at hs
      · rename_i t n t2 n2 ho hv
        cases hq : (((Nat.ble 2 t && Nat.ble t 4) && Nat.beq t2 (10 + zcomp t)) && Nat.blt (zix j) n)
        · simp [hq] at hs
        · simp only [hq, cond_true, zgo, Option.some.injEq, Sum.inl.injEq] at hs
          subst hs
          simp only [Bool.and_eq_true, Nat.ble_eq, Nat.beq_eq] at hq
          obtain ⟨⟨⟨h2, h4⟩, rfl⟩, hlt⟩ := hq
          have hlt : zix j < n := Nat.ble_eq.mp hlt
          have hn := I.2.2.1.2.2.2.2 _ _ _ ho
          have hz := zix_lt hlt (by omega)
          have n5 : ¬ (t = 5) := by omega
          obtain ⟨cA, g1, g2, kA, comp, k1, k2, k3, k4⟩ := zrq_of I.2.2.1 ho h2 h4
          obtain ⟨q', e1, e2⟩ := zcomp_cl h2 h4
          obtain ⟨q, q1, q2, cellV, v1, v2, v3, -⟩ := zob I.2.2.1 hv
          rw [e1] at q1
          cases q1
          have hcls := (hG.1.1 _ _ (zcl_el e1)).2
          rw [e2] at hcls
          have hcomp : comp = D.1 (zcomp t) := Option.some.inj (k3.symm.trans hcls.1)
          subst hcomp
          obtain ⟨kC, hkC, hkk⟩ := hcls.2
          refine W.aast hx hb g1 (fun q h => by cases h) (fun h => by cases h) k1 k2 rfl hkC ⟨hz.1, by show _ < (arrV _ _ _).slots.size; rw [arrV_size, hz.2]; exact hlt⟩ v1 (fun q h => by rw [v3] at h; cases h) (by rw [v2]; exact hkC) (by rw [v2]; exact va_assign hcls) rfl rfl hd fun H1 e1 z1 o1 => ?_
          refine kk _ _ _ _ _ ⟨I.1, I.2.1, zRep_set I.2.2.1 ho n5 z1 o1 rfl (fun _ _ => rfl) (fun _ _ => rfl) (fun z hz => zup_row hz) (zof_rq h2 h4 ⟨cA, ?_, g2, kA, _, k1, k2, k3, k4⟩), I.2.2.2.put z1 o1 (zRep_A I.2.2.1 ho n5)⟩ rfl rfl
          rw [e1, arrV_store, hz.2]
          congr 2
          funext q
          unfold updV
          dsimp only
          by_cases hq : q = zix j
          · subst hq
            rw [if_pos rfl, zsame_up]
            rfl
          · rw [if_neg hq, zne_up (fun w => hq w.2)]
      · cases hs
    · cases hs
  · cases hc
theorem zw_28 (C : zX p s m args meth c M D sa base) (hd : decode M.2.1 pc = .ok (i, len)) (hc : zc28 len i = true) (I : zIn D sa base M.2.2.1 s H locs lo h ls) (hs : zs28 len (pc, lo, st, h) = some (.inl y)) (kk : zK p l e R s m args below meth c cells slots Q D sa base M.2.2.1 h y) : W p l e R s m args below meth c H locs cells slots Q (F0 m pc ls (st.map (zv (zad sa base)))) := by
  obtain ⟨hx, hb, hml, hown, hnm, hts, hG, hbs⟩ := C
  unfold zc28 at hc
  split at hc
  · rw [decide_eq_true_eq] at hc
    subst hc
    simp only [zs28] at hs
    split at hs
    · rename_i o r
      split at hs
      · rename_i t n ho
        cases hq : Nat.ble t 5
        · simp [hq] at hs
        · simp only [hq, cond_true, zgo, Option.some.injEq, Sum.inl.injEq] at hs
          subst hs
          rw [Nat.ble_eq] at hq
          have K := kk _ _ _ _ _ I rfl rfl
          have q := I.2.2.1.2.2.1 _ _ _ ho
          rcases (show t = 0 ∨ t = 1 ∨ (2 ≤ t ∧ t ≤ 4) ∨ t = 5 by omega) with rfl | rfl | ⟨h2, h4⟩ | rfl
          · obtain ⟨cA, g1, g2⟩ := q
            exact W.alen hx hb g1 (g2 n _) (by rw [arrV_size] <;> rfl) rfl rfl hd K
          · obtain ⟨cA, g1, g2⟩ := q
            exact W.alen hx hb g1 (g2 n _) (by rw [arrV_size] <;> rfl) rfl rfl hd K
          · obtain ⟨cA, g1, g2, g3⟩ := zrq_of I.2.2.1 ho h2 h4
            exact W.alen hx hb g1 (g2 n _) (by rw [arrV_size] <;> rfl) rfl rfl hd K
          · obtain ⟨cell, g1, g2, g3, g4, g5, g6, g7⟩ := q
            exact W.alen hx hb g1 g2 g5 rfl rfl hd K
      · cases hs
    · cases hs
  · cases hc
end ZC
