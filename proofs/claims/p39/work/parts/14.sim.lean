/-! THE WHOLE RUN: what the small machine runs to, the real one runs to. -/
theorem zs35_sp {k3 pc : Nat} {lo : List (Option Value)} {st : List Value} {h : zH} {r : Option Value} (hs : zs35 k3 (pc, lo, st, h) = some (.inr (.inr r))) : ∃ x, st = [.int x] ∧ r = some (.int x) ∧ (k3 = 1 → x = 0 ∨ x = 1) := by
  simp only [zs35] at hs
  split at hs
  · rename_i x
    split at hs
    · split at hs
      · rename_i hv
        cases hs
        exact ⟨x, rfl, rfl, fun _ => hv⟩
      · cases hs
    · rename_i hk
      cases hs
      exact ⟨x, rfl, rfl, fun q => absurd q hk⟩
  · cases hs
theorem zs36_sp {pc : Nat} {lo : List (Option Value)} {st : List Value} {h : zH} {r : Option Value} (hs : zs36 (pc, lo, st, h) = some (.inr (.inr r))) : ∃ x, st = [.long x] ∧ r = some (.long x) := by
  simp only [zs36] at hs
  split at hs
  · cases hs
    exact ⟨_, rfl, rfl⟩
  · cases hs
theorem zs37_sp {pc : Nat} {lo : List (Option Value)} {st : List Value} {h : zH} {r : Option Value} (hs : zs37 (pc, lo, st, h) = some (.inr (.inr r))) : ∃ x, st = [.ref x] ∧ r = some (.ref x) := by
  simp only [zs37] at hs
  split at hs
  · cases hs
    exact ⟨_, rfl, rfl⟩
  · cases hs
theorem zs38_sp {pc : Nat} {lo : List (Option Value)} {st : List Value} {h : zH} {r : Option Value} (hs : zs38 (pc, lo, st, h) = some (.inr (.inr r))) : st = [] ∧ r = none := by
  simp only [zs38] at hs
  split at hs
  · cases hs
    exact ⟨rfl, rfl⟩
  · cases hs
section ZH
variable {p : Program} {l : Launch} {e : Env} {R : Room} {s : State} {m : MethodId} {args : Array Value} {below : List Frame} {meth : Method} {c : Code} {H : Heap} {locs : List Loc} {cells slots : Nat} {Q : State → Prop}
variable {M M2 : zM} {D : va_G} {sa : Nat → Nat} {base : Nat} {pc len a b k3 ci : Nat} {v : Value} {sw : List (Int32 × Nat)} {i : Instr} {lo : List (Option Value)} {st : List Value} {h h1 : zH} {ls : Array Slot} {y : zC}
theorem zw_all (C : zX p s m args meth c M D sa base) (hd : decode M.2.1 pc = .ok (i, len)) {op : Nat} (hc : zcI M pc (op, len, a, b, k3, v, sw) i = true) (I : zIn D sa base M.2.2.1 s H locs lo h ls) (hs : zstep (op, len, a, b, k3, v, sw) (pc, lo, st, h) = some (.inl y)) (hF : 1 ≤ R.frames ∧ 64 ≤ R.locals) (hR : cells + y.2.2.2.1.length ≤ R.cells + h.1.length ∧ slots + zslots y.2.2.2.1 ≤ R.slots + zslots h.1) (kk : zK p l e R s m args below meth c cells slots Q D sa base M.2.2.1 h y) : W p l e R s m args below meth c H locs cells slots Q (F0 m pc ls (st.map (zv (zad sa base)))) := by
  match op, hc, hs with
  | 0, hc, hs => exact zw_0 C hd hc I hs kk
  | 1, hc, hs => exact zw_1 C hd hc I hs kk
  | 2, hc, hs => exact zw_2 C hd hc I hs kk
  | 3, hc, hs => exact zw_3 C hd hc I hs kk
  | 4, hc, hs => exact zw_4 C hd hc I hs kk
  | 5, hc, hs => exact zw_5 C hd hc I hs kk
  | 6, hc, hs => exact zw_6 C hd hc I hs kk
  | 7, hc, hs => exact zw_7 C hd hc I hs kk
  | 8, hc, hs => exact zw_8 C hd hc I hs kk
  | 9, hc, hs => exact zw_9 C hd hc I hs kk
  | 10, hc, hs => exact zw_10 C hd hc I hs kk
  | 11, hc, hs => exact zw_11 C hd hc I hs kk
  | 12, hc, hs => exact zw_12 C hd hc I hs kk
  | 13, hc, hs => exact zw_13 C hd hc I hs kk
  | 14, hc, hs => exact zw_14 C hd hc I hs kk
  | 15, hc, hs => exact zw_15 C hd hc I hs kk
  | 16, hc, hs => exact zw_16 C hd hc I hs kk
  | 17, hc, hs => exact zw_17 C hd hc I hs kk
  | 18, hc, hs => exact zw_18 C hd hc I hs kk
  | 19, hc, hs => exact zw_19 C hd hc I hs kk
  | 20, hc, hs => exact zw_20 C hd hc I hs kk
  | 21, hc, hs => exact zw_21 C hd hc I hs kk
  | 22, hc, hs => exact zw_22 C hd hc I hs kk
  | 23, hc, hs => exact zw_23 C hd hc I hs kk
  | 24, hc, hs => exact zw_24 C hd hc I hs kk
  | 25, hc, hs => exact zw_25 C hd hc I hs kk
  | 26, hc, hs => exact zw_26 C hd hc I hs kk
  | 27, hc, hs => exact zw_27 C hd hc I hs kk
  | 28, hc, hs => exact zw_28 C hd hc I hs kk
  | 29, hc, hs => exact zw_29 C hd hc I hs hR kk
  | 30, hc, hs => exact zw_30 C hd hc I hs hR kk
  | 31, hc, hs => 
    have hs' : zs31 len b (pc, lo, st, h) = some (.inl y) := hs
    obtain ⟨y', q, e1, e2⟩ := zg_31 hs'
    cases e1
    have e3 : y.2.2.2.1 = h.1 ++ q := e2
    rw [e3, List.length_append, zslots_add] at hR
    exact zw_31 C hd hc I hs hF ⟨by omega, by omega⟩ kk
  | 32, hc, hs => 
    have hs' : zs32 len a b (k3 % 4) (k3 / 4) (pc, lo, st, h) = some (.inl y) := hs
    obtain ⟨as, y', e1⟩ := zg_32 hs'
    cases e1
  | 33, hc, hs => exact zw_33 C hd hc I hs hF kk
  | 34, hc, hs => exact zw_34 C hd hc I hs hF kk
  | 35, hc, hs => 
    have hs' : zs35 k3 (pc, lo, st, h) = some (.inl y) := hs
    obtain ⟨r, e1⟩ := zg_35 hs'
    cases e1
  | 36, hc, hs => 
    have hs' : zs36  (pc, lo, st, h) = some (.inl y) := hs
    obtain ⟨r, e1⟩ := zg_36 hs'
    cases e1
  | 37, hc, hs => 
    have hs' : zs37  (pc, lo, st, h) = some (.inl y) := hs
    obtain ⟨r, e1⟩ := zg_37 hs'
    cases e1
  | 38, hc, hs => 
    have hs' : zs38  (pc, lo, st, h) = some (.inl y) := hs
    obtain ⟨r, e1⟩ := zg_38 hs'
    cases e1
  | 39, hc, hs => exact zw_39 C hd hc I hs kk
  | 40, hc, hs => exact zw_40 C hd hc I hs kk
  | 41, hc, hs => exact zw_41 C hd hc I hs kk
  | 42, hc, hs => exact zw_42 C hd hc I hs kk
  | 43, hc, hs => exact zw_43 C hd hc I hs kk
  | 44, hc, hs => exact zw_44 C hd hc I hs kk
  | _ + 45, hc, hs => cases hs
theorem zg_ret {x : zC} {r : Option Value} {op : Nat} (h0 : zstep (op, len, a, b, k3, v, sw) x = some (.inr (.inr r))) : op = 35 ∨ op = 36 ∨ op = 37 ∨ op = 38 := by
  match op, h0 with
  | 0, h0 => 
    obtain ⟨y, q, e1, -⟩ := zg_0 h0
    cases e1
  | 1, h0 => 
    obtain ⟨y, q, e1, -⟩ := zg_1 h0
    cases e1
  | 2, h0 => 
    obtain ⟨y, q, e1, -⟩ := zg_2 h0
    cases e1
  | 3, h0 => 
    obtain ⟨y, q, e1, -⟩ := zg_3 h0
    cases e1
  | 4, h0 => 
    obtain ⟨y, q, e1, -⟩ := zg_4 h0
    cases e1
  | 5, h0 => 
    obtain ⟨y, q, e1, -⟩ := zg_5 h0
    cases e1
  | 6, h0 => 
    obtain ⟨y, q, e1, -⟩ := zg_6 h0
    cases e1
  | 7, h0 => 
    obtain ⟨y, q, e1, -⟩ := zg_7 h0
    cases e1
  | 8, h0 => 
    obtain ⟨y, q, e1, -⟩ := zg_8 h0
    cases e1
  | 9, h0 => 
    obtain ⟨y, q, e1, -⟩ := zg_9 h0
    cases e1
  | 10, h0 => 
    obtain ⟨y, q, e1, -⟩ := zg_10 h0
    cases e1
  | 11, h0 => 
    obtain ⟨y, q, e1, -⟩ := zg_11 h0
    cases e1
  | 12, h0 => 
    obtain ⟨y, q, e1, -⟩ := zg_12 h0
    cases e1
  | 13, h0 => 
    obtain ⟨y, q, e1, -⟩ := zg_13 h0
    cases e1
  | 14, h0 => 
    obtain ⟨y, q, e1, -⟩ := zg_14 h0
    cases e1
  | 15, h0 => 
    obtain ⟨y, q, e1, -⟩ := zg_15 h0
    cases e1
  | 16, h0 => 
    obtain ⟨y, q, e1, -⟩ := zg_16 h0
    cases e1
  | 17, h0 => 
    obtain ⟨y, q, e1, -⟩ := zg_17 h0
    cases e1
  | 18, h0 => 
    obtain ⟨y, q, e1, -⟩ := zg_18 h0
    cases e1
  | 19, h0 => 
    obtain ⟨y, q, e1, -⟩ := zg_19 h0
    cases e1
  | 20, h0 => 
    obtain ⟨y, q, e1, -⟩ := zg_20 h0
    cases e1
  | 21, h0 => 
    obtain ⟨y, q, e1, -⟩ := zg_21 h0
    cases e1
  | 22, h0 => 
    obtain ⟨y, q, e1, -⟩ := zg_22 h0
    cases e1
  | 23, h0 => 
    obtain ⟨y, q, e1, -⟩ := zg_23 h0
    cases e1
  | 24, h0 => 
    obtain ⟨y, q, e1, -⟩ := zg_24 h0
    cases e1
  | 25, h0 => 
    obtain ⟨y, q, e1, -⟩ := zg_25 h0
    cases e1
  | 26, h0 => 
    obtain ⟨y, q, e1, -⟩ := zg_26 h0
    cases e1
  | 27, h0 => 
    obtain ⟨y, q, e1, -⟩ := zg_27 h0
    cases e1
  | 28, h0 => 
    obtain ⟨y, q, e1, -⟩ := zg_28 h0
    cases e1
  | 29, h0 => 
    obtain ⟨y, q, e1, -⟩ := zg_29 h0
    cases e1
  | 30, h0 => 
    obtain ⟨y, q, e1, -⟩ := zg_30 h0
    cases e1
  | 31, h0 => 
    obtain ⟨y, q, e1, -⟩ := zg_31 h0
    cases e1
  | 32, h0 => 
    obtain ⟨as, y, e1⟩ := zg_32 h0
    cases e1
  | 33, h0 => 
    obtain ⟨y, q, e1, -⟩ := zg_33 h0
    cases e1
  | 34, h0 => 
    obtain ⟨y, q, e1, -⟩ := zg_34 h0
    cases e1
  | 35, h0 => decide
  | 36, h0 => decide
  | 37, h0 => decide
  | 38, h0 => decide
  | 39, h0 => 
    obtain ⟨y, q, e1, -⟩ := zg_39 h0
    cases e1
  | 40, h0 => 
    obtain ⟨y, q, e1, -⟩ := zg_40 h0
    cases e1
  | 41, h0 => 
    obtain ⟨y, q, e1, -⟩ := zg_41 h0
    cases e1
  | 42, h0 => 
    obtain ⟨y, q, e1, -⟩ := zg_42 h0
    cases e1
  | 43, h0 => 
    obtain ⟨y, q, e1, -⟩ := zg_43 h0
    cases e1
  | 44, h0 => 
    obtain ⟨y, q, e1, -⟩ := zg_44 h0
    cases e1
  | _ + 45, h0 => cases h0
theorem zchk_at {mi : Nat} {x : zI} (hM : zm mi = some M) (h : zi mi pc = some x) : ∃ i, decode M.2.1 pc = .ok (i, x.2.1) ∧ zcI M pc x i = true := by
  obtain ⟨M', h1, h2⟩ := zi_ok h
  rw [hM] at h1
  cases h1
  unfold zchk at h2
  split at h2
  · rename_i i n hd
    rw [Bool.and_eq_true, decide_eq_true_eq] at h2
    obtain ⟨e1, e2⟩ := h2
    subst e1
    exact ⟨i, hd, e2⟩
  · cases h2
end ZH
theorem zlvl_pad (ad : Nat → Nat) : ∀ (n i : Nat) (l : List (Option Value)), zlvl ad i (zpad n l) = zlvl ad i l
  | 0, i, l => rfl
  | n + 1, i, [] => by
    have q := zlvl_pad ad n (i + 1) []
    simp only [zpad, zlvl] at q ⊢
    exact q
  | n + 1, i, none :: l => by
    simp only [zpad, zlvl]
    exact zlvl_pad ad n (i + 1) l
  | n + 1, i, some v :: l => by
    simp only [zpad, zlvl]
    rw [zlvl_pad ad n (i + 1) l]
theorem zlvl_args (ad : Nat → Nat) : ∀ (i : Nat) (as : List Value), zlvl ad i (zargs as) = lv_args i (as.map (zv ad))
  | i, [] => rfl
  | i, v :: r => by
    cases hl : zlong v
    · have hc : ¬ (zv ad v).category = 2 := by rw [zcat1 hl]; decide
      simp only [zargs, hl, cond_false, zlvl, List.map_cons, lv_args, if_neg hc]
      rw [zlvl_args ad (i + 1) r]
    · have hc : (zv ad v).category = 2 := by rw [zv_cat]; exact (zlong_cat v).mp hl
      simp only [zargs, hl, cond_true, zlvl, List.map_cons, lv_args, if_pos hc]
      rw [zlvl_args ad (i + 1 + 1) r]
theorem zpad_len : ∀ (n : Nat) (l : List (Option Value)), l.length ≤ (zpad n l).length
  | 0, l => Nat.le_refl _
  | n + 1, [] => Nat.zero_le _
  | n + 1, x :: l => by
    simp only [zpad, List.length_cons]
    exact Nat.succ_le_succ (zpad_len n l)
theorem zargs_len (ad : Nat → Nat) : ∀ as : List Value, (lg_sl (as.map (zv ad))).length = (zargs as).length
  | [] => rfl
  | v :: r => by
    have ih := zargs_len ad r
    unfold lg_sl at ih ⊢
    simp only [List.map_cons, List.flatMap_cons, List.length_append, ih]
    cases hl : zlong v
    · have hc : ¬ (zv ad v).category = 2 := by rw [zcat1 hl]; decide
      simp only [zargs, hl, cond_false, if_neg hc, List.length_cons, List.length_nil]
      omega
    · have hc : (zv ad v).category = 2 := by rw [zv_cat]; exact (zlong_cat v).mp hl
      simp only [zargs, hl, cond_true, if_pos hc, List.length_cons, List.length_nil]
      omega
section ZI
variable {p : Program} {l : Launch} {e : Env} {R : Room} {s : State} {m : MethodId} {args : Array Value} {below : List Frame} {meth : Method} {c : Code} {H : Heap} {locs : List Loc} {cells slots : Nat} {Q : State → Prop}
variable {M M2 : zM} {D : va_G} {sa : Nat → Nat} {base : Nat} {pc len a b k3 ci : Nat} {v : Value} {sw : List (Int32 × Nat)} {i : Instr} {lo : List (Option Value)} {st : List Value} {h h1 : zH} {ls : Array Slot} {y : zC}

def zEnd (p : Program) (l : Launch) (e : Env) (R : Room) (s : State) (m : MethodId) (args : Array Value) (below : List Frame) (meth : Method) (c : Code) (cells slots : Nat) (Q : State → Prop) (D : va_G) (sa : Nat → Nat) (base L mi : Nat) (h : zH) : zC ⊕ (Option Value × zH) → Prop
  | .inl y => zK p l e R s m args below meth c cells slots Q D sa base L h y
  | .inr (r, h1) => ∀ (pc' : Nat) (e' : zI) (lo' : List (Option Value)) (st' : List Value) (ls' : Array Slot) (H' : Heap) (locs' : List Loc) (cells' slots' : Nat), zi mi pc' = some e' → zstep e' (pc', lo', st', h1) = some (.inr (.inr r)) → zIn D sa base L s H' locs' lo' h1 ls' → cells' + h.1.length = cells + h1.1.length → slots' + zslots h.1 = slots + zslots h1.1 → W p l e R s m args below meth c H' locs' cells' slots' Q (F0 m pc' ls' (st'.map (zv (zad sa base))))
theorem zEnd_shift {mi L : Nat} {o : zC ⊕ (Option Value × zH)} {cells2 slots2 : Nat} (k : zEnd p l e R s m args below meth c cells slots Q D sa base L mi h o) (e1 : cells2 + h.1.length = cells + h1.1.length) (e2 : slots2 + zslots h.1 = slots + zslots h1.1) : zEnd p l e R s m args below meth c cells2 slots2 Q D sa base L mi h1 o := by
  match o, k with
  | .inl y, k => exact fun ls' H' locs' cells' slots' I q1 q2 => k ls' H' locs' cells' slots' I (by omega) (by omega)
  | .inr (r, h2), k => exact fun pc' e' lo' st' ls' H' locs' cells' slots' z1 z2 I q1 q2 => k pc' e' lo' st' ls' H' locs' cells' slots' z1 z2 I (by omega) (by omega)
/-- a method's end -/
theorem zret_W (C : zX p s m args meth c M D sa base) (hr : meth.sig.returnType = M.2.2.2.1) (hlocks : meth.locks = false) {mi : Nat} (hM : zm mi = some M) {x : zI} (hi : zi mi pc = some x) {r : Option Value} (hs : zstep x (pc, lo, st, h) = some (.inr (.inr r))) (I : zIn D sa base M.2.2.1 s H locs lo h ls) : W p l e R s m args below meth c H locs cells slots (MQ below (zQc D sa base r h) args s cells slots (zA base)) (F0 m pc ls (st.map (zv (zad sa base)))) := by
  obtain ⟨i, hd, hc⟩ := zchk_at hM hi
  obtain ⟨hx, hb, hml, hown, hnm, hts, hG, hbs⟩ := C
  have hq : ∀ t : State, t.heap = H → s.WarmedH t.vm → zQc D sa base r h args s (.returned (r.map (zv (zad sa base)))) t := by
    intro t ht hW
    subst ht
    exact ⟨rfl, zRep_moved hW.alike I.2.2.1, I.2.2.2.1, I.2.2.2.2.1⟩
  have hf : ∀ q ∈ locs, zA base q.base := I.2.2.2.2.2
  obtain ⟨op, len, a, b, k3, v, sw⟩ := x
  rcases zg_ret hs with rfl | rfl | rfl | rfl
  · have hc : zc35 len k3 M.2.2.2.1 i = true := hc
    obtain ⟨x, rfl, rfl, hv⟩ := zs35_sp (k3 := k3) (pc := pc) (lo := lo) (st := st) (h := h) hs
    unfold zc35 at hc
    split at hc
    · rw [Bool.and_eq_true, decide_eq_true_eq] at hc
      obtain ⟨h1, h2⟩ := hc
      have hd : decode M.2.1 pc = .ok (.ireturn, len) := hd
      subst h1
      split at h2
      · rename_i hr2
        exact W.iret hx hb (hr.trans hr2) hq hf hd hlocks
      · rename_i hr2
        exact W.zret hx hb (hr.trans hr2) (by rcases hv rfl with rfl | rfl <;> rfl) hq hf hd hlocks
      · cases h2
    · cases hc
  · have hc : zc36 len M.2.2.2.1 i = true := hc
    obtain ⟨x, rfl, rfl⟩ := zs36_sp (pc := pc) (lo := lo) (st := st) (h := h) hs
    unfold zc36 at hc
    split at hc
    · rw [Bool.and_eq_true, decide_eq_true_eq] at hc
      obtain ⟨h1, h2⟩ := hc
      have hd : decode M.2.1 pc = .ok (.lreturn, len) := hd
      subst h1
      split at h2
      · rename_i hr2
        exact W.lret hx hb (hr.trans hr2) hq hf hd hlocks
      · cases h2
    · cases hc
  · have hc : zc37 len M.2.2.2.1 i = true := hc
    obtain ⟨x, rfl, rfl⟩ := zs37_sp (pc := pc) (lo := lo) (st := st) (h := h) hs
    unfold zc37 at hc
    split at hc
    · rw [Bool.and_eq_true, decide_eq_true_eq] at hc
      obtain ⟨h1, h2⟩ := hc
      have hd : decode M.2.1 pc = .ok (.areturn, len) := hd
      subst h1
      split at h2
      · rename_i hr2
        exact W.aret hx hb (hr.trans hr2) (Or.inl ⟨_, rfl⟩) (Or.inr ⟨_, rfl⟩) hq hf hd hlocks
      · cases h2
    · cases hc
  · have hc : zc38 len M.2.2.2.1 i = true := hc
    obtain ⟨rfl, rfl⟩ := zs38_sp (pc := pc) (lo := lo) (st := st) (h := h) hs
    unfold zc38 at hc
    split at hc
    · rw [Bool.and_eq_true, decide_eq_true_eq] at hc
      obtain ⟨h1, h2⟩ := hc
      have hd : decode M.2.1 pc = .ok (.return_, len) := hd
      subst h1
      split at h2
      · rename_i hr2
        exact W.vret hx hb (hr.trans hr2) hq hf hd hlocks
      · cases h2
    · cases hc
end ZI
set_option maxRecDepth 20000 in
/-- THE SIMULATION: a run of the small machine is one of the real one -/
theorem zsim {l : Launch} {D : va_G} {sa : Nat → Nat} {base : Nat} : ∀ (f d mi stop : Nat) (x : zC) (o : zC ⊕ (Option Value × zH)), zr f d mi stop x = some o → ∀ (M : zM) (p : Program) (e : Env) (R : Room) (s : State) (m : MethodId) (args : Array Value) (below : List Frame) (meth : Method) (c : Code) (H : Heap) (locs : List Loc) (cells slots : Nat) (Q : State → Prop) (ls : Array Slot), zm mi = some M → zX p s m args meth c M D sa base → zIn D sa base M.2.2.1 s H locs x.2.1 x.2.2.2 ls → d + 1 ≤ R.frames ∧ 64 * (d + 1) ≤ R.locals → cells + (zoh o).1.length ≤ R.cells + x.2.2.2.1.length ∧ slots + zslots (zoh o).1 ≤ R.slots + zslots x.2.2.2.1 → zEnd p l e R s m args below meth c cells slots Q D sa base M.2.2.1 mi x.2.2.2 o → W p l e R s m args below meth c H locs cells slots Q (F0 m x.1 ls (x.2.2.1.map (zv (zad sa base))))
  | 0, _, _, _, _, _, h0 => by cases h0
  | f + 1, d, mi, stop, x, o, h0 => by
    intro M p e R s m args below meth c H locs cells slots Q ls hM C I hF hR hE
    rcases zr_step h0 with ⟨-, rfl⟩ | ⟨x0, he, ⟨y, hy, hr⟩ | ⟨r, hy, rfl⟩ | ⟨a', as, y, d1, r, h1, hy, rfl, hlen, h2, h3⟩⟩
    · exact hE ls H locs cells slots I rfl rfl
    · obtain ⟨i, hd, hc⟩ := zchk_at hM he
      obtain ⟨q1, g1⟩ := zr_ext _ _ _ _ _ _ hr
      obtain ⟨op, len, a, b, k3, v, sw⟩ := x0
      obtain ⟨pc, lo, st, h⟩ := x
      have hR2 := hR
      rw [g1, List.length_append, zslots_add] at hR2
      obtain ⟨y', q2, e1, g2⟩ : ∃ y' q, (Sum.inl y : zO) = .inl y' ∧ y'.2.2.2.1 = h.1 ++ q := by
        rcases zg_all hy with g | ⟨-, as, y', e1⟩ | ⟨r, e1⟩
        · exact g
        · cases e1
        · cases e1
      cases e1
      refine zw_all C hd hc I hy ⟨by omega, by omega⟩ ⟨by dsimp only at hR2 ⊢; omega, by dsimp only at hR2 ⊢; omega⟩ ?_
      intro ls' H' locs' cells' slots' I' n1 n2
      dsimp only at n1 n2 hR
      exact zsim f d mi stop y o hr M p e R s m args below meth c H' locs' cells' slots' Q ls' hM C I' hF ⟨by omega, by omega⟩ (zEnd_shift hE n1 n2)
    · exact hE x.1 x0 x.2.1 x.2.2.1 ls H locs cells slots he hy I rfl rfl
    · obtain ⟨i, hd, hc⟩ := zchk_at hM he
      obtain ⟨op, len, a, b, k3, v, sw⟩ := x0
      obtain ⟨pc, lo, st, h⟩ := x
      obtain ⟨rfl, e2⟩ : op = 32 ∧ a' = a := by
        rcases zg_all hy with ⟨y', q, e1, -⟩ | ⟨e0, as', y', e1⟩ | ⟨r, e1⟩
        · cases e1
        · cases e1
          exact ⟨e0, rfl⟩
        · cases e1
      subst e2
      have hs : zs32 len a' b (k3 % 4) (k3 / 4) (pc, lo, st, h) = some (.inr (.inl (a', as, y))) := hy
      have hc : (match zm a' with
        | some M2 => zc32 M.1.cls len a' b (k3 % 4) (k3 / 4) sw M2 i
        | _ => false) = true := hc
      cases hM2 : zm a' with
      | none => rw [hM2] at hc; cases hc
      | some M2 =>
        rw [hM2] at hc
        have hc : zc32 M.1.cls len a' b (k3 % 4) (k3 / 4) sw M2 i = true := hc
        have hlaw : a' ≠ zlaw := by
          unfold zc32 at hc
          split at hc
          · simp only [Bool.and_eq_true, decide_eq_true_eq] at hc
            exact hc.1.1.1.1.1.2
          · simp only [Bool.and_eq_true, decide_eq_true_eq] at hc
            exact hc.1.1.1.2
          · rw [Bool.and_eq_true, Bool.and_eq_true, Bool.and_eq_true, Bool.and_eq_true, Bool.and_eq_true, Bool.and_eq_true, Bool.and_eq_true, decide_eq_true_eq, decide_eq_true_eq] at hc
            exact hc.1.1.1.1.1.1.2
          · cases hc
        obtain ⟨f1, f2, f3, f4, f5, f6, f7, f8, f9⟩ := zm_facts hM2 hlaw
        obtain ⟨q1, g1⟩ := zr_ext _ _ _ _ _ _ h2
        obtain ⟨q2, g2⟩ := zr_ext _ _ _ _ _ _ h3
        have g1 : h1.1 = h.1 ++ q1 := g1
        have g2 : (zoh o).1 = h1.1 ++ q2 := g2
        have n1 : h1.1.length = h.1.length + q1.length := by rw [g1, List.length_append]
        have n2 : zslots h1.1 = zslots h.1 + zslots q1 := by rw [g1, zslots_add]
        have n3 : (zoh o).1.length = h1.1.length + q2.length := by rw [g2, List.length_append]
        have n4 : zslots (zoh o).1 = zslots h1.1 + zslots q2 := by rw [g2, zslots_add]
        dsimp only at hR
        have hMet : Met l M2.1 (zws M2) (zRoom d1 q1.length (zslots q1)) (zPc D sa base as h) (zQc D sa base r h1) q1.length (zslots q1) (zA base) := by
          refine Met.ofW (cc := M2.2.1) (maxL := M2.2.2.1) (ret := M2.2.2.2.1) f5 rfl ?_
          intro p' e' s' m' args' below' meth' c' s₁ B hml hP
          obtain ⟨hargs, hrep, hg⟩ := hP
          subst hargs
          have hts := atoms_spec (ws := zws M2) B.pre
          have hb6 : base ≤ s'.heap.size := by
            have q1 := hrep.1
            have q2 := hrep.2.1
            omega
          have hle : (lg_sl (as.map (zv (zad sa base)))).length ≤ M2.2.2.1 := by
            rw [zargs_len, ← f9, ← hlen]
            exact zpad_len _ _
          have hl := lv_entry (as.map (zv (zad sa base))) hle
          rw [lg_entry_eq]
          generalize (lg_sl (as.map (zv (zad sa base))) ++ List.replicate (M2.2.2.1 - (lg_sl (as.map (zv (zad sa base)))).length) Slot.unset).toArray = ls' at hl ⊢
          rw [← zlvl_args, ← zlvl_pad _ (zL a')] at hl
          have C' : zX p' s' m' (as.map (zv (zad sa base))).toArray meth' c' M2 D sa base := ⟨B.exec, B.bytes, hml, findClass_of_methodNamed B.named, fun q => (name_of_methodNamed B.named B.method).1.trans q, fun w hw => hts w (List.mem_cons_of_mem _ hw), hg, hb6⟩
          refine zsim f d1 a' 100000 (0, zpad (zL a') (zargs as), [], h) (.inr (r, h1)) h2 M2 p' e' _ s' m' _ below' meth' c' s'.heap [] 0 0 _ ls' hM2 C' ⟨hl, hlen.trans f9, hrep, va_S.rf⟩ ⟨Nat.le_refl _, Nat.le_refl _⟩ ⟨by show 0 + h1.1.length ≤ q1.length + h.1.length; omega, by show 0 + zslots h1.1 ≤ zslots q1 + zslots h.1; omega⟩ ?_
          intro pc' e'' lo' st' ls'' H' locs' cells' slots' z1 z2 I' w1 w2
          dsimp only at w1 w2
          have w3 : cells' = q1.length := by omega
          have w4 : slots' = zslots q1 := by omega
          subst w3
          subst w4
          exact zret_W C' B.returns B.notSynchronized hM2 z1 z2 I'
        refine zw_32 C hd hM2 hc I hs hMet ⟨by omega, by omega⟩ ⟨by omega, by omega⟩ (by dsimp only; omega) (by dsimp only; omega) ?_
        intro ls' H' locs' cells' slots' I' w1 w2
        dsimp only at w1 w2
        exact zsim f (d1 + 1) mi stop _ o h3 M p e R s m args below meth c H' locs' cells' slots' Q ls' hM C I' hF ⟨by dsimp only; omega, by dsimp only; omega⟩ (zEnd_shift hE w1 w2)
