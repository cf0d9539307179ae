/-! CALLS: a method of the tables by its run in the small machine. -/
theorem ztake_spec : ∀ (n : Nat) (acc st as r : List Value), ztake n acc st = some (as, r) → ∃ fr, st = fr ++ r ∧ as = fr.reverse ++ acc ∧ fr.length = n
  | 0, acc, st, as, r, h => by
    cases h
    exact ⟨[], rfl, rfl, rfl⟩
  | n + 1, acc, [], as, r, h => by cases h
  | n + 1, acc, v :: st, as, r, h => by
    obtain ⟨fr, h1, h2, h3⟩ := ztake_spec n (v :: acc) st as r h
    exact ⟨v :: fr, by rw [h1]; rfl, by rw [h2]; simp, by simp [h3]⟩
theorem ztake_stack {n : Nat} {st as r : List Value} (h : ztake n [] st = some (as, r)) : st = as.reverse ++ r ∧ as.length = n := by
  obtain ⟨fr, h1, h2, h3⟩ := ztake_spec n [] st as r h
  rw [List.append_nil] at h2
  subst h2
  exact ⟨by rw [List.reverse_reverse]; exact h1, by simp [h3]⟩
theorem zm_facts {mi : Nat} {M : zM} (h : zm mi = some M) (hl : mi ≠ zlaw) : Cond.code M.1 M.2.1 M.2.2.1 M.2.2.2.1 ∈ zWall ∧ Cond.initialized M.1.cls ∈ zWall ∧ (M.2.2.2.2.2.1 = true → Cond.static M.1 ∈ zWall) ∧ (M.2.2.2.2.2.1 = false → Cond.instanceMethod M.1 ∈ zWall ∧ (M.1.name = "<init>" ∨ Cond.selects M.1.cls M.1 M.1 ∈ zWall)) ∧ plainName M.1.cls = true ∧ (M.1.cls ≠ "java/lang/invoke/MethodHandle" ∧ M.1.cls ≠ "java/lang/invoke/VarHandle") ∧ (parseMethodDescriptor M.1.desc).map (fun d => d.parameters.length) = some M.2.2.2.2.1 ∧ M.2.2.1 ≤ 20 ∧ zL mi = M.2.2.1 := by
  have q := zm_ok h hl
  obtain ⟨y, cc, L, r, n, st, p0, p1, p2, p3⟩ := M
  unfold zmchk at q
  dsimp only at q
  rw [Bool.and_eq_true, Bool.and_eq_true, Bool.and_eq_true, Bool.and_eq_true, Bool.and_eq_true, Bool.and_eq_true, Bool.and_eq_true] at q
  obtain ⟨⟨⟨⟨⟨⟨⟨q0, q1⟩, q2⟩, q3⟩, q4⟩, q5⟩, q6⟩, q7⟩ := q
  refine ⟨zw_in q0, zw_in q1, fun hs => ?_, fun hs => ?_, of_decide_eq_true q3, of_decide_eq_true q4, of_decide_eq_true q5, of_decide_eq_true q6, of_decide_eq_true q7⟩
  · have hs : st = true := hs
    subst hs
    exact zw_in q2
  · have hs : st = false := hs
    subst hs
    have q2 : (zis p2 (.instanceMethod y) && (decide (y.name = "<init>") || zis p3 (.selects y.cls y y))) = true := q2
    rw [Bool.and_eq_true, Bool.or_eq_true] at q2
    exact ⟨zw_in q2.1, q2.2.imp of_decide_eq_true (fun z => zw_in z)⟩
def zws (M : zM) : List Cond := .code M.1 M.2.1 M.2.2.1 M.2.2.2.1 :: zWall
theorem zws_good {mi : Nat} {M : zM} (h : zm mi = some M) (hl : mi ≠ zlaw) : GoodIn zWall (zws M) := by
  intro w hw
  have hin : w ∈ zWall := by
    rcases List.mem_cons.mp hw with rfl | hw
    · exact (zm_facts h hl).1
    · exact hw
  exact ⟨hin, good_of_word (List.all_eq_true.mp zWall_good w hin)⟩
def zRoom (d mc ms : Nat) : Room := { frames := d + 1, cells := mc, slots := ms, locals := 64 * (d + 1) }
def zPc (D : va_G) (sa : Nat → Nat) (base : Nat) (as : List Value) (h : zH) : Array Value → State → Prop := fun v U => v = (as.map (zv (zad sa base))).toArray ∧ zRep D sa base U U.heap h ∧ zG D sa base U U.heap
def zQc (D : va_G) (sa : Nat → Nat) (base : Nat) (r : Option Value) (h1 : zH) : Array Value → State → Outcome → State → Prop := fun _ st o t => o = .returned (r.map (zv (zad sa base))) ∧ zRep D sa base t t.heap h1 ∧ st.heap.size ≤ t.heap.size ∧ ∀ q : Nat, q < st.heap.size → ¬ base ≤ q → t.heap[q]? = st.heap[q]?
theorem zblind {D : va_G} {sa : Nat → Nat} {base : Nat} {as : List Value} {h : zH} : FrameBlind (zPc D sa base as h) := fun a U g mk q => ⟨q.1, zRep_moved (U := U) (U1 := U.calling g mk a) (Vm.Alike.refl U.vm) q.2.1, zG_same (s := U) (U := U.calling g mk a) rfl q.2.2⟩
/-- what instruction 32 hands over -/
theorem zs32_st {len a b ci pc : Nat} {lo : List (Option Value)} {st : List Value} {h : zH} {a' : Nat} {as : List Value} {y : zC} (hs : zs32 len a b 1 ci (pc, lo, st, h) = some (.inr (.inl (a', as, y)))) : ∃ r', ztake b [] st = some (as, r') ∧ zcat r' ≤ 8 ∧ y = (pc + len, lo, r', h) ∧ a' = a := by
  simp only [zs32] at hs
  cases ht : ztake b [] st with
  | none => rw [ht] at hs; cases hs
  | some q =>
    obtain ⟨as', r'⟩ := q
    rw [ht] at hs
    cases hz : Nat.ble (zcat r') 8
    · simp only [hz, cond_false] at hs
      cases hs
    · simp only [hz, cond_true] at hs
      cases hs
      exact ⟨r', rfl, Nat.ble_eq.mp hz, rfl, rfl⟩
theorem zs32_rf {len a b k3 ci pc : Nat} {lo : List (Option Value)} {st : List Value} {h : zH} {a' : Nat} {as : List Value} {y : zC} (hk : k3 ≠ 1) (hs : zs32 len a b k3 ci (pc, lo, st, h) = some (.inr (.inl (a', as, y)))) : ∃ o as1 n r', as = .ref o :: as1 ∧ zget h.1 o = some (10 + ci, n) ∧ ztake b [] st = some (as, r') ∧ zcat r' ≤ 8 ∧ y = (pc + len, lo, r', h) ∧ a' = a := by
  simp only [zs32] at hs
  cases ht : ztake b [] st with
  | none => rw [ht] at hs; cases hs
  | some q =>
    obtain ⟨as', r'⟩ := q
    rw [ht] at hs
    cases hz : Nat.ble (zcat r') 8
    · simp only [hz, cond_false] at hs
      cases hs
    · simp only [hz, cond_true] at hs
      split at hs
      · rename_i o as1
        cases ho : zget h.1 o with
        | none => rw [ho] at hs; cases hs
        | some tn =>
          obtain ⟨t, n⟩ := tn
          rw [ho] at hs
          dsimp only at hs
          cases hb : Nat.beq t (10 + ci)
          · rw [hb] at hs; cases hs
          · rw [hb] at hs
            have et := Nat.eq_of_beq_eq_true hb
            subst et
            cases hs
            exact ⟨o, as1, n, r', rfl, ho, rfl, Nat.ble_eq.mp hz, rfl, rfl⟩
      · cases hs
section ZF
variable {p : Program} {l : Launch} {e : Env} {R : Room} {s : State} {m : MethodId} {args : Array Value} {below : List Frame} {meth : Method} {c : Code} {H : Heap} {locs : List Loc} {cells slots : Nat} {Q : State → Prop}
variable {M M2 : zM} {D : va_G} {sa : Nat → Nat} {base : Nat} {pc len a b k3 ci : Nat} {v : Value} {sw : List (Int32 × Nat)} {i : Instr} {lo : List (Option Value)} {st : List Value} {h h1 : zH} {ls : Array Slot} {y : zC}
theorem zcallB {index : Nat} {own : String} (hts : ∀ w ∈ zWall, w.before args s = true) (h : zm a = some M2) (hl : a ≠ zlaw) (d mc ms : Nat) (hl2 : (Cond.methodLink own index M2.1).before args s = true) (hF : d + 2 ≤ R.frames ∧ 64 * (d + 2) ≤ R.locals) : CallB R s args own index M2.1 M2.2.1 M2.2.2.1 M2.2.2.2.1 (zws M2) (zRoom d mc ms) mc ms M2.2.2.2.2.1 := by
  obtain ⟨f1, f2, f3, f4, f5, f6, f7, f8, f9⟩ := zm_facts h hl
  exact callB_of _ hts (zws_good h hl) rfl rfl rfl (hts _ f2) hl2 ⟨f6.1, f6.2, f7⟩ ⟨by show d + 1 + 1 ≤ _; omega, by show 8 + (_ + 11) + 64 * (d + 1) ≤ _; omega⟩
theorem zcallN {index : Nat} {own host : String} (hts : ∀ w ∈ zWall, w.before args s = true) (h : zm a = some M2) (hl : a ≠ zlaw) (d mc ms : Nat) (hl2 : va_Nw (.methodLinkNest own index M2.1 host) s) (hF : d + 2 ≤ R.frames ∧ 64 * (d + 2) ≤ R.locals) : va_CN R s args own index M2.1 host M2.2.1 M2.2.2.1 M2.2.2.2.1 (zws M2) (zRoom d mc ms) mc ms M2.2.2.2.2.1 := by
  obtain ⟨f1, f2, f3, f4, f5, f6, f7, f8, f9⟩ := zm_facts h hl
  exact va_cnB _ hts (zws_good h hl) rfl rfl rfl hl2 (hts _ f2) ⟨f6.1, f6.2, f7⟩ ⟨by show d + 1 + 1 ≤ _; omega, by show 8 + (_ + 11) + 64 * (d + 1) ≤ _; omega⟩
theorem zback {mc ms : Nat} {st0 rest : List Value} {r : Option Value} {a' : Array Value} (hr : va_Run p l e R s m args below meth c H locs cells slots mc ms (F0 m pc ls st0) rest (zQc D sa base r h1 a') (zA base)) (hS : va_S (zA base) s.heap H locs) (kk : ∀ (H1 : Heap) (locs1 : List Loc), zRep D sa base s H1 h1 → va_S (zA base) s.heap H1 locs1 → W p l e R s m args below meth c H1 locs1 (cells + mc) (slots + ms) Q (F0 m (pc + 3) ls ((r.map (zv (zad sa base))).toList ++ rest))) : W p l e R s m args below meth c H locs cells slots Q (F0 m pc ls st0) := by
  intro T hT X
  obtain ⟨v, st₀, t, T', L, h0, X', hL, e1, e2, ⟨hv, hrep, hz, hk⟩, stp⟩ := hr T hT X
  cases hv
  rw [h0] at hz hk
  have ha : s.vm.Alike t.vm := by rw [← e2]; exact X'.warmed.alike
  obtain ⟨t2, a1, b1⟩ := kk T'.heap (locs ++ L) (by rw [e1]; exact zRep_moved ha.symm hrep) ⟨Nat.le_trans hS.1 (by rw [e1]; exact hz), fun q h1 h2 => by rw [e1, hk q (Nat.lt_of_lt_of_le h1 hS.1) h2]; exact hS.2.1 q h1 h2, fun q hq => by
    rcases List.mem_append.mp hq with h | h
    · exact hS.2.2 q h
    · exact hL q h⟩ T' rfl X'
  exact ⟨t2, stp t2 a1, b1⟩
theorem zpre_at (C : zX p s m args meth c M D sa base) (I : zIn D sa base M.2.2.1 s H locs lo h ls) (as : List Value) : ∀ U : State, U.heap = H → s.WarmedH U.vm → zPc D sa base as h (as.map (zv (zad sa base))).toArray U := by
  intro U hU hW
  subst hU
  exact ⟨rfl, zRep_moved hW.alike I.2.2.1, zG_warm hW (fun q h1 h2 => I.2.2.2.2.1 q h1 h2) C.2.2.2.2.2.2.1⟩
theorem zw_32 (C : zX p s m args meth c M D sa base) (hd : decode M.2.1 pc = .ok (i, len)) (hM2 : zm a = some M2) (hc : zc32 M.1.cls len a b k3 ci sw M2 i = true) (I : zIn D sa base M.2.2.1 s H locs lo h ls) {a' : Nat} {as : List Value} (hs : zs32 len a b k3 ci (pc, lo, st, h) = some (.inr (.inl (a', as, y)))) {d mc ms : Nat} {r : Option Value}
    (hMet : Met l M2.1 (zws M2) (zRoom d mc ms) (zPc D sa base as h) (zQc D sa base r h1) mc ms (zA base)) (hF : d + 2 ≤ R.frames ∧ 64 * (d + 2) ≤ R.locals) (hR : cells + mc ≤ R.cells ∧ slots + ms ≤ R.slots) (hmc : mc + h.1.length = h1.1.length) (hms : ms + zslots h.1 = zslots h1.1)
    (kk : zK p l e R s m args below meth c cells slots Q D sa base M.2.2.1 h (y.1, y.2.1, r.toList ++ y.2.2.1, h1)) : W p l e R s m args below meth c H locs cells slots Q (F0 m pc ls (st.map (zv (zad sa base)))) := by
  have hpre := zpre_at C I as
  obtain ⟨hx, hb, hml, hown, hnm, hts, hG, hbs⟩ := C
  have K : ∀ r' : List Value, y = (pc + 3, lo, r', h) → ∀ (H1 : Heap) (locs1 : List Loc), zRep D sa base s H1 h1 → va_S (zA base) s.heap H1 locs1 → W p l e R s m args below meth c H1 locs1 (cells + mc) (slots + ms) Q (F0 m (pc + 3) ls ((r.map (zv (zad sa base))).toList ++ r'.map (zv (zad sa base)))) := by
    intro r' ey H1 locs1 g1 g2
    subst ey
    have K0 := kk ls H1 locs1 (cells + mc) (slots + ms) ⟨I.1, I.2.1, g1, g2⟩ (by dsimp only; omega) (by dsimp only; omega)
    have es : List.map (zv (zad sa base)) (r.toList ++ r') = (r.map (zv (zad sa base))).toList ++ r'.map (zv (zad sa base)) := by cases r <;> simp
    rw [← es]
    exact K0
  have hfx : CallFix p m c M.2.1 M.2.2.1 s args zWall M.1.cls := ⟨hx, hb, hml, hown, hts⟩
  unfold zc32 at hc
  split at hc
  · rename_i k
    rw [Bool.and_eq_true, Bool.and_eq_true, Bool.and_eq_true, Bool.and_eq_true, Bool.and_eq_true, Bool.and_eq_true, Bool.and_eq_true, decide_eq_true_eq, decide_eq_true_eq, decide_eq_true_eq, decide_eq_true_eq, decide_eq_true_eq, decide_eq_true_eq, decide_eq_true_eq] at hc
    obtain ⟨⟨⟨⟨⟨⟨⟨c1, c2⟩, c3⟩, c4⟩, c5⟩, c6⟩, c7⟩, c8⟩ := hc
    subst c1; subst c2
    obtain ⟨o, as1, n, r', rfl, ho, ht, h8, ey, -⟩ := zs32_rf (by decide) hs
    obtain ⟨est, el⟩ := ztake_stack ht
    obtain ⟨q, q1, q2, cellB, g1, g2, g3, g4⟩ := zob I.2.2.1 ho
    have hq1 : q.1 = M2.1.cls := by
      unfold zkn at c6
      rw [q1] at c6
      exact Option.some.inj c6
    obtain ⟨f1, f2, f3, f4, f5, f6, f7, f8, f9⟩ := zm_facts hM2 c3
    have hcl := (hG.1.1 ci q (zcl_el q1)).2.1
    rw [hq1] at hcl
    have hsel := (f4 c4).2.resolve_left c7
    refine zback (va_runV (As := as1.map (zv (zad sa base))) (rest := r'.map (zv (zad sa base))) hfx hMet ⟨zcallB hts hM2 c3 d mc ms (hts _ (zw_in c8)) hF, hts _ (f4 c4).1, hts _ hsel⟩ ⟨zblind, ⟨cellB, g1, by rw [g3]; rfl, by rw [g2]; exact hcl⟩, hpre⟩ rfl (by rw [List.length_map]; have e1 : as1.length + 1 = b := el; omega) I.1.1 ?_ (lv_room (by rw [zcat_sum]; exact h8)) hd hR) I.2.2.2 (K r' ey)
    show st.map (zv (zad sa base)) = _
    rw [est]
    simp [zv]
  · rename_i k
    rw [Bool.and_eq_true, Bool.and_eq_true, Bool.and_eq_true, Bool.and_eq_true, Bool.and_eq_true, decide_eq_true_eq, decide_eq_true_eq, decide_eq_true_eq, decide_eq_true_eq, decide_eq_true_eq] at hc
    obtain ⟨⟨⟨⟨⟨c1, c2⟩, c3⟩, c4⟩, c5⟩, c8⟩ := hc
    subst c1; subst c2
    obtain ⟨r', ht, h8, ey, -⟩ := zs32_st hs
    obtain ⟨est, el⟩ := ztake_stack ht
    obtain ⟨f1, f2, f3, f4, f5, f6, f7, f8, f9⟩ := zm_facts hM2 c3
    refine zback (va_runS (As := as.map (zv (zad sa base))) (rest := r'.map (zv (zad sa base))) hfx hMet ⟨zcallB hts hM2 c3 d mc ms (hts _ (zw_in c8)) hF, hts _ (f3 c4)⟩ ⟨zblind, hpre⟩ rfl (by rw [List.length_map, el, c5]) I.1.1 ?_ (lv_room (by rw [zcat_sum]; exact h8)) hd hR) I.2.2.2 (K r' ey)
    show st.map (zv (zad sa base)) = _
    rw [est]
    simp
  · rename_i k
    rw [Bool.and_eq_true, Bool.and_eq_true, Bool.and_eq_true, Bool.and_eq_true, Bool.and_eq_true, Bool.and_eq_true, Bool.and_eq_true, decide_eq_true_eq, decide_eq_true_eq, decide_eq_true_eq, decide_eq_true_eq, decide_eq_true_eq, decide_eq_true_eq, decide_eq_true_eq] at hc
    obtain ⟨⟨⟨⟨⟨⟨⟨c1, c3⟩, c4⟩, c7⟩, cv⟩, c5⟩, c6⟩, c8⟩ := hc
    subst c1
    obtain ⟨f1, f2, f3, f4, f5, f6, f7, f8, f9⟩ := zm_facts hM2 c3
    have hk : k3 ≠ 1 := by
      intro q
      subst q
      cases c8
    obtain ⟨o, as1, n, r', rfl, ho, ht, h8, ey, -⟩ := zs32_rf hk hs
    obtain ⟨est, el⟩ := ztake_stack ht
    have hst : st.map (zv (zad sa base)) = (as1.map (zv (zad sa base))).reverse ++ .ref (zad sa base o) :: r'.map (zv (zad sa base)) := by
      rw [est]
      simp [zv]
    have hal : (as1.map (zv (zad sa base))).length = M2.2.2.2.2.1 := by rw [List.length_map]; have e1 : as1.length + 1 = b := el; omega
    split at c8
    · have cb := zcallB hts hM2 c3 d mc ms (hts _ (zw_in c8)) hF
      rw [cv] at cb
      exact zback (va_runI (As := as1.map (zv (zad sa base))) (rest := r'.map (zv (zad sa base))) hfx hMet ⟨cb, c7, hts _ (f4 c4).1⟩ ⟨zblind, hpre⟩ rfl hal I.1.1 hst (lv_room (by rw [zcat_sum]; exact h8)) hd hR) I.2.2.2 (K r' ey)
    · rw [decide_eq_true_eq] at c8
      have cb := zcallN hts hM2 c3 d mc ms (hG.2.1 _ (zget_mem c8)) hF
      rw [cv] at cb
      exact zback (va_runIN (As := as1.map (zv (zad sa base))) (rest := r'.map (zv (zad sa base))) hfx hMet ⟨cb, c7, hts _ (f4 c4).1⟩ ⟨zblind, hpre⟩ rfl hal I.1.1 hst (lv_room (by rw [zcat_sum]; exact h8)) hd hR) I.2.2.2 (K r' ey)
    · cases c8
  · cases hc
end ZF
