/-! BY HAND: becomes: the oldest change falls away; the whole. -/
section HB2
variable {S1 : List (Nat × Nat)} {f0 : Nat → Nat → Int32} {g : Nat → Nat → Int64} {r : Nat → Nat → Option Nat} {wb vb : Int × Int} {E : List Int} {iw vv was : Int32}
theorem hbec_loop (hS : aShp kS S1) (hr : aRf krf r) (w0 : 0 ≤ iw.toInt) (w1 : iw.toInt ≤ 103) (a1 : -1 ≤ was.toInt) (a2 : was.toInt ≤ 99) (m1 : 60 ≤ iw.toInt → iw.toInt ≤ 67 → was.toInt ≤ 5 ∧ vv.toInt ≤ 5) (l1 : (aiv kB 103 (zix iw)).1 ≤ vv.toInt) (l2 : vv.toInt ≤ (aiv kB 103 (zix iw)).2) (v1 : -1 ≤ vv.toInt) (v2 : vv.toInt ≤ 99) (hE : E.length = 2) : ∀ (n : Nat) (f : Nat → Nat → Int32) (k : Int32), hBd f → hJp f → f 102 5 = 40 → k.toInt = 40 - (n : Int) → n ≤ 39 → (∀ o k, aWf (hbecE wb vb).2.2.2.2.2 o k = false → f o k = f0 o k) → zT 0 148 (26, [some (.ref 102), some (.int iw), some (.int vv), some (.int was), some (.int k)], [], (S1, f, g, r)) (aPost kS krf kB (hbecE wb vb) E (S1, f0, g, r))
  | 0, f, k, hb, hp, hd, hk, _, hf => by
    have h0 : zget S1 102 = some (22, 49) := hS 102 22 49 rfl rfl
    have ek : k = 40 := Int32.toInt_inj.mp (by rw [hk]; rfl)
    subst ek
    refine zT_stp (pc := 26) (e := (1, 2, 4, 0, 0, .null, [])) rfl rfl ?_
    refine zT_stp (pc := 28) (e := (0, 2, 0, 0, 0, .int 40, [])) rfl rfl ?_
    refine zT_stp (pc := 30) (e := (16, 3, 87, 3, 0, .null, [])) rfl rfl ?_
    refine zT_stp (pc := 87) (e := (3, 1, 0, 0, 0, .null, [])) rfl rfl ?_
    refine zT_stp (pc := 88) (e := (39, 1, 0, 0, 0, .null, [])) rfl rfl ?_
    refine zT_stp (pc := 89) (e := (20, 3, 12, 5, 0, .null, [(0, 1056)])) rfl (hgi h0 rfl) ?_
    refine zT_stp (pc := 92) (e := (0, 1, 0, 0, 0, .int 1, [])) rfl rfl ?_
    refine zT_stp (pc := 93) (e := (7, 1, 0, 1, 0, .null, [])) rfl rfl ?_
    refine zT_stp (pc := 94) (e := (21, 3, 12, 5, 0, .null, [(0, 1056)])) rfl (hpi h0 rfl) ?_
    rw [hd]
    have e39 : zbin 1 40 1 = (39 : Int32) := rfl
    rw [e39]
    have t39 : (39 : Int32).toInt = 39 := rfl
    refine hbec_tail hS hr (hupb hb ?_ ?_) ?_ ?_ ?_ w0 w1 a1 a2 m1 l1 l2 v1 v2 hE ?_
    · rw [show aiv kB 102 5 = (0, 40) from rfl, t39]
      decide
    · rw [show aiv kB 102 5 = (0, 40) from rfl, t39]
      decide
    · intro j hj
      rw [zne_up (show ¬ (104 = 102 ∧ j = 5) by omega), zne_up (show ¬ (105 = 102 ∧ j = 5) by omega), zne_up (show ¬ (106 = 102 ∧ j = 5) by omega)]
      exact hp j hj
    · rw [zsame_up, t39]
      decide
    · rw [zsame_up, t39]
      decide
    · intro o j hw
      rw [zne_up (fun q => by rw [q.1, q.2] at hw; cases hw)]
      exact hf o j hw
  | n + 1, f, k, hb, hp, hd, hk, hn, hf => by
    have h0 : zget S1 102 = some (22, 49) := hS 102 22 49 rfl rfl
    have h104 : zget S1 104 = some (0, 40) := hS 104 0 40 rfl rfl
    have h105 : zget S1 105 = some (0, 40) := hS 105 0 40 rfl rfl
    have h106 : zget S1 106 = some (0, 40) := hS 106 0 40 rfl rfl
    have q1 : r 102 1 = some 104 := href hr rfl
    have q2 : r 102 2 = some 105 := href hr rfl
    have q3 : r 102 3 = some 106 := href hr rfl
    have z1 : (1 : Int32).toInt = 1 := rfl
    have z40 : (40 : Int32).toInt = 40 := rfl
    have hk : k.toInt = 40 - ((n : Int) + 1) := hk
    have em : (k - 1).toInt = k.toInt - 1 := by
      rw [na_sub (by rw [z1]; omega) (by rw [z1]; omega), z1]
    have ep : (k + 1).toInt = k.toInt + 1 := by
      rw [na_add (by rw [z1]; omega) (by rw [z1]; omega), z1]
    have zk := azix (i := k) (by omega)
    have zm := azix (i := k - 1) (by omega)
    have i1 : Nat.blt (zix k) 40 = true := by rw [Nat.blt_eq]; omega
    have i2 : Nat.blt (zix (k - 1)) 40 = true := by rw [Nat.blt_eq]; omega
    have e1 : zbin 1 k 1 = k - 1 := rfl
    have hlt : k < 40 := Int32.lt_iff_toInt_lt.mpr (by rw [z40]; omega)
    refine zT_stp (pc := 26) (e := (1, 2, 4, 0, 0, .null, [])) rfl rfl ?_
    refine zT_stp (pc := 28) (e := (0, 2, 0, 0, 0, .int 40, [])) rfl rfl ?_
    refine zT_stp (pc := 30) (e := (16, 3, 87, 3, 0, .null, [])) (y := (33, [some (.ref 102), some (.int iw), some (.int vv), some (.int was), some (.int k)], [], (S1, f, g, r))) rfl ?_ ?_
    · show some (Sum.inl (zicmp 3 k 40 87 33, _, _, _)) = _
      rw [show zicmp 3 k 40 87 33 = 33 from if_pos hlt]
    refine zT_stp (pc := 33) (e := (3, 1, 0, 0, 0, .null, [])) rfl rfl ?_
    refine zT_stp (pc := 34) (e := (20, 3, 12, 1, 1, .null, [(0, 1031)])) rfl (hgr h0 rfl q1) ?_
    refine zT_stp (pc := 37) (e := (1, 2, 4, 0, 0, .null, [])) rfl rfl ?_
    refine zT_stp (pc := 39) (e := (0, 1, 0, 0, 0, .int 1, [])) rfl rfl ?_
    refine zT_stp (pc := 40) (e := (7, 1, 0, 1, 0, .null, [])) rfl rfl ?_
    rw [e1]
    refine zT_stp (pc := 41) (e := (3, 1, 0, 0, 0, .null, [])) rfl rfl ?_
    refine zT_stp (pc := 42) (e := (20, 3, 12, 1, 1, .null, [(0, 1031)])) rfl (hgr h0 rfl q1) ?_
    refine zT_stp (pc := 45) (e := (1, 2, 4, 0, 0, .null, [])) rfl rfl ?_
    refine zT_stp (pc := 47) (e := (22, 1, 0, 0, 0, .null, [])) rfl (hil h104 i1) ?_
    refine zT_stp (pc := 48) (e := (25, 1, 0, 0, 0, .null, [])) rfl (his h104 i2) ?_
    refine zT_stp (pc := 49) (e := (3, 1, 0, 0, 0, .null, [])) rfl rfl ?_
    refine zT_stp (pc := 50) (e := (20, 3, 12, 2, 1, .null, [(0, 1032)])) rfl (hgr h0 rfl q2) ?_
    refine zT_stp (pc := 53) (e := (1, 2, 4, 0, 0, .null, [])) rfl rfl ?_
    refine zT_stp (pc := 55) (e := (0, 1, 0, 0, 0, .int 1, [])) rfl rfl ?_
    refine zT_stp (pc := 56) (e := (7, 1, 0, 1, 0, .null, [])) rfl rfl ?_
    rw [e1]
    refine zT_stp (pc := 57) (e := (3, 1, 0, 0, 0, .null, [])) rfl rfl ?_
    refine zT_stp (pc := 58) (e := (20, 3, 12, 2, 1, .null, [(0, 1032)])) rfl (hgr h0 rfl q2) ?_
    refine zT_stp (pc := 61) (e := (1, 2, 4, 0, 0, .null, [])) rfl rfl ?_
    refine zT_stp (pc := 63) (e := (22, 1, 0, 0, 0, .null, [])) rfl (hil h105 i1) ?_
    rw [zne_up (show ¬ (105 = 104 ∧ zix k = zix (k - 1)) by omega)]
    refine zT_stp (pc := 64) (e := (25, 1, 0, 0, 0, .null, [])) rfl (his h105 i2) ?_
    refine zT_stp (pc := 65) (e := (3, 1, 0, 0, 0, .null, [])) rfl rfl ?_
    refine zT_stp (pc := 66) (e := (20, 3, 12, 3, 1, .null, [(0, 1033)])) rfl (hgr h0 rfl q3) ?_
    refine zT_stp (pc := 69) (e := (1, 2, 4, 0, 0, .null, [])) rfl rfl ?_
    refine zT_stp (pc := 71) (e := (0, 1, 0, 0, 0, .int 1, [])) rfl rfl ?_
    refine zT_stp (pc := 72) (e := (7, 1, 0, 1, 0, .null, [])) rfl rfl ?_
    rw [e1]
    refine zT_stp (pc := 73) (e := (3, 1, 0, 0, 0, .null, [])) rfl rfl ?_
    refine zT_stp (pc := 74) (e := (20, 3, 12, 3, 1, .null, [(0, 1033)])) rfl (hgr h0 rfl q3) ?_
    refine zT_stp (pc := 77) (e := (1, 2, 4, 0, 0, .null, [])) rfl rfl ?_
    refine zT_stp (pc := 79) (e := (22, 1, 0, 0, 0, .null, [])) rfl (hil h106 i1) ?_
    rw [zne_up (show ¬ (106 = 105 ∧ zix k = zix (k - 1)) by omega), zne_up (show ¬ (106 = 104 ∧ zix k = zix (k - 1)) by omega)]
    refine zT_stp (pc := 80) (e := (25, 1, 0, 0, 0, .null, [])) rfl (his h106 i2) ?_
    refine zT_stp (pc := 81) (e := (19, 3, 4, 0, 0, .int 1, [])) rfl rfl ?_
    refine zT_stp (pc := 84) (e := (17, 3, 26, 0, 0, .null, [])) rfl rfl ?_
    have c4 : ∀ k, aiv kB 104 k = (0, 103) := fun _ => rfl
    have c5 : ∀ k, aiv kB 105 k = (-1, 99) := fun _ => rfl
    have c6 : ∀ k, aiv kB 106 k = (-1, 99) := fun _ => rfl
    have b4 := hb 104 (zix k)
    have b5 := hb 105 (zix k)
    have b6 := hb 106 (zix k)
    refine hbec_loop hS hr w0 w1 a1 a2 m1 l1 l2 v1 v2 hE n _ (k + 1) (hupb (hupb (hupb hb ?_ ?_) ?_ ?_) ?_ ?_) ?_ ?_ (by omega) (by omega) ?_
    · rw [c4] at b4 ⊢; exact b4.1
    · rw [c4] at b4 ⊢; exact b4.2
    · rw [c5] at b5 ⊢; exact b5.1
    · rw [c5] at b5 ⊢; exact b5.2
    · rw [c6] at b6 ⊢; exact b6.1
    · rw [c6] at b6 ⊢; exact b6.2
    · intro j hj
      rw [zne_up (show ¬ (104 = 106 ∧ j = zix (k - 1)) by omega), zne_up (show ¬ (104 = 105 ∧ j = zix (k - 1)) by omega), zne_up (show ¬ (105 = 106 ∧ j = zix (k - 1)) by omega)]
      by_cases hjk : j = zix (k - 1)
      · subst hjk
        rw [zsame_up, zsame_up, zsame_up]
        exact hp (zix k) (by omega)
      · rw [zne_up (show ¬ (104 = 104 ∧ j = zix (k - 1)) by omega), zne_up (show ¬ (105 = 105 ∧ j = zix (k - 1)) by omega), zne_up (show ¬ (105 = 104 ∧ j = zix (k - 1)) by omega), zne_up (show ¬ (106 = 106 ∧ j = zix (k - 1)) by omega), zne_up (show ¬ (106 = 105 ∧ j = zix (k - 1)) by omega), zne_up (show ¬ (106 = 104 ∧ j = zix (k - 1)) by omega)]
        exact hp j hj
    · rw [zne_up (by omega), zne_up (by omega), zne_up (by omega)]
      exact hd
    · intro o j hw
      rw [zne_up (fun q => by rw [q.1] at hw; cases hw), zne_up (fun q => by rw [q.1] at hw; cases hw), zne_up (fun q => by rw [q.1] at hw; cases hw)]
      exact hf o j hw
end HB2
/-- the bounds of where and of what fit -/
def hbecB (wb vb : Int × Int) : Bool := (ile 0 wb.1 && ile wb.2 103) && (List.range 104).all (fun k => bif ile wb.1 (Int.ofNat k) && ile (Int.ofNat k) wb.2 then ile (aiv kB 103 k).1 vb.1 && ile vb.2 (aiv kB 103 k).2 else true)
theorem hand_becomes {wb vb : Int × Int} (hB : hbecB wb vb = true) : aOK kS krf kB (hbecE wb vb) := by
  intro E x R hD hsl hj
  obtain ⟨pc, lo, st, S1, f, g, r⟩ := x
  obtain ⟨hs, hpc, hl, hst, hh⟩ := R
  have hpc : 0 = pc := hpc
  subst hpc
  obtain ⟨u1, u2, u3, l3, l4, rfl, ⟨o, rfl, ho⟩, ⟨iw, rfl, ww, gw, ew⟩, ⟨vv, rfl, wv, gv, ev⟩⟩ := hlo5 hl
  have ho := List.mem_singleton.mp ho
  subst ho
  have est : st = [] := by
    cases st with
    | nil => rfl
    | cons _ _ => exact hst.elim
  subst est
  have hE : E.length = 2 := hs.1
  have bw := hs.2 0 ww wb gw rfl
  have bv := hs.2 1 wv vb gv rfl
  have ew : iw.toInt = ww := ew.trans (Int.add_zero _)
  have ev : vv.toInt = wv := ev.trans (Int.add_zero _)
  unfold hbecB at hB
  rw [Bool.and_eq_true, Bool.and_eq_true, ile_eq, ile_eq] at hB
  obtain ⟨⟨k0, k1⟩, kall⟩ := hB
  have w0 : 0 ≤ iw.toInt := by omega
  have w1 : iw.toInt ≤ 103 := by omega
  have zw := azix (i := iw) w0
  have hz104 : zix iw < 104 := by omega
  have kk := List.all_eq_true.mp kall (zix iw) (List.mem_range.mpr hz104)
  have kc : (ile wb.1 (Int.ofNat (zix iw)) && ile (Int.ofNat (zix iw)) wb.2) = true := by
    rw [Bool.and_eq_true, ile_eq, ile_eq]
    simp only [Int.ofNat_eq_natCast]
    omega
  rw [kc] at kk
  dsimp only [cond_true] at kk
  rw [Bool.and_eq_true, ile_eq, ile_eq] at kk
  have l1 : (aiv kB 103 (zix iw)).1 ≤ vv.toInt := by omega
  have l2 : vv.toInt ≤ (aiv kB 103 (zix iw)).2 := by omega
  have hb : hBd f := hh.1.2.2
  have ba := hb 103 (zix iw)
  obtain ⟨y1, y2⟩ := hmay hz104
  have h0 : zget S1 102 = some (22, 49) := hh.1.1 102 22 49 rfl rfl
  have h103 : zget S1 103 = some (0, 104) := hh.1.1 103 0 104 rfl rfl
  have q0 : r 102 0 = some 103 := href hh.1.2.1 rfl
  have i2 : Nat.blt (zix iw) 104 = true := by rw [Nat.blt_eq]; exact hz104
  have both : (-1 ≤ (f 103 (zix iw)).toInt ∧ (f 103 (zix iw)).toInt ≤ 99) ∧ (-1 ≤ vv.toInt ∧ vv.toInt ≤ 99) ∧ (60 ≤ iw.toInt → iw.toInt ≤ 67 → (f 103 (zix iw)).toInt ≤ 5 ∧ vv.toInt ≤ 5) := by
    by_cases c : 60 ≤ zix iw ∧ zix iw ≤ 67
    · have e := y1 c.1 c.2
      rw [e] at l1 l2 ba
      dsimp only at l1 l2 ba
      omega
    · have e := y2 (by omega)
      rw [e] at l1 l2 ba
      dsimp only at l1 l2 ba
      omega
  obtain ⟨⟨a1, a2⟩, ⟨v1, v2⟩, m1⟩ := both
  have bd := hb 102 5
  rw [show aiv kB 102 5 = (0, 40) from rfl] at bd
  dsimp only at bd
  show zT 0 148 (0, [some (.ref 102), some (.int iw), some (.int vv), l3, l4], [], (S1, f, g, r)) (aPost kS krf kB (hbecE wb vb) E (S1, f, g, r))
  refine zT_stp (pc := 0) (e := (3, 1, 0, 0, 0, .null, [])) rfl rfl ?_
  refine zT_stp (pc := 1) (e := (20, 3, 12, 0, 1, .null, [(0, 1030)])) rfl (hgr h0 rfl q0) ?_
  refine zT_stp (pc := 4) (e := (1, 1, 1, 0, 0, .null, [])) rfl rfl ?_
  refine zT_stp (pc := 5) (e := (22, 1, 0, 0, 0, .null, [])) rfl (hil h103 i2) ?_
  refine zT_stp (pc := 6) (e := (4, 1, 3, 0, 0, .null, [])) rfl rfl ?_
  refine zT_stp (pc := 7) (e := (1, 1, 3, 0, 0, .null, [])) rfl rfl ?_
  refine zT_stp (pc := 8) (e := (1, 1, 2, 0, 0, .null, [])) rfl rfl ?_
  by_cases hq : f 103 (zix iw) = vv
  · refine zT_stp (pc := 9) (e := (16, 3, 14, 1, 0, .null, [])) (y := (12, [some (.ref 102), some (.int iw), some (.int vv), some (.int (f 103 (zix iw))), l4], [], (S1, f, g, r))) rfl ?_ ?_
    · show some (Sum.inl (zicmp 1 (f 103 (zix iw)) vv 14 12, _, _, _)) = _
      rw [show zicmp 1 (f 103 (zix iw)) vv 14 12 = 12 from if_pos hq]
      rfl
    refine zT_stp (pc := 12) (e := (1, 1, 3, 0, 0, .null, [])) rfl rfl ?_
    refine zT_rtn (pc := 13) (e := (35, 1, 0, 0, 0, .null, [])) rfl rfl ?_
    refine ⟨[(f 103 (zix iw)).toInt], ⟨rfl, fun k w q h1 h2 => ?_⟩, ⟨_, rfl, (f 103 (zix iw)).toInt, ?_, (Int.add_zero _).symm⟩, ⟨hh.1, fun o k a ha => by cases ha⟩, fun f hf => (by cases hf), fun f hf => (by cases hf), aFr_refl, hj⟩
    · match k, h1, h2 with
      | 0, h1, h2 =>
        cases h1
        cases h2
        show (Int.negSucc 0 : Int) ≤ _ ∧ _ ≤ (Int.ofNat 99 : Int)
        simp only [Int.negSucc_eq, Int.ofNat_eq_natCast]
        omega
    · match E, hE with
      | [e1, e2], _ => rfl
  · refine zT_stp (pc := 9) (e := (16, 3, 14, 1, 0, .null, [])) (y := (14, [some (.ref 102), some (.int iw), some (.int vv), some (.int (f 103 (zix iw))), l4], [], (S1, f, g, r))) rfl ?_ ?_
    · show some (Sum.inl (zicmp 1 (f 103 (zix iw)) vv 14 12, _, _, _)) = _
      rw [show zicmp 1 (f 103 (zix iw)) vv 14 12 = 14 from if_neg hq]
      rfl
    refine zT_stp (pc := 14) (e := (3, 1, 0, 0, 0, .null, [])) rfl rfl ?_
    refine zT_stp (pc := 15) (e := (20, 3, 12, 5, 0, .null, [(0, 1056)])) rfl (hgi h0 rfl) ?_
    refine zT_stp (pc := 18) (e := (0, 2, 0, 0, 0, .int 40, [])) rfl rfl ?_
    by_cases hd : f 102 5 = 40
    · refine zT_stp (pc := 20) (e := (16, 3, 97, 1, 0, .null, [])) (y := (23, [some (.ref 102), some (.int iw), some (.int vv), some (.int (f 103 (zix iw))), l4], [], (S1, f, g, r))) rfl ?_ ?_
      · show some (Sum.inl (zicmp 1 (f 102 5) 40 97 23, _, _, _)) = _
        rw [show zicmp 1 (f 102 5) 40 97 23 = 23 from if_pos hd]
      refine zT_stp (pc := 23) (e := (0, 1, 0, 0, 0, .int 1, [])) rfl rfl ?_
      refine zT_stp (pc := 24) (e := (4, 2, 4, 0, 0, .null, [])) rfl rfl ?_
      exact hbec_loop hh.1.1 hh.1.2.1 w0 w1 a1 a2 m1 l1 l2 v1 v2 hE 39 f 1 hb hj.2 hd rfl (Nat.le_refl _) (fun _ _ _ => rfl)
    · refine zT_stp (pc := 20) (e := (16, 3, 97, 1, 0, .null, [])) (y := (97, [some (.ref 102), some (.int iw), some (.int vv), some (.int (f 103 (zix iw))), l4], [], (S1, f, g, r))) rfl ?_ ?_
      · show some (Sum.inl (zicmp 1 (f 102 5) 40 97 23, _, _, _)) = _
        rw [show zicmp 1 (f 102 5) 40 97 23 = 97 from if_neg hd]
      have d40 : (f 102 5).toInt ≠ 40 := fun w => hd (Int32.toInt_inj.mp w)
      exact hbec_tail hh.1.1 hh.1.2.1 hb hj.2 bd.1 (by omega) w0 w1 a1 a2 m1 l1 l2 v1 v2 hE (fun _ _ _ => rfl)
