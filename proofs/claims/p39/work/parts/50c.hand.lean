/-! BY HAND: becomes (the reference's): a change is noted. -/
def hbecE (wb vb : Int × Int) : aE := (148, 0, ([wb, vb], [], 0, [some (.inr [102]), some (.inl (.inl (.inl (0, .ofNat 0)))), some (.inl (.inl (.inl (1, .ofNat 0)))), none, none], []), ([], none), ([(.negSucc 0, .ofNat 99)], [], some (.inl (.inl (.inl (2, .ofNat 0)))), ([], [])), ([(102, 4), (102, 5)], [103, 104, 105, 106]))
/-- what rows 104 .. 106 hold together -/
def hJp (f : Nat → Nat → Int32) : Prop := ∀ k, k < 40 → 60 ≤ (f 104 k).toInt → (f 104 k).toInt ≤ 67 → (f 105 k).toInt ≤ 5 ∧ (f 106 k).toInt ≤ 5
def hBd (f : Nat → Nat → Int32) : Prop := ∀ o k, (aiv kB o k).1 ≤ (f o k).toInt ∧ (f o k).toInt ≤ (aiv kB o k).2
theorem hlo5 {lo : List (Option Value)} {E : List Int} {a b c : aV} (h : aLo E lo [some a, some b, some c, none, none]) : ∃ v1 v2 v3 l3 l4, lo = [some v1, some v2, some v3, l3, l4] ∧ aVs E v1 a ∧ aVs E v2 b ∧ aVs E v3 c := by
  obtain ⟨v1, h1, g1⟩ := h.2 0 a rfl
  obtain ⟨v2, h2, g2⟩ := h.2 1 b rfl
  obtain ⟨v3, h3, g3⟩ := h.2 2 c rfl
  match lo, h.1, h1, h2, h3 with
  | [x1, x2, x3, x4, x5], _, h1, h2, h3 =>
    cases h1
    cases h2
    cases h3
    exact ⟨v1, v2, v3, x4, x5, rfl, g1, g2, g3⟩
section HB
variable {S1 : List (Nat × Nat)} {f0 f : Nat → Nat → Int32} {g : Nat → Nat → Int64} {r : Nat → Nat → Option Nat} {wb vb : Int × Int} {E : List Int} {iw vv was : Int32} {l4 : Option Value}
theorem hbec_tail (hS : aShp kS S1) (hr : aRf krf r) (hb : hBd f) (hp : hJp f) (hd0 : 0 ≤ (f 102 5).toInt) (hd1 : (f 102 5).toInt ≤ 39) (w0 : 0 ≤ iw.toInt) (w1 : iw.toInt ≤ 103) (a1 : -1 ≤ was.toInt) (a2 : was.toInt ≤ 99) (m1 : 60 ≤ iw.toInt → iw.toInt ≤ 67 → was.toInt ≤ 5 ∧ vv.toInt ≤ 5) (l1 : (aiv kB 103 (zix iw)).1 ≤ vv.toInt) (l2 : vv.toInt ≤ (aiv kB 103 (zix iw)).2) (v1 : -1 ≤ vv.toInt) (v2 : vv.toInt ≤ 99) (hE : E.length = 2) (hf : ∀ o k, aWf (hbecE wb vb).2.2.2.2.2 o k = false → f o k = f0 o k) : zT 0 148 (97, [some (.ref 102), some (.int iw), some (.int vv), some (.int was), l4], [], (S1, f, g, r)) (aPost kS krf kB (hbecE wb vb) E (S1, f0, g, r)) := by
  have h0 : zget S1 102 = some (22, 49) := hS 102 22 49 rfl rfl
  have h103 : zget S1 103 = some (0, 104) := hS 103 0 104 rfl rfl
  have h104 : zget S1 104 = some (0, 40) := hS 104 0 40 rfl rfl
  have h105 : zget S1 105 = some (0, 40) := hS 105 0 40 rfl rfl
  have h106 : zget S1 106 = some (0, 40) := hS 106 0 40 rfl rfl
  have q0 : r 102 0 = some 103 := href hr rfl
  have q1 : r 102 1 = some 104 := href hr rfl
  have q2 : r 102 2 = some 105 := href hr rfl
  have q3 : r 102 3 = some 106 := href hr rfl
  have z1 : (1 : Int32).toInt = 1 := rfl
  have zd := azix (i := f 102 5) hd0
  have zw := azix (i := iw) w0
  have i1 : Nat.blt (zix (f 102 5)) 40 = true := by rw [Nat.blt_eq]; omega
  have i2 : Nat.blt (zix iw) 104 = true := by rw [Nat.blt_eq]; omega
  have ed : (f 102 5 + 1).toInt = (f 102 5).toInt + 1 := by
    rw [na_add (by rw [z1]; omega) (by rw [z1]; omega), z1]
  refine zT_stp (pc := 97) (e := (3, 1, 0, 0, 0, .null, [])) rfl rfl ?_
  refine zT_stp (pc := 98) (e := (20, 3, 12, 1, 1, .null, [(0, 1031)])) rfl (hgr h0 rfl q1) ?_
  refine zT_stp (pc := 101) (e := (3, 1, 0, 0, 0, .null, [])) rfl rfl ?_
  refine zT_stp (pc := 102) (e := (20, 3, 12, 5, 0, .null, [(0, 1056)])) rfl (hgi h0 rfl) ?_
  refine zT_stp (pc := 105) (e := (1, 1, 1, 0, 0, .null, [])) rfl rfl ?_
  refine zT_stp (pc := 106) (e := (25, 1, 0, 0, 0, .null, [])) rfl (his h104 i1) ?_
  refine zT_stp (pc := 107) (e := (3, 1, 0, 0, 0, .null, [])) rfl rfl ?_
  refine zT_stp (pc := 108) (e := (20, 3, 12, 2, 1, .null, [(0, 1032)])) rfl (hgr h0 rfl q2) ?_
  refine zT_stp (pc := 111) (e := (3, 1, 0, 0, 0, .null, [])) rfl rfl ?_
  refine zT_stp (pc := 112) (e := (20, 3, 12, 5, 0, .null, [(0, 1056)])) rfl (hgi h0 rfl) ?_
  rw [zne_up (show ¬ (102 = 104 ∧ 5 = zix (f 102 5)) by omega)]
  refine zT_stp (pc := 115) (e := (1, 1, 3, 0, 0, .null, [])) rfl rfl ?_
  refine zT_stp (pc := 116) (e := (25, 1, 0, 0, 0, .null, [])) rfl (his h105 i1) ?_
  refine zT_stp (pc := 117) (e := (3, 1, 0, 0, 0, .null, [])) rfl rfl ?_
  refine zT_stp (pc := 118) (e := (20, 3, 12, 3, 1, .null, [(0, 1033)])) rfl (hgr h0 rfl q3) ?_
  refine zT_stp (pc := 121) (e := (3, 1, 0, 0, 0, .null, [])) rfl rfl ?_
  refine zT_stp (pc := 122) (e := (20, 3, 12, 5, 0, .null, [(0, 1056)])) rfl (hgi h0 rfl) ?_
  rw [zne_up (show ¬ (102 = 105 ∧ 5 = zix (f 102 5)) by omega), zne_up (show ¬ (102 = 104 ∧ 5 = zix (f 102 5)) by omega)]
  refine zT_stp (pc := 125) (e := (1, 1, 2, 0, 0, .null, [])) rfl rfl ?_
  refine zT_stp (pc := 126) (e := (25, 1, 0, 0, 0, .null, [])) rfl (his h106 i1) ?_
  refine zT_stp (pc := 127) (e := (3, 1, 0, 0, 0, .null, [])) rfl rfl ?_
  refine zT_stp (pc := 128) (e := (39, 1, 0, 0, 0, .null, [])) rfl rfl ?_
  refine zT_stp (pc := 129) (e := (20, 3, 12, 5, 0, .null, [(0, 1056)])) rfl (hgi h0 rfl) ?_
  rw [zne_up (show ¬ (102 = 106 ∧ 5 = zix (f 102 5)) by omega), zne_up (show ¬ (102 = 105 ∧ 5 = zix (f 102 5)) by omega), zne_up (show ¬ (102 = 104 ∧ 5 = zix (f 102 5)) by omega)]
  refine zT_stp (pc := 132) (e := (0, 1, 0, 0, 0, .int 1, [])) rfl rfl ?_
  refine zT_stp (pc := 133) (e := (7, 1, 0, 0, 0, .null, [])) rfl rfl ?_
  refine zT_stp (pc := 134) (e := (21, 3, 12, 5, 0, .null, [(0, 1056)])) rfl (hpi h0 rfl) ?_
  have e1 : zbin 0 (f 102 5) 1 = f 102 5 + 1 := rfl
  rw [e1]
  refine zT_stp (pc := 137) (e := (3, 1, 0, 0, 0, .null, [])) rfl rfl ?_
  refine zT_stp (pc := 138) (e := (3, 1, 0, 0, 0, .null, [])) rfl rfl ?_
  refine zT_stp (pc := 139) (e := (20, 3, 12, 5, 0, .null, [(0, 1056)])) rfl (hgi h0 rfl) ?_
  rw [zsame_up]
  refine zT_stp (pc := 142) (e := (21, 3, 12, 4, 0, .null, [(0, 1057)])) rfl (hpi h0 rfl) ?_
  refine zT_stp (pc := 145) (e := (3, 1, 0, 0, 0, .null, [])) rfl rfl ?_
  refine zT_stp (pc := 146) (e := (20, 3, 12, 0, 1, .null, [(0, 1030)])) rfl (hgr h0 rfl q0) ?_
  refine zT_stp (pc := 149) (e := (1, 1, 1, 0, 0, .null, [])) rfl rfl ?_
  refine zT_stp (pc := 150) (e := (1, 1, 2, 0, 0, .null, [])) rfl rfl ?_
  refine zT_stp (pc := 151) (e := (25, 1, 0, 0, 0, .null, [])) rfl (his h103 i2) ?_
  refine zT_stp (pc := 152) (e := (1, 1, 3, 0, 0, .null, [])) rfl rfl ?_
  refine zT_rtn (pc := 153) (e := (35, 1, 0, 0, 0, .null, [])) rfl rfl ?_
  refine ⟨[was.toInt], ⟨rfl, fun k w q h1 h2 => ?_⟩, ⟨_, rfl, was.toInt, ?_, (Int.add_zero _).symm⟩, ⟨⟨hS, hr, ?_⟩, fun o k a ha => by cases ha⟩, fun f hf => (by cases hf), fun f hf => (by cases hf), ⟨fun o k hw => ?_, fun _ => rfl, rfl⟩, ?_⟩
  · match k, h1, h2 with
    | 0, h1, h2 =>
      cases h1
      cases h2
      show (Int.negSucc 0 : Int) ≤ _ ∧ _ ≤ (Int.ofNat 99 : Int)
      simp only [Int.negSucc_eq, Int.ofNat_eq_natCast]
      omega
  · match E, hE with
    | [e1, e2], _ => rfl
  · have c4 : ∀ k, aiv kB 104 k = (0, 103) := fun _ => rfl
    have c5 : ∀ k, aiv kB 105 k = (-1, 99) := fun _ => rfl
    have c6 : ∀ k, aiv kB 106 k = (-1, 99) := fun _ => rfl
    have cd : aiv kB 102 5 = (0, 40) := rfl
    have ck : aiv kB 102 4 = (0, 40) := rfl
    refine hupb (hupb (hupb (hupb (hupb (hupb hb ?_ ?_) ?_ ?_) ?_ ?_) ?_ ?_) ?_ ?_) l1 l2
    · rw [c4]; exact w0
    · rw [c4]; exact w1
    · rw [c5]; exact a1
    · rw [c5]; exact a2
    · rw [c6]; exact v1
    · rw [c6]; exact v2
    · rw [cd, ed]; dsimp only; omega
    · rw [cd, ed]; dsimp only; omega
    · rw [ck, ed]; dsimp only; omega
    · rw [ck, ed]; dsimp only; omega
  · dsimp only
    rw [zne_up (fun q => by rw [q.1] at hw; cases hw), zne_up (fun q => by rw [q.1, q.2] at hw; cases hw), zne_up (fun q => by rw [q.1, q.2] at hw; cases hw), zne_up (fun q => by rw [q.1] at hw; cases hw), zne_up (fun q => by rw [q.1] at hw; cases hw), zne_up (fun q => by rw [q.1] at hw; cases hw)]
    exact hf o k hw
  · refine ⟨?_, fun k hk => ?_⟩
    · dsimp only
      rw [zne_up (by omega), zne_up (by omega), zsame_up, zne_up (by omega), zsame_up]
      exact Int.le_refl _
    · dsimp only
      rw [zne_up (show ¬ (104 = 103 ∧ k = zix iw) by omega), zne_up (show ¬ (104 = 102 ∧ k = 4) by omega), zne_up (show ¬ (104 = 102 ∧ k = 5) by omega), zne_up (show ¬ (104 = 106 ∧ k = zix (f 102 5)) by omega), zne_up (show ¬ (104 = 105 ∧ k = zix (f 102 5)) by omega)]
      rw [zne_up (show ¬ (105 = 103 ∧ k = zix iw) by omega), zne_up (show ¬ (105 = 102 ∧ k = 4) by omega), zne_up (show ¬ (105 = 102 ∧ k = 5) by omega), zne_up (show ¬ (105 = 106 ∧ k = zix (f 102 5)) by omega)]
      rw [zne_up (show ¬ (106 = 103 ∧ k = zix iw) by omega), zne_up (show ¬ (106 = 102 ∧ k = 4) by omega), zne_up (show ¬ (106 = 102 ∧ k = 5) by omega)]
      by_cases hkd : k = zix (f 102 5)
      · subst hkd
        rw [zsame_up, zsame_up, zsame_up]
        exact m1
      · rw [zne_up (show ¬ (104 = 104 ∧ k = zix (f 102 5)) by omega), zne_up (show ¬ (105 = 105 ∧ k = zix (f 102 5)) by omega), zne_up (show ¬ (105 = 104 ∧ k = zix (f 102 5)) by omega), zne_up (show ¬ (106 = 106 ∧ k = zix (f 102 5)) by omega), zne_up (show ¬ (106 = 105 ∧ k = zix (f 102 5)) by omega), zne_up (show ¬ (106 = 104 ∧ k = zix (f 102 5)) by omega)]
        exact hp k hk
end HB
