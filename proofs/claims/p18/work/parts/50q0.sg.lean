/-! What ended runs of the methods that read a text give: printed by a program (wip/fun/sg.py). -/
/-- ColdShod$LawCode.add(I)V, from 0 on -/
theorem sg_54_0 {F : Nat} {q : Nat} {x1 : Int32} {h : zH} {K : zH → Prop} (hm : q = 14 ∨ q = 17) (hk : hKn h) (t : ((h.2.1 q 2).toInt < 242 → (zix (h.2.1 q 2) < 242 → K (h.1, zup (zup h.2.1 (q + 1) (zix (h.2.1 q 2)) x1) q 2 (((zup h.2.1 (q + 1) (zix (h.2.1 q 2)) x1) q 2) + 1), h.2.2.1, h.2.2.2))) ∧ (¬ (h.2.1 q 2).toInt < 242 → K h)) : wF (F + 1) 54 (0, [some (.ref q), some (.int x1)], [], h) (gV K) := by
  refine w_0 (pc := 0) (e_s := (3, 1, 0, 0, 0, .null, [])) (y_s := (1, [some (.ref _), some (.int _)], [.ref _], _)) rfl (u_ rfl) ?_
  refine w20 (pc := 1) (len_s := 3) rfl ?_
  refine w_t (pc := 4) (e_s := (0, 3, 0, 0, 0, .int 242, [])) (y_s := (7, [some (.ref _), some (.int _)], [.int _, .int _], _)) rfl (u_ rfl) ?_
  refine wi2 (pc := 7) (len_s := 3) (Y := 242) rfl rfl (by decide) (fun c1 => ?_) (fun c1 => ?_)
  · replace t := t.1 c1
    refine w_t (pc := 11) (e_s := (3, 1, 0, 0, 0, .null, [])) (y_s := (12, [some (.ref _), some (.int _)], [.ref _], _)) rfl (u_ rfl) ?_
    refine w20r (pc := 12) (len_s := 3) (q_s := q + 1) rfl (klaw1 hk hm) ?_
    refine w_t (pc := 15) (e_s := (3, 1, 0, 0, 0, .null, [])) (y_s := (16, [some (.ref _), some (.int _)], [.ref _, .ref _], _)) rfl (u_ rfl) ?_
    refine w20 (pc := 16) (len_s := 3) rfl ?_
    refine w_t (pc := 19) (e_s := (1, 1, 1, 0, 0, .null, [])) (y_s := (20, [some (.ref _), some (.int _)], [.int _, .int _, .ref _], _)) rfl (u_ rfl) ?_
    refine w25 (pc := 20) (len_s := 1) rfl (klz1 hk hm) (fun c2 => ?_)
    replace t := t c2
    refine w_t (pc := 21) (e_s := (3, 1, 0, 0, 0, .null, [])) (y_s := (22, [some (.ref _), some (.int _)], [.ref _], _)) rfl (u_ rfl) ?_
    refine w_t (pc := 22) (e_s := (39, 1, 0, 0, 0, .null, [])) (y_s := (23, [some (.ref _), some (.int _)], [.ref _, .ref _], _)) rfl (u_ rfl) ?_
    refine w20 (pc := 23) (len_s := 3) rfl ?_
    refine w_t (pc := 26) (e_s := (0, 1, 0, 0, 0, .int 1, [])) (y_s := (27, [some (.ref _), some (.int _)], [.int _, .int _, .ref _], _)) rfl (u_ rfl) ?_
    refine w_t (pc := 27) (e_s := (7, 1, 0, 0, 0, .null, [])) (y_s := (28, [some (.ref _), some (.int _)], [.int (_ + _), .ref _], _)) rfl (u_ rfl) ?_
    refine w21 (pc := 28) (len_s := 3) rfl ?_
    exact wrV (pc := 31) (len_s := 1) rfl hk t
  · replace t := t.2 c1
    exact wrV (pc := 10) (len_s := 1) rfl hk t
/-- ColdShod$LawCode.addName(I)V, from 0 on -/
theorem sg_55_0 {F : Nat} {q : Nat} {x1 : Int32} {h : zH} {K : zH → Prop} (hm : q = 14 ∨ q = 17) (hk : hKn h) (t : wF F 54 (0, [some (.ref q), some (.int 109)], [], h) (gV (fun h1 => hKn h1 → wF F 54 (0, [some (.ref q), some (.int x1)], [], h1) (gV (fun h2 => hKn h2 → (x1.toInt = 1 → K (h2.1, zup h2.2.1 q 0 1, h2.2.2.1, h2.2.2.2)) ∧ (¬ x1.toInt = 1 → K h2)))))) : wF (F + 1) 55 (0, [some (.ref q), some (.int x1)], [], h) (gV K) := by
  refine w_0 (pc := 0) (e_s := (3, 1, 0, 0, 0, .null, [])) (y_s := (1, [some (.ref _), some (.int _)], [.ref _], _)) rfl (u_ rfl) ?_
  refine w_t (pc := 1) (e_s := (0, 2, 0, 0, 0, .int 109, [])) (y_s := (3, [some (.ref _), some (.int _)], [.int _, .ref _], _)) rfl (u_ rfl) ?_
  refine wcV (pc := 3) (len_s := 3) rfl rfl (l := [some (.ref _), some (.int _)]) rfl (wmV t (fun h1 hk t => ?_))
  replace t := t hk
  refine w_t (pc := 6) (e_s := (3, 1, 0, 0, 0, .null, [])) (y_s := (7, [some (.ref _), some (.int _)], [.ref _], _)) rfl (u_ rfl) ?_
  refine w_t (pc := 7) (e_s := (1, 1, 1, 0, 0, .null, [])) (y_s := (8, [some (.ref _), some (.int _)], [.int _, .ref _], _)) rfl (u_ rfl) ?_
  refine wcV (pc := 8) (len_s := 3) rfl rfl (l := [some (.ref _), some (.int _)]) rfl (wmV t (fun h2 hk t => ?_))
  replace t := t hk
  refine w_t (pc := 11) (e_s := (1, 1, 1, 0, 0, .null, [])) (y_s := (12, [some (.ref _), some (.int _)], [.int _], _)) rfl (u_ rfl) ?_
  refine w_t (pc := 12) (e_s := (0, 1, 0, 0, 0, .int 1, [])) (y_s := (13, [some (.ref _), some (.int _)], [.int _, .int _], _)) rfl (u_ rfl) ?_
  refine wi1 (pc := 13) (len_s := 3) (Y := 1) rfl rfl (by decide) (fun c3 => ?_) (fun c3 => ?_)
  · replace t := t.1 c3
    refine w_t (pc := 16) (e_s := (3, 1, 0, 0, 0, .null, [])) (y_s := (17, [some (.ref _), some (.int _)], [.ref _], _)) rfl (u_ rfl) ?_
    refine w_t (pc := 17) (e_s := (0, 1, 0, 0, 0, .int 1, [])) (y_s := (18, [some (.ref _), some (.int _)], [.int _, .ref _], _)) rfl (u_ rfl) ?_
    refine w21b (pc := 18) (len_s := 3) rfl ?_
    exact wrV (pc := 21) (len_s := 1) rfl hk t
  · replace t := t.2 c3
    exact wrV (pc := 21) (len_s := 1) rfl hk t
/-- ColdShod$LawCode.addSkip()I, from 0 on -/
theorem sg_56_0 {F : Nat} {q : Nat} {h : zH} {K : Int32 → zH → Prop} (hm : q = 14 ∨ q = 17) (hk : hKn h) (t : wF F 54 (0, [some (.ref q), some (.int 63)], [], h) (gV (fun h1 => hKn h1 → wF F 54 (0, [some (.ref q), some (.int 0)], [], h1) (gV (fun h2 => hKn h2 → K ((h2.2.1 q 2) - 1) h2))))) : wF (F + 1) 56 (0, [some (.ref q)], [], h) (gI K) := by
  refine w_0 (pc := 0) (e_s := (3, 1, 0, 0, 0, .null, [])) (y_s := (1, [some (.ref _)], [.ref _], _)) rfl (u_ rfl) ?_
  refine w_t (pc := 1) (e_s := (0, 2, 0, 0, 0, .int 63, [])) (y_s := (3, [some (.ref _)], [.int _, .ref _], _)) rfl (u_ rfl) ?_
  refine wcV (pc := 3) (len_s := 3) rfl rfl (l := [some (.ref _), some (.int _)]) rfl (wmV t (fun h1 hk t => ?_))
  replace t := t hk
  refine w_t (pc := 6) (e_s := (3, 1, 0, 0, 0, .null, [])) (y_s := (7, [some (.ref _)], [.ref _], _)) rfl (u_ rfl) ?_
  refine w_t (pc := 7) (e_s := (0, 1, 0, 0, 0, .int 0, [])) (y_s := (8, [some (.ref _)], [.int _, .ref _], _)) rfl (u_ rfl) ?_
  refine wcV (pc := 8) (len_s := 3) rfl rfl (l := [some (.ref _), some (.int _)]) rfl (wmV t (fun h2 hk t => ?_))
  replace t := t hk
  refine w_t (pc := 11) (e_s := (3, 1, 0, 0, 0, .null, [])) (y_s := (12, [some (.ref _)], [.ref _], _)) rfl (u_ rfl) ?_
  refine w20 (pc := 12) (len_s := 3) rfl ?_
  refine w_t (pc := 15) (e_s := (0, 1, 0, 0, 0, .int 1, [])) (y_s := (16, [some (.ref _)], [.int _, .int _], _)) rfl (u_ rfl) ?_
  refine w_t (pc := 16) (e_s := (7, 1, 0, 1, 0, .null, [])) (y_s := (17, [some (.ref _)], [.int (_ - _)], _)) rfl (u_ rfl) ?_
  exact wrI (pc := 17) (len_s := 1) rfl hk t
/-- ColdShod$LawCode.endSkip(I)V, from 0 on -/
theorem sg_57_0 {F : Nat} {q : Nat} {x1 : Int32} {h : zH} {K : zH → Prop} (hm : q = 14 ∨ q = 17) (hk : hKn h) (t : (x1.toInt < 0 → K h) ∧ (¬ x1.toInt < 0 → ((x1.toInt < 242 → (zix x1 < 242 → K (h.1, zup h.2.1 (q + 1) (zix x1) (h.2.1 q 2), h.2.2.1, h.2.2.2))) ∧ (¬ x1.toInt < 242 → K h)))) : wF (F + 1) 57 (0, [some (.ref q), some (.int x1)], [], h) (gV K) := by
  refine w_0 (pc := 0) (e_s := (1, 1, 1, 0, 0, .null, [])) (y_s := (1, [some (.ref _), some (.int _)], [.int _], _)) rfl (u_ rfl) ?_
  refine wq2 (pc := 1) (len_s := 3) rfl rfl (fun c1 => ?_) (fun c1 => ?_)
  · replace t := t.1 c1
    exact wrV (pc := 21) (len_s := 1) rfl hk t
  · replace t := t.2 c1
    refine w_t (pc := 4) (e_s := (1, 1, 1, 0, 0, .null, [])) (y_s := (5, [some (.ref _), some (.int _)], [.int _], _)) rfl (u_ rfl) ?_
    refine w_t (pc := 5) (e_s := (0, 3, 0, 0, 0, .int 242, [])) (y_s := (8, [some (.ref _), some (.int _)], [.int _, .int _], _)) rfl (u_ rfl) ?_
    refine wi3 (pc := 8) (len_s := 3) (Y := 242) rfl rfl (by decide) (fun c2 => ?_) (fun c2 => ?_)
    · replace t := t.1 c2
      refine w_t (pc := 11) (e_s := (3, 1, 0, 0, 0, .null, [])) (y_s := (12, [some (.ref _), some (.int _)], [.ref _], _)) rfl (u_ rfl) ?_
      refine w20r (pc := 12) (len_s := 3) (q_s := q + 1) rfl (klaw1 hk hm) ?_
      refine w_t (pc := 15) (e_s := (1, 1, 1, 0, 0, .null, [])) (y_s := (16, [some (.ref _), some (.int _)], [.int _, .ref _], _)) rfl (u_ rfl) ?_
      refine w_t (pc := 16) (e_s := (3, 1, 0, 0, 0, .null, [])) (y_s := (17, [some (.ref _), some (.int _)], [.ref _, .int _, .ref _], _)) rfl (u_ rfl) ?_
      refine w20 (pc := 17) (len_s := 3) rfl ?_
      refine w25 (pc := 20) (len_s := 1) rfl (klz1 hk hm) (fun c3 => ?_)
      replace t := t c3
      exact wrV (pc := 21) (len_s := 1) rfl hk t
    · replace t := t.2 c2
      exact wrV (pc := 21) (len_s := 1) rfl hk t
/-- ColdShod$LawText.letter()I, from 0 on -/
theorem sg_68_0 {F : Nat}  {h : zH} {K : Int32 → zH → Prop} (hk : hKn h) (t : ((h.2.1 40 2).toInt < (h.2.1 40 1).toInt → (zix (h.2.1 40 2) < 120 → K (h.2.1 41 (zix (h.2.1 40 2))) h)) ∧ (¬ (h.2.1 40 2).toInt < (h.2.1 40 1).toInt → K (-1) h)) : wF (F + 1) 68 (0, [some (.ref 40)], [], h) (gI K) := by
  refine w_0 (pc := 0) (e_s := (3, 1, 0, 0, 0, .null, [])) (y_s := (1, [some (.ref _)], [.ref _], _)) rfl (u_ rfl) ?_
  refine w20 (pc := 1) (len_s := 3) rfl ?_
  refine w_t (pc := 4) (e_s := (3, 1, 0, 0, 0, .null, [])) (y_s := (5, [some (.ref _)], [.ref _, .int _], _)) rfl (u_ rfl) ?_
  refine w20 (pc := 5) (len_s := 3) rfl ?_
  refine wi3 (pc := 8) (len_s := 3) rfl rfl rfl (fun c1 => ?_) (fun c1 => ?_)
  · replace t := t.1 c1
    refine w_t (pc := 11) (e_s := (3, 1, 0, 0, 0, .null, [])) (y_s := (12, [some (.ref _)], [.ref _], _)) rfl (u_ rfl) ?_
    refine w20r (pc := 12) (len_s := 3) (q_s := 41) rfl (krq hk rfl) ?_
    refine w_t (pc := 15) (e_s := (3, 1, 0, 0, 0, .null, [])) (y_s := (16, [some (.ref _)], [.ref _, .ref _], _)) rfl (u_ rfl) ?_
    refine w20 (pc := 16) (len_s := 3) rfl ?_
    refine w22 (pc := 19) (len_s := 1) rfl (hk.1 41 0 120 rfl rfl) (fun c2 => ?_)
    replace t := t c2
    refine w_t (pc := 20) (e_s := (17, 3, 24, 0, 0, .null, [])) (y_s := (24, [some (.ref _)], [.int _], _)) rfl (u_ rfl) ?_
    exact wrI (pc := 24) (len_s := 1) rfl hk t
  · replace t := t.2 c1
    refine w_t (pc := 23) (e_s := (0, 1, 0, 0, 0, .int (-1), [])) (y_s := (24, [some (.ref _)], [.int _], _)) rfl (u_ rfl) ?_
    exact wrI (pc := 24) (len_s := 1) rfl hk t
/-- ColdShod$LawText.passes(I)Z, from 0 on -/
theorem sg_69_0 {F : Nat} {x1 : Int32} {h : zH} {K : Int32 → zH → Prop} (hk : hKn h) (t : wF F 68 (0, [some (.ref 40)], [], h) (gI (fun v1 h1 => hKn h1 → (v1.toInt = x1.toInt → K 1 (h1.1, zup h1.2.1 40 2 ((h1.2.1 40 2) + 1), h1.2.2.1, h1.2.2.2)) ∧ (¬ v1.toInt = x1.toInt → K 0 h1)))) : wF (F + 1) 69 (0, [some (.ref 40), some (.int x1)], [], h) (gI K) := by
  refine w_0 (pc := 0) (e_s := (3, 1, 0, 0, 0, .null, [])) (y_s := (1, [some (.ref _), some (.int _)], [.ref _], _)) rfl (u_ rfl) ?_
  refine wcI (pc := 1) (len_s := 3) rfl rfl (l := [some (.ref _)]) rfl (wmI t (fun v1 h1 hk t => ?_))
  replace t := t hk
  refine w_t (pc := 4) (e_s := (1, 1, 1, 0, 0, .null, [])) (y_s := (5, [some (.ref _), some (.int _)], [.int _, .int _], _)) rfl (u_ rfl) ?_
  refine wi0 (pc := 5) (len_s := 3) rfl rfl rfl (fun c2 => ?_) (fun c2 => ?_)
  · replace t := t.1 c2
    refine w_t (pc := 10) (e_s := (3, 1, 0, 0, 0, .null, [])) (y_s := (11, [some (.ref _), some (.int _)], [.ref _], _)) rfl (u_ rfl) ?_
    refine w_t (pc := 11) (e_s := (39, 1, 0, 0, 0, .null, [])) (y_s := (12, [some (.ref _), some (.int _)], [.ref _, .ref _], _)) rfl (u_ rfl) ?_
    refine w20 (pc := 12) (len_s := 3) rfl ?_
    refine w_t (pc := 15) (e_s := (0, 1, 0, 0, 0, .int 1, [])) (y_s := (16, [some (.ref _), some (.int _)], [.int _, .int _, .ref _], _)) rfl (u_ rfl) ?_
    refine w_t (pc := 16) (e_s := (7, 1, 0, 0, 0, .null, [])) (y_s := (17, [some (.ref _), some (.int _)], [.int (_ + _), .ref _], _)) rfl (u_ rfl) ?_
    refine w21 (pc := 17) (len_s := 3) rfl ?_
    refine w_t (pc := 20) (e_s := (0, 1, 0, 0, 0, .int 1, [])) (y_s := (21, [some (.ref _), some (.int _)], [.int _], _)) rfl (u_ rfl) ?_
    exact wrI (pc := 21) (len_s := 1) rfl hk t
  · replace t := t.2 c2
    refine w_t (pc := 8) (e_s := (0, 1, 0, 0, 0, .int 0, [])) (y_s := (9, [some (.ref _), some (.int _)], [.int _], _)) rfl (u_ rfl) ?_
    exact wrI (pc := 9) (len_s := 1) rfl hk t
/-- ColdShod$LawText.isDigit(I)Z, from 0 on -/
theorem sg_70_0 {F : Nat} {x1 : Int32} {h : zH} {K : Int32 → zH → Prop} (hk : hKn h) (t : (x1.toInt < 48 → K 0 h) ∧ (¬ x1.toInt < 48 → ((57 < x1.toInt → K 0 h) ∧ (¬ 57 < x1.toInt → K 1 h)))) : wF (F + 1) 70 (0, [some (.int x1)], [], h) (gI K) := by
  refine w_0 (pc := 0) (e_s := (1, 1, 0, 0, 0, .null, [])) (y_s := (1, [some (.int _)], [.int _], _)) rfl (u_ rfl) ?_
  refine w_t (pc := 1) (e_s := (0, 2, 0, 0, 0, .int 48, [])) (y_s := (3, [some (.int _)], [.int _, .int _], _)) rfl (u_ rfl) ?_
  refine wi2 (pc := 3) (len_s := 3) (Y := 48) rfl rfl (by decide) (fun c1 => ?_) (fun c1 => ?_)
  · replace t := t.1 c1
    refine w_t (pc := 16) (e_s := (0, 1, 0, 0, 0, .int 0, [])) (y_s := (17, [some (.int _)], [.int _], _)) rfl (u_ rfl) ?_
    exact wrI (pc := 17) (len_s := 1) rfl hk t
  · replace t := t.2 c1
    refine w_t (pc := 6) (e_s := (1, 1, 0, 0, 0, .null, [])) (y_s := (7, [some (.int _)], [.int _], _)) rfl (u_ rfl) ?_
    refine w_t (pc := 7) (e_s := (0, 2, 0, 0, 0, .int 57, [])) (y_s := (9, [some (.int _)], [.int _, .int _], _)) rfl (u_ rfl) ?_
    refine wi4 (pc := 9) (len_s := 3) (Y := 57) rfl rfl (by decide) (fun c2 => ?_) (fun c2 => ?_)
    · replace t := t.1 c2
      refine w_t (pc := 16) (e_s := (0, 1, 0, 0, 0, .int 0, [])) (y_s := (17, [some (.int _)], [.int _], _)) rfl (u_ rfl) ?_
      exact wrI (pc := 17) (len_s := 1) rfl hk t
    · replace t := t.2 c2
      refine w_t (pc := 12) (e_s := (0, 1, 0, 0, 0, .int 1, [])) (y_s := (13, [some (.int _)], [.int _], _)) rfl (u_ rfl) ?_
      refine w_t (pc := 13) (e_s := (17, 3, 17, 0, 0, .null, [])) (y_s := (17, [some (.int _)], [.int _], _)) rfl (u_ rfl) ?_
      exact wrI (pc := 17) (len_s := 1) rfl hk t
/-- ColdShod$LawText.nameOf(I)I, from 0 on -/
theorem sg_71_0 {F : Nat} {x1 : Int32} {h : zH} {K : Int32 → zH → Prop} (hk : hKn h) (t : (x1.toInt = 102 → K 3 h) ∧ (¬ x1.toInt = 102 → (x1.toInt = 103 → K (-1) h) ∧ (¬ x1.toInt = 103 → (x1.toInt = 104 → K 2 h) ∧ (¬ x1.toInt = 104 → (x1.toInt = 105 → K (-1) h) ∧ (¬ x1.toInt = 105 → (x1.toInt = 106 → K (-1) h) ∧ (¬ x1.toInt = 106 → (x1.toInt = 107 → K 5 h) ∧ (¬ x1.toInt = 107 → (x1.toInt = 108 → K (-1) h) ∧ (¬ x1.toInt = 108 → (x1.toInt = 109 → K 0 h) ∧ (¬ x1.toInt = 109 → (x1.toInt = 110 → K (-1) h) ∧ (¬ x1.toInt = 110 → (x1.toInt = 111 → K (-1) h) ∧ (¬ x1.toInt = 111 → (x1.toInt = 112 → K (-1) h) ∧ (¬ x1.toInt = 112 → (x1.toInt = 113 → K (-1) h) ∧ (¬ x1.toInt = 113 → (x1.toInt = 114 → K (-1) h) ∧ (¬ x1.toInt = 114 → (x1.toInt = 115 → K 4 h) ∧ (¬ x1.toInt = 115 → (x1.toInt = 116 → K (-1) h) ∧ (¬ x1.toInt = 116 → (x1.toInt = 117 → K (-1) h) ∧ (¬ x1.toInt = 117 → (x1.toInt = 118 → K (-1) h) ∧ (¬ x1.toInt = 118 → (x1.toInt = 119 → K 1 h) ∧ (¬ x1.toInt = 119 → K (-1) h))))))))))))))))))) : wF (F + 1) 71 (0, [some (.int x1)], [], h) (gI K) := by
  refine w_0 (pc := 0) (e_s := (1, 1, 0, 0, 0, .null, [])) (y_s := (1, [some (.int _)], [.int _], _)) rfl (u_ rfl) ?_
  refine wsw (pc := 1) (len_s := 87) rfl ?_
  refine wsc (X_s := 102) rfl (by decide) (fun c1 => ?_) (fun c1 => ?_)
  · replace t := t.1 c1
    refine w_t (pc := 94) (e_s := (0, 1, 0, 0, 0, .int 3, [])) (y_s := (95, [some (.int _)], [.int _], _)) rfl (u_ rfl) ?_
    exact wrI (pc := 95) (len_s := 1) rfl hk t
  · replace t := t.2 c1
    refine wsc (X_s := 103) rfl (by decide) (fun c2 => ?_) (fun c2 => ?_)
    · replace t := t.1 c2
      refine w_t (pc := 100) (e_s := (0, 1, 0, 0, 0, .int (-1), [])) (y_s := (101, [some (.int _)], [.int _], _)) rfl (u_ rfl) ?_
      exact wrI (pc := 101) (len_s := 1) rfl hk t
    · replace t := t.2 c2
      refine wsc (X_s := 104) rfl (by decide) (fun c3 => ?_) (fun c3 => ?_)
      · replace t := t.1 c3
        refine w_t (pc := 92) (e_s := (0, 1, 0, 0, 0, .int 2, [])) (y_s := (93, [some (.int _)], [.int _], _)) rfl (u_ rfl) ?_
        exact wrI (pc := 93) (len_s := 1) rfl hk t
      · replace t := t.2 c3
        refine wsc (X_s := 105) rfl (by decide) (fun c4 => ?_) (fun c4 => ?_)
        · replace t := t.1 c4
          refine w_t (pc := 100) (e_s := (0, 1, 0, 0, 0, .int (-1), [])) (y_s := (101, [some (.int _)], [.int _], _)) rfl (u_ rfl) ?_
          exact wrI (pc := 101) (len_s := 1) rfl hk t
        · replace t := t.2 c4
          refine wsc (X_s := 106) rfl (by decide) (fun c5 => ?_) (fun c5 => ?_)
          · replace t := t.1 c5
            refine w_t (pc := 100) (e_s := (0, 1, 0, 0, 0, .int (-1), [])) (y_s := (101, [some (.int _)], [.int _], _)) rfl (u_ rfl) ?_
            exact wrI (pc := 101) (len_s := 1) rfl hk t
          · replace t := t.2 c5
            refine wsc (X_s := 107) rfl (by decide) (fun c6 => ?_) (fun c6 => ?_)
            · replace t := t.1 c6
              refine w_t (pc := 98) (e_s := (0, 1, 0, 0, 0, .int 5, [])) (y_s := (99, [some (.int _)], [.int _], _)) rfl (u_ rfl) ?_
              exact wrI (pc := 99) (len_s := 1) rfl hk t
            · replace t := t.2 c6
              refine wsc (X_s := 108) rfl (by decide) (fun c7 => ?_) (fun c7 => ?_)
              · replace t := t.1 c7
                refine w_t (pc := 100) (e_s := (0, 1, 0, 0, 0, .int (-1), [])) (y_s := (101, [some (.int _)], [.int _], _)) rfl (u_ rfl) ?_
                exact wrI (pc := 101) (len_s := 1) rfl hk t
              · replace t := t.2 c7
                refine wsc (X_s := 109) rfl (by decide) (fun c8 => ?_) (fun c8 => ?_)
                · replace t := t.1 c8
                  refine w_t (pc := 88) (e_s := (0, 1, 0, 0, 0, .int 0, [])) (y_s := (89, [some (.int _)], [.int _], _)) rfl (u_ rfl) ?_
                  exact wrI (pc := 89) (len_s := 1) rfl hk t
                · replace t := t.2 c8
                  refine wsc (X_s := 110) rfl (by decide) (fun c9 => ?_) (fun c9 => ?_)
                  · replace t := t.1 c9
                    refine w_t (pc := 100) (e_s := (0, 1, 0, 0, 0, .int (-1), [])) (y_s := (101, [some (.int _)], [.int _], _)) rfl (u_ rfl) ?_
                    exact wrI (pc := 101) (len_s := 1) rfl hk t
                  · replace t := t.2 c9
                    refine wsc (X_s := 111) rfl (by decide) (fun c10 => ?_) (fun c10 => ?_)
                    · replace t := t.1 c10
                      refine w_t (pc := 100) (e_s := (0, 1, 0, 0, 0, .int (-1), [])) (y_s := (101, [some (.int _)], [.int _], _)) rfl (u_ rfl) ?_
                      exact wrI (pc := 101) (len_s := 1) rfl hk t
                    · replace t := t.2 c10
                      refine wsc (X_s := 112) rfl (by decide) (fun c11 => ?_) (fun c11 => ?_)
                      · replace t := t.1 c11
                        refine w_t (pc := 100) (e_s := (0, 1, 0, 0, 0, .int (-1), [])) (y_s := (101, [some (.int _)], [.int _], _)) rfl (u_ rfl) ?_
                        exact wrI (pc := 101) (len_s := 1) rfl hk t
                      · replace t := t.2 c11
                        refine wsc (X_s := 113) rfl (by decide) (fun c12 => ?_) (fun c12 => ?_)
                        · replace t := t.1 c12
                          refine w_t (pc := 100) (e_s := (0, 1, 0, 0, 0, .int (-1), [])) (y_s := (101, [some (.int _)], [.int _], _)) rfl (u_ rfl) ?_
                          exact wrI (pc := 101) (len_s := 1) rfl hk t
                        · replace t := t.2 c12
                          refine wsc (X_s := 114) rfl (by decide) (fun c13 => ?_) (fun c13 => ?_)
                          · replace t := t.1 c13
                            refine w_t (pc := 100) (e_s := (0, 1, 0, 0, 0, .int (-1), [])) (y_s := (101, [some (.int _)], [.int _], _)) rfl (u_ rfl) ?_
                            exact wrI (pc := 101) (len_s := 1) rfl hk t
                          · replace t := t.2 c13
                            refine wsc (X_s := 115) rfl (by decide) (fun c14 => ?_) (fun c14 => ?_)
                            · replace t := t.1 c14
                              refine w_t (pc := 96) (e_s := (0, 1, 0, 0, 0, .int 4, [])) (y_s := (97, [some (.int _)], [.int _], _)) rfl (u_ rfl) ?_
                              exact wrI (pc := 97) (len_s := 1) rfl hk t
                            · replace t := t.2 c14
                              refine wsc (X_s := 116) rfl (by decide) (fun c15 => ?_) (fun c15 => ?_)
                              · replace t := t.1 c15
                                refine w_t (pc := 100) (e_s := (0, 1, 0, 0, 0, .int (-1), [])) (y_s := (101, [some (.int _)], [.int _], _)) rfl (u_ rfl) ?_
                                exact wrI (pc := 101) (len_s := 1) rfl hk t
                              · replace t := t.2 c15
                                refine wsc (X_s := 117) rfl (by decide) (fun c16 => ?_) (fun c16 => ?_)
                                · replace t := t.1 c16
                                  refine w_t (pc := 100) (e_s := (0, 1, 0, 0, 0, .int (-1), [])) (y_s := (101, [some (.int _)], [.int _], _)) rfl (u_ rfl) ?_
                                  exact wrI (pc := 101) (len_s := 1) rfl hk t
                                · replace t := t.2 c16
                                  refine wsc (X_s := 118) rfl (by decide) (fun c17 => ?_) (fun c17 => ?_)
                                  · replace t := t.1 c17
                                    refine w_t (pc := 100) (e_s := (0, 1, 0, 0, 0, .int (-1), [])) (y_s := (101, [some (.int _)], [.int _], _)) rfl (u_ rfl) ?_
                                    exact wrI (pc := 101) (len_s := 1) rfl hk t
                                  · replace t := t.2 c17
                                    refine wsc (X_s := 119) rfl (by decide) (fun c18 => ?_) (fun c18 => ?_)
                                    · replace t := t.1 c18
                                      refine w_t (pc := 90) (e_s := (0, 1, 0, 0, 0, .int 1, [])) (y_s := (91, [some (.int _)], [.int _], _)) rfl (u_ rfl) ?_
                                      exact wrI (pc := 91) (len_s := 1) rfl hk t
                                    · replace t := t.2 c18
                                      show wF _ _ (100, _, _, _) _
                                      refine w_t (pc := 100) (e_s := (0, 1, 0, 0, 0, .int (-1), [])) (y_s := (101, [some (.int _)], [.int _], _)) rfl (u_ rfl) ?_
                                      exact wrI (pc := 101) (len_s := 1) rfl hk t
/-- ColdShod$LawText.levelOf(I)I, from 0 on -/
theorem sg_72_0 {F : Nat} {x1 : Int32} {h : zH} {K : Int32 → zH → Prop} (hk : hKn h) (t : (x1.toInt = 37 → K 4 h) ∧ (¬ x1.toInt = 37 → (x1.toInt = 38 → K 1 h) ∧ (¬ x1.toInt = 38 → (x1.toInt = 42 → K 4 h) ∧ (¬ x1.toInt = 42 → (x1.toInt = 43 → K 3 h) ∧ (¬ x1.toInt = 43 → (x1.toInt = 45 → K 3 h) ∧ (¬ x1.toInt = 45 → (x1.toInt = 47 → K 4 h) ∧ (¬ x1.toInt = 47 → (x1.toInt = 60 → K 2 h) ∧ (¬ x1.toInt = 60 → (x1.toInt = 61 → K 2 h) ∧ (¬ x1.toInt = 61 → (x1.toInt = 62 → K 2 h) ∧ (¬ x1.toInt = 62 → (x1.toInt = 124 → K 0 h) ∧ (¬ x1.toInt = 124 → K (-1) h))))))))))) : wF (F + 1) 72 (0, [some (.int x1)], [], h) (gI K) := by
  refine w_0 (pc := 0) (e_s := (1, 1, 0, 0, 0, .null, [])) (y_s := (1, [some (.int _)], [.int _], _)) rfl (u_ rfl) ?_
  refine wsw (pc := 1) (len_s := 91) rfl ?_
  refine wsc (X_s := 37) rfl (by decide) (fun c1 => ?_) (fun c1 => ?_)
  · replace t := t.1 c1
    refine w_t (pc := 100) (e_s := (0, 1, 0, 0, 0, .int 4, [])) (y_s := (101, [some (.int _)], [.int _], _)) rfl (u_ rfl) ?_
    exact wrI (pc := 101) (len_s := 1) rfl hk t
  · replace t := t.2 c1
    refine wsc (X_s := 38) rfl (by decide) (fun c2 => ?_) (fun c2 => ?_)
    · replace t := t.1 c2
      refine w_t (pc := 94) (e_s := (0, 1, 0, 0, 0, .int 1, [])) (y_s := (95, [some (.int _)], [.int _], _)) rfl (u_ rfl) ?_
      exact wrI (pc := 95) (len_s := 1) rfl hk t
    · replace t := t.2 c2
      refine wsc (X_s := 42) rfl (by decide) (fun c3 => ?_) (fun c3 => ?_)
      · replace t := t.1 c3
        refine w_t (pc := 100) (e_s := (0, 1, 0, 0, 0, .int 4, [])) (y_s := (101, [some (.int _)], [.int _], _)) rfl (u_ rfl) ?_
        exact wrI (pc := 101) (len_s := 1) rfl hk t
      · replace t := t.2 c3
        refine wsc (X_s := 43) rfl (by decide) (fun c4 => ?_) (fun c4 => ?_)
        · replace t := t.1 c4
          refine w_t (pc := 98) (e_s := (0, 1, 0, 0, 0, .int 3, [])) (y_s := (99, [some (.int _)], [.int _], _)) rfl (u_ rfl) ?_
          exact wrI (pc := 99) (len_s := 1) rfl hk t
        · replace t := t.2 c4
          refine wsc (X_s := 45) rfl (by decide) (fun c5 => ?_) (fun c5 => ?_)
          · replace t := t.1 c5
            refine w_t (pc := 98) (e_s := (0, 1, 0, 0, 0, .int 3, [])) (y_s := (99, [some (.int _)], [.int _], _)) rfl (u_ rfl) ?_
            exact wrI (pc := 99) (len_s := 1) rfl hk t
          · replace t := t.2 c5
            refine wsc (X_s := 47) rfl (by decide) (fun c6 => ?_) (fun c6 => ?_)
            · replace t := t.1 c6
              refine w_t (pc := 100) (e_s := (0, 1, 0, 0, 0, .int 4, [])) (y_s := (101, [some (.int _)], [.int _], _)) rfl (u_ rfl) ?_
              exact wrI (pc := 101) (len_s := 1) rfl hk t
            · replace t := t.2 c6
              refine wsc (X_s := 60) rfl (by decide) (fun c7 => ?_) (fun c7 => ?_)
              · replace t := t.1 c7
                refine w_t (pc := 96) (e_s := (0, 1, 0, 0, 0, .int 2, [])) (y_s := (97, [some (.int _)], [.int _], _)) rfl (u_ rfl) ?_
                exact wrI (pc := 97) (len_s := 1) rfl hk t
              · replace t := t.2 c7
                refine wsc (X_s := 61) rfl (by decide) (fun c8 => ?_) (fun c8 => ?_)
                · replace t := t.1 c8
                  refine w_t (pc := 96) (e_s := (0, 1, 0, 0, 0, .int 2, [])) (y_s := (97, [some (.int _)], [.int _], _)) rfl (u_ rfl) ?_
                  exact wrI (pc := 97) (len_s := 1) rfl hk t
                · replace t := t.2 c8
                  refine wsc (X_s := 62) rfl (by decide) (fun c9 => ?_) (fun c9 => ?_)
                  · replace t := t.1 c9
                    refine w_t (pc := 96) (e_s := (0, 1, 0, 0, 0, .int 2, [])) (y_s := (97, [some (.int _)], [.int _], _)) rfl (u_ rfl) ?_
                    exact wrI (pc := 97) (len_s := 1) rfl hk t
                  · replace t := t.2 c9
                    refine wsc (X_s := 124) rfl (by decide) (fun c10 => ?_) (fun c10 => ?_)
                    · replace t := t.1 c10
                      refine w_t (pc := 92) (e_s := (0, 1, 0, 0, 0, .int 0, [])) (y_s := (93, [some (.int _)], [.int _], _)) rfl (u_ rfl) ?_
                      exact wrI (pc := 93) (len_s := 1) rfl hk t
                    · replace t := t.2 c10
                      show wF _ _ (102, _, _, _) _
                      refine w_t (pc := 102) (e_s := (0, 1, 0, 0, 0, .int (-1), [])) (y_s := (103, [some (.int _)], [.int _], _)) rfl (u_ rfl) ?_
                      exact wrI (pc := 103) (len_s := 1) rfl hk t
/-- ColdShod$LawText.readNumber(LColdShod$LawCode;)Z, from 0 on -/
theorem sg_67_0 {F : Nat} {q : Nat} {h : zH} {K : Int32 → zH → Prop} (hm : q = 14 ∨ q = 17) (hk : hKn h) (t : wF F 67 (4, [some (.ref 40), some (.ref q), some (.int 0), some (.int 0)], [], h) (gI K)) : wF (F + 1) 67 (0, [some (.ref 40), some (.ref q), none, none], [], h) (gI K) := by
  refine w_0 (pc := 0) (e_s := (0, 1, 0, 0, 0, .int 0, [])) (y_s := (1, [some (.ref _), some (.ref _), none, none], [.int _], _)) rfl (u_ rfl) ?_
  refine w_t (pc := 1) (e_s := (4, 1, 2, 0, 0, .null, [])) (y_s := (2, [some (.ref _), some (.ref _), some (.int _), none], [], _)) rfl (u_ rfl) ?_
  refine w_t (pc := 2) (e_s := (0, 1, 0, 0, 0, .int 0, [])) (y_s := (3, [some (.ref _), some (.ref _), some (.int _), none], [.int _], _)) rfl (u_ rfl) ?_
  refine w_t (pc := 3) (e_s := (4, 1, 3, 0, 0, .null, [])) (y_s := (4, [some (.ref _), some (.ref _), some (.int _), some (.int _)], [], _)) rfl (u_ rfl) ?_
  exact t
/-- ColdShod$LawText.readNumber(LColdShod$LawCode;)Z, from 4 on -/
theorem sg_67_4 {F : Nat} {q : Nat} {x2 x3 : Int32} {h : zH} {K : Int32 → zH → Prop} (hm : q = 14 ∨ q = 17) (hk : hKn h) (t : (x3.toInt < 4 → wF F 68 (0, [some (.ref 40)], [], h) (gI (fun v2 h2 => hKn h2 → wF F 70 (0, [some (.int v2)], [], h2) (gI (fun v3 h3 => hKn h3 → (v3.toInt = 0 → wF F 54 (0, [some (.ref q), some (.int 48)], [], h3) (gV (fun h5 => hKn h5 → wF F 54 (0, [some (.ref q), some (.int x2)], [], h5) (gV (fun h6 => hKn h6 → K 1 h6))))) ∧ (¬ v3.toInt = 0 → wF F 68 (0, [some (.ref 40)], [], h3) (gI (fun v7 h7 => hKn h7 → wF F 67 (4, [some (.ref 40), some (.ref q), some (.int (((x2 * 10) + v7) - 48)), some (.int (x3 + 1))], [], (h7.1, zup h7.2.1 40 2 ((h7.2.1 40 2) + 1), h7.2.2.1, h7.2.2.2)) (gI K))))))))) ∧ (¬ x3.toInt < 4 → wF F 54 (0, [some (.ref q), some (.int 48)], [], h) (gV (fun h8 => hKn h8 → wF F 54 (0, [some (.ref q), some (.int x2)], [], h8) (gV (fun h9 => hKn h9 → K 1 h9)))))) : wF (F + 1) 67 (4, [some (.ref 40), some (.ref q), some (.int x2), some (.int x3)], [], h) (gI K) := by
  refine w_0 (pc := 4) (e_s := (1, 1, 3, 0, 0, .null, [])) (y_s := (5, [some (.ref _), some (.ref _), some (.int _), some (.int _)], [.int _], _)) rfl (u_ rfl) ?_
  refine w_t (pc := 5) (e_s := (0, 1, 0, 0, 0, .int 4, [])) (y_s := (6, [some (.ref _), some (.ref _), some (.int _), some (.int _)], [.int _, .int _], _)) rfl (u_ rfl) ?_
  refine wi3 (pc := 6) (len_s := 3) (Y := 4) rfl rfl (by decide) (fun c1 => ?_) (fun c1 => ?_)
  · replace t := t.1 c1
    refine w_t (pc := 9) (e_s := (3, 1, 0, 0, 0, .null, [])) (y_s := (10, [some (.ref _), some (.ref _), some (.int _), some (.int _)], [.ref _], _)) rfl (u_ rfl) ?_
    refine wcI (pc := 10) (len_s := 3) rfl rfl (l := [some (.ref _)]) rfl (wmI t (fun v2 h2 hk t => ?_))
    replace t := t hk
    refine wcI (pc := 13) (len_s := 3) rfl rfl (l := [some (.int _)]) rfl (wmI t (fun v3 h3 hk t => ?_))
    replace t := t hk
    refine wq0 (pc := 16) (len_s := 3) rfl rfl (fun c4 => ?_) (fun c4 => ?_)
    · replace t := t.1 c4
      refine w_t (pc := 48) (e_s := (3, 1, 1, 0, 0, .null, [])) (y_s := (49, [some (.ref _), some (.ref _), some (.int _), some (.int _)], [.ref _], _)) rfl (u_ rfl) ?_
      refine w_t (pc := 49) (e_s := (0, 2, 0, 0, 0, .int 48, [])) (y_s := (51, [some (.ref _), some (.ref _), some (.int _), some (.int _)], [.int _, .ref _], _)) rfl (u_ rfl) ?_
      refine wcV (pc := 51) (len_s := 3) rfl rfl (l := [some (.ref _), some (.int _)]) rfl (wmV t (fun h5 hk t => ?_))
      replace t := t hk
      refine w_t (pc := 54) (e_s := (3, 1, 1, 0, 0, .null, [])) (y_s := (55, [some (.ref _), some (.ref _), some (.int _), some (.int _)], [.ref _], _)) rfl (u_ rfl) ?_
      refine w_t (pc := 55) (e_s := (1, 1, 2, 0, 0, .null, [])) (y_s := (56, [some (.ref _), some (.ref _), some (.int _), some (.int _)], [.int _, .ref _], _)) rfl (u_ rfl) ?_
      refine wcV (pc := 56) (len_s := 3) rfl rfl (l := [some (.ref _), some (.int _)]) rfl (wmV t (fun h6 hk t => ?_))
      replace t := t hk
      refine w_t (pc := 59) (e_s := (0, 1, 0, 0, 0, .int 1, [])) (y_s := (60, [some (.ref _), some (.ref _), some (.int _), some (.int _)], [.int _], _)) rfl (u_ rfl) ?_
      exact wrI (pc := 60) (len_s := 1) rfl hk t
    · replace t := t.2 c4
      refine w_t (pc := 19) (e_s := (1, 1, 2, 0, 0, .null, [])) (y_s := (20, [some (.ref _), some (.ref _), some (.int _), some (.int _)], [.int _], _)) rfl (u_ rfl) ?_
      refine w_t (pc := 20) (e_s := (0, 2, 0, 0, 0, .int 10, [])) (y_s := (22, [some (.ref _), some (.ref _), some (.int _), some (.int _)], [.int _, .int _], _)) rfl (u_ rfl) ?_
      refine w_t (pc := 22) (e_s := (7, 1, 0, 2, 0, .null, [])) (y_s := (23, [some (.ref _), some (.ref _), some (.int _), some (.int _)], [.int (_ * _)], _)) rfl (u_ rfl) ?_
      refine w_t (pc := 23) (e_s := (3, 1, 0, 0, 0, .null, [])) (y_s := (24, [some (.ref _), some (.ref _), some (.int _), some (.int _)], [.ref _, .int _], _)) rfl (u_ rfl) ?_
      refine wcI (pc := 24) (len_s := 3) rfl rfl (l := [some (.ref _)]) rfl (wmI t (fun v7 h7 hk t => ?_))
      replace t := t hk
      refine w_t (pc := 27) (e_s := (7, 1, 0, 0, 0, .null, [])) (y_s := (28, [some (.ref _), some (.ref _), some (.int _), some (.int _)], [.int (_ + _)], _)) rfl (u_ rfl) ?_
      refine w_t (pc := 28) (e_s := (0, 2, 0, 0, 0, .int 48, [])) (y_s := (30, [some (.ref _), some (.ref _), some (.int _), some (.int _)], [.int _, .int _], _)) rfl (u_ rfl) ?_
      refine w_t (pc := 30) (e_s := (7, 1, 0, 1, 0, .null, [])) (y_s := (31, [some (.ref _), some (.ref _), some (.int _), some (.int _)], [.int (_ - _)], _)) rfl (u_ rfl) ?_
      refine w_t (pc := 31) (e_s := (4, 1, 2, 0, 0, .null, [])) (y_s := (32, [some (.ref _), some (.ref _), some (.int _), some (.int _)], [], _)) rfl (u_ rfl) ?_
      refine w_t (pc := 32) (e_s := (3, 1, 0, 0, 0, .null, [])) (y_s := (33, [some (.ref _), some (.ref _), some (.int _), some (.int _)], [.ref _], _)) rfl (u_ rfl) ?_
      refine w_t (pc := 33) (e_s := (39, 1, 0, 0, 0, .null, [])) (y_s := (34, [some (.ref _), some (.ref _), some (.int _), some (.int _)], [.ref _, .ref _], _)) rfl (u_ rfl) ?_
      refine w20 (pc := 34) (len_s := 3) rfl ?_
      refine w_t (pc := 37) (e_s := (0, 1, 0, 0, 0, .int 1, [])) (y_s := (38, [some (.ref _), some (.ref _), some (.int _), some (.int _)], [.int _, .int _, .ref _], _)) rfl (u_ rfl) ?_
      refine w_t (pc := 38) (e_s := (7, 1, 0, 0, 0, .null, [])) (y_s := (39, [some (.ref _), some (.ref _), some (.int _), some (.int _)], [.int (_ + _), .ref _], _)) rfl (u_ rfl) ?_
      refine w21 (pc := 39) (len_s := 3) rfl ?_
      refine w_t (pc := 42) (e_s := (19, 3, 3, 0, 0, .int 1, [])) (y_s := (45, [some (.ref _), some (.ref _), some (.int _), some (.int _)], [], _)) rfl (u_ rfl) ?_
      refine w_t (pc := 45) (e_s := (17, 3, 4, 0, 0, .null, [])) (y_s := (4, [some (.ref _), some (.ref _), some (.int _), some (.int _)], [], _)) rfl (u_ rfl) ?_
      exact t
  · replace t := t.2 c1
    refine w_t (pc := 48) (e_s := (3, 1, 1, 0, 0, .null, [])) (y_s := (49, [some (.ref _), some (.ref _), some (.int _), some (.int _)], [.ref _], _)) rfl (u_ rfl) ?_
    refine w_t (pc := 49) (e_s := (0, 2, 0, 0, 0, .int 48, [])) (y_s := (51, [some (.ref _), some (.ref _), some (.int _), some (.int _)], [.int _, .ref _], _)) rfl (u_ rfl) ?_
    refine wcV (pc := 51) (len_s := 3) rfl rfl (l := [some (.ref _), some (.int _)]) rfl (wmV t (fun h8 hk t => ?_))
    replace t := t hk
    refine w_t (pc := 54) (e_s := (3, 1, 1, 0, 0, .null, [])) (y_s := (55, [some (.ref _), some (.ref _), some (.int _), some (.int _)], [.ref _], _)) rfl (u_ rfl) ?_
    refine w_t (pc := 55) (e_s := (1, 1, 2, 0, 0, .null, [])) (y_s := (56, [some (.ref _), some (.ref _), some (.int _), some (.int _)], [.int _, .ref _], _)) rfl (u_ rfl) ?_
    refine wcV (pc := 56) (len_s := 3) rfl rfl (l := [some (.ref _), some (.int _)]) rfl (wmV t (fun h9 hk t => ?_))
    replace t := t hk
    refine w_t (pc := 59) (e_s := (0, 1, 0, 0, 0, .int 1, [])) (y_s := (60, [some (.ref _), some (.ref _), some (.int _), some (.int _)], [.int _], _)) rfl (u_ rfl) ?_
    exact wrI (pc := 60) (len_s := 1) rfl hk t
/-- ColdShod$LawText.readOperand(LColdShod$LawCode;I)Z, from 0 on -/
theorem sg_66_0 {F : Nat} {q : Nat} {x2 : Int32} {h : zH} {K : Int32 → zH → Prop} (hm : q = 14 ∨ q = 17) (hk : hKn h) (t : wF F 68 (0, [some (.ref 40)], [], h) (gI (fun v1 h1 => hKn h1 → wF F 70 (0, [some (.int v1)], [], h1) (gI (fun v2 h2 => hKn h2 → (v2.toInt = 0 → wF F 71 (0, [some (.int v1)], [], h2) (gI (fun v4 h4 => hKn h4 → (v4.toInt < 0 → ((v1.toInt = 40 → ((x2.toInt < 6 → wF F 65 (0, [some (.ref 40), some (.ref q), some (.int 0), some (.int (x2 + 1)), none, none, none], [], (h4.1, zup h4.2.1 40 2 ((h4.2.1 40 2) + 1), h4.2.2.1, h4.2.2.2)) (gI (fun v9 h9 => hKn h9 → (v9.toInt = 0 → K 0 h9) ∧ (¬ v9.toInt = 0 → wF F 69 (0, [some (.ref 40), some (.int 41)], [], h9) (gI (fun v11 h11 => hKn h11 → (v11.toInt = 0 → K 0 h11) ∧ (¬ v11.toInt = 0 → K 1 h11))))))) ∧ (¬ x2.toInt < 6 → K 0 h4))) ∧ (¬ v1.toInt = 40 → ((v1.toInt = 33 → ((x2.toInt < 6 → wF F 66 (0, [some (.ref 40), some (.ref q), some (.int (x2 + 1)), none, none], [], (h4.1, zup h4.2.1 40 2 ((h4.2.1 40 2) + 1), h4.2.2.1, h4.2.2.2)) (gI (fun v16 h16 => hKn h16 → (v16.toInt = 0 → K 0 h16) ∧ (¬ v16.toInt = 0 → wF F 54 (0, [some (.ref q), some (.int 33)], [], h16) (gV (fun h19 => hKn h19 → K 1 h19)))))) ∧ (¬ x2.toInt < 6 → K 0 h4))) ∧ (¬ v1.toInt = 33 → ((v1.toInt = 45 → ((x2.toInt < 6 → wF F 66 (0, [some (.ref 40), some (.ref q), some (.int (x2 + 1)), none, none], [], (h4.1, zup h4.2.1 40 2 ((h4.2.1 40 2) + 1), h4.2.2.1, h4.2.2.2)) (gI (fun v23 h23 => hKn h23 → (v23.toInt = 0 → K 0 h23) ∧ (¬ v23.toInt = 0 → wF F 54 (0, [some (.ref q), some (.int 126)], [], h23) (gV (fun h26 => hKn h26 → K 1 h26)))))) ∧ (¬ x2.toInt < 6 → K 0 h4))) ∧ (¬ v1.toInt = 45 → K 0 h4))))))) ∧ (¬ v4.toInt < 0 → wF F 55 (0, [some (.ref q), some (.int v4)], [], h4) (gV (fun h27 => hKn h27 → K 1 (h27.1, zup h27.2.1 40 2 ((h27.2.1 40 2) + 1), h27.2.2.1, h27.2.2.2))))))) ∧ (¬ v2.toInt = 0 → wF F 67 (0, [some (.ref 40), some (.ref q), none, none], [], h2) (gI (fun v28 h28 => hKn h28 → K v28 h28)))))))) : wF (F + 1) 66 (0, [some (.ref 40), some (.ref q), some (.int x2), none, none], [], h) (gI K) := by
  refine w_0 (pc := 0) (e_s := (3, 1, 0, 0, 0, .null, [])) (y_s := (1, [some (.ref _), some (.ref _), some (.int _), none, none], [.ref _], _)) rfl (u_ rfl) ?_
  refine wcI (pc := 1) (len_s := 3) rfl rfl (l := [some (.ref _)]) rfl (wmI t (fun v1 h1 hk t => ?_))
  replace t := t hk
  refine w_t (pc := 4) (e_s := (4, 1, 3, 0, 0, .null, [])) (y_s := (5, [some (.ref _), some (.ref _), some (.int _), some (.int _), none], [], _)) rfl (u_ rfl) ?_
  refine w_t (pc := 5) (e_s := (1, 1, 3, 0, 0, .null, [])) (y_s := (6, [some (.ref _), some (.ref _), some (.int _), some (.int _), none], [.int _], _)) rfl (u_ rfl) ?_
  refine wcI (pc := 6) (len_s := 3) rfl rfl (l := [some (.int _)]) rfl (wmI t (fun v2 h2 hk t => ?_))
  replace t := t hk
  refine wq0 (pc := 9) (len_s := 3) rfl rfl (fun c3 => ?_) (fun c3 => ?_)
  · replace t := t.1 c3
    refine w_t (pc := 18) (e_s := (1, 1, 3, 0, 0, .null, [])) (y_s := (19, [some (.ref _), some (.ref _), some (.int _), some (.int _), none], [.int _], _)) rfl (u_ rfl) ?_
    refine wcI (pc := 19) (len_s := 3) rfl rfl (l := [some (.int _)]) rfl (wmI t (fun v4 h4 hk t => ?_))
    replace t := t hk
    refine w_t (pc := 22) (e_s := (4, 2, 4, 0, 0, .null, [])) (y_s := (24, [some (.ref _), some (.ref _), some (.int _), some (.int _), some (.int _)], [], _)) rfl (u_ rfl) ?_
    refine w_t (pc := 24) (e_s := (1, 2, 4, 0, 0, .null, [])) (y_s := (26, [some (.ref _), some (.ref _), some (.int _), some (.int _), some (.int _)], [.int _], _)) rfl (u_ rfl) ?_
    refine wq2 (pc := 26) (len_s := 3) rfl rfl (fun c5 => ?_) (fun c5 => ?_)
    · replace t := t.1 c5
      refine w_t (pc := 47) (e_s := (1, 1, 3, 0, 0, .null, [])) (y_s := (48, [some (.ref _), some (.ref _), some (.int _), some (.int _), some (.int _)], [.int _], _)) rfl (u_ rfl) ?_
      refine w_t (pc := 48) (e_s := (0, 2, 0, 0, 0, .int 40, [])) (y_s := (50, [some (.ref _), some (.ref _), some (.int _), some (.int _), some (.int _)], [.int _, .int _], _)) rfl (u_ rfl) ?_
      refine wi0 (pc := 50) (len_s := 3) (Y := 40) rfl rfl (by decide) (fun c6 => ?_) (fun c6 => ?_)
      · replace t := t.1 c6
        refine w_t (pc := 65) (e_s := (1, 1, 2, 0, 0, .null, [])) (y_s := (66, [some (.ref _), some (.ref _), some (.int _), some (.int _), some (.int _)], [.int _], _)) rfl (u_ rfl) ?_
        refine w_t (pc := 66) (e_s := (0, 2, 0, 0, 0, .int 6, [])) (y_s := (68, [some (.ref _), some (.ref _), some (.int _), some (.int _), some (.int _)], [.int _, .int _], _)) rfl (u_ rfl) ?_
        refine wi2 (pc := 68) (len_s := 3) (Y := 6) rfl rfl (by decide) (fun c7 => ?_) (fun c7 => ?_)
        · replace t := t.1 c7
          refine w_t (pc := 73) (e_s := (3, 1, 0, 0, 0, .null, [])) (y_s := (74, [some (.ref _), some (.ref _), some (.int _), some (.int _), some (.int _)], [.ref _], _)) rfl (u_ rfl) ?_
          refine w_t (pc := 74) (e_s := (39, 1, 0, 0, 0, .null, [])) (y_s := (75, [some (.ref _), some (.ref _), some (.int _), some (.int _), some (.int _)], [.ref _, .ref _], _)) rfl (u_ rfl) ?_
          refine w20 (pc := 75) (len_s := 3) rfl ?_
          refine w_t (pc := 78) (e_s := (0, 1, 0, 0, 0, .int 1, [])) (y_s := (79, [some (.ref _), some (.ref _), some (.int _), some (.int _), some (.int _)], [.int _, .int _, .ref _], _)) rfl (u_ rfl) ?_
          refine w_t (pc := 79) (e_s := (7, 1, 0, 0, 0, .null, [])) (y_s := (80, [some (.ref _), some (.ref _), some (.int _), some (.int _), some (.int _)], [.int (_ + _), .ref _], _)) rfl (u_ rfl) ?_
          refine w21 (pc := 80) (len_s := 3) rfl ?_
          refine w_t (pc := 83) (e_s := (1, 1, 3, 0, 0, .null, [])) (y_s := (84, [some (.ref _), some (.ref _), some (.int _), some (.int _), some (.int _)], [.int _], _)) rfl (u_ rfl) ?_
          refine w_t (pc := 84) (e_s := (0, 2, 0, 0, 0, .int 40, [])) (y_s := (86, [some (.ref _), some (.ref _), some (.int _), some (.int _), some (.int _)], [.int _, .int _], _)) rfl (u_ rfl) ?_
          refine wi1 (pc := 86) (len_s := 3) (Y := 40) rfl rfl (by decide) (fun c8 => ?_) (fun c8 => ?_)
          · skip
            refine w_t (pc := 89) (e_s := (3, 1, 0, 0, 0, .null, [])) (y_s := (90, [some (.ref _), some (.ref _), some (.int _), some (.int _), some (.int _)], [.ref _], _)) rfl (u_ rfl) ?_
            refine w_t (pc := 90) (e_s := (3, 1, 1, 0, 0, .null, [])) (y_s := (91, [some (.ref _), some (.ref _), some (.int _), some (.int _), some (.int _)], [.ref _, .ref _], _)) rfl (u_ rfl) ?_
            refine w_t (pc := 91) (e_s := (0, 1, 0, 0, 0, .int 0, [])) (y_s := (92, [some (.ref _), some (.ref _), some (.int _), some (.int _), some (.int _)], [.int _, .ref _, .ref _], _)) rfl (u_ rfl) ?_
            refine w_t (pc := 92) (e_s := (1, 1, 2, 0, 0, .null, [])) (y_s := (93, [some (.ref _), some (.ref _), some (.int _), some (.int _), some (.int _)], [.int _, .int _, .ref _, .ref _], _)) rfl (u_ rfl) ?_
            refine w_t (pc := 93) (e_s := (0, 1, 0, 0, 0, .int 1, [])) (y_s := (94, [some (.ref _), some (.ref _), some (.int _), some (.int _), some (.int _)], [.int _, .int _, .int _, .ref _, .ref _], _)) rfl (u_ rfl) ?_
            refine w_t (pc := 94) (e_s := (7, 1, 0, 0, 0, .null, [])) (y_s := (95, [some (.ref _), some (.ref _), some (.int _), some (.int _), some (.int _)], [.int (_ + _), .int _, .ref _, .ref _], _)) rfl (u_ rfl) ?_
            refine wcI (pc := 95) (len_s := 3) rfl rfl (l := [some (.ref _), some (.ref _), some (.int _), some (.int _), none, none, none]) rfl (wmI t (fun v9 h9 hk t => ?_))
            replace t := t hk
            refine wq0 (pc := 98) (len_s := 3) rfl rfl (fun c10 => ?_) (fun c10 => ?_)
            · replace t := t.1 c10
              refine w_t (pc := 114) (e_s := (0, 1, 0, 0, 0, .int 0, [])) (y_s := (115, [some (.ref _), some (.ref _), some (.int _), some (.int _), some (.int _)], [.int _], _)) rfl (u_ rfl) ?_
              exact wrI (pc := 115) (len_s := 1) rfl hk t
            · replace t := t.2 c10
              refine w_t (pc := 101) (e_s := (3, 1, 0, 0, 0, .null, [])) (y_s := (102, [some (.ref _), some (.ref _), some (.int _), some (.int _), some (.int _)], [.ref _], _)) rfl (u_ rfl) ?_
              refine w_t (pc := 102) (e_s := (0, 2, 0, 0, 0, .int 41, [])) (y_s := (104, [some (.ref _), some (.ref _), some (.int _), some (.int _), some (.int _)], [.int _, .ref _], _)) rfl (u_ rfl) ?_
              refine wcI (pc := 104) (len_s := 3) rfl rfl (l := [some (.ref _), some (.int _)]) rfl (wmI t (fun v11 h11 hk t => ?_))
              replace t := t hk
              refine wq0 (pc := 107) (len_s := 3) rfl rfl (fun c12 => ?_) (fun c12 => ?_)
              · replace t := t.1 c12
                refine w_t (pc := 114) (e_s := (0, 1, 0, 0, 0, .int 0, [])) (y_s := (115, [some (.ref _), some (.ref _), some (.int _), some (.int _), some (.int _)], [.int _], _)) rfl (u_ rfl) ?_
                exact wrI (pc := 115) (len_s := 1) rfl hk t
              · replace t := t.2 c12
                refine w_t (pc := 110) (e_s := (0, 1, 0, 0, 0, .int 1, [])) (y_s := (111, [some (.ref _), some (.ref _), some (.int _), some (.int _), some (.int _)], [.int _], _)) rfl (u_ rfl) ?_
                refine w_t (pc := 111) (e_s := (17, 3, 115, 0, 0, .null, [])) (y_s := (115, [some (.ref _), some (.ref _), some (.int _), some (.int _), some (.int _)], [.int _], _)) rfl (u_ rfl) ?_
                exact wrI (pc := 115) (len_s := 1) rfl hk t
          · exact absurd c6 c8
        · replace t := t.2 c7
          refine w_t (pc := 71) (e_s := (0, 1, 0, 0, 0, .int 0, [])) (y_s := (72, [some (.ref _), some (.ref _), some (.int _), some (.int _), some (.int _)], [.int _], _)) rfl (u_ rfl) ?_
          exact wrI (pc := 72) (len_s := 1) rfl hk t
      · replace t := t.2 c6
        refine w_t (pc := 53) (e_s := (1, 1, 3, 0, 0, .null, [])) (y_s := (54, [some (.ref _), some (.ref _), some (.int _), some (.int _), some (.int _)], [.int _], _)) rfl (u_ rfl) ?_
        refine w_t (pc := 54) (e_s := (0, 2, 0, 0, 0, .int 33, [])) (y_s := (56, [some (.ref _), some (.ref _), some (.int _), some (.int _), some (.int _)], [.int _, .int _], _)) rfl (u_ rfl) ?_
        refine wi0 (pc := 56) (len_s := 3) (Y := 33) rfl rfl (by decide) (fun c13 => ?_) (fun c13 => ?_)
        · replace t := t.1 c13
          refine w_t (pc := 65) (e_s := (1, 1, 2, 0, 0, .null, [])) (y_s := (66, [some (.ref _), some (.ref _), some (.int _), some (.int _), some (.int _)], [.int _], _)) rfl (u_ rfl) ?_
          refine w_t (pc := 66) (e_s := (0, 2, 0, 0, 0, .int 6, [])) (y_s := (68, [some (.ref _), some (.ref _), some (.int _), some (.int _), some (.int _)], [.int _, .int _], _)) rfl (u_ rfl) ?_
          refine wi2 (pc := 68) (len_s := 3) (Y := 6) rfl rfl (by decide) (fun c14 => ?_) (fun c14 => ?_)
          · replace t := t.1 c14
            refine w_t (pc := 73) (e_s := (3, 1, 0, 0, 0, .null, [])) (y_s := (74, [some (.ref _), some (.ref _), some (.int _), some (.int _), some (.int _)], [.ref _], _)) rfl (u_ rfl) ?_
            refine w_t (pc := 74) (e_s := (39, 1, 0, 0, 0, .null, [])) (y_s := (75, [some (.ref _), some (.ref _), some (.int _), some (.int _), some (.int _)], [.ref _, .ref _], _)) rfl (u_ rfl) ?_
            refine w20 (pc := 75) (len_s := 3) rfl ?_
            refine w_t (pc := 78) (e_s := (0, 1, 0, 0, 0, .int 1, [])) (y_s := (79, [some (.ref _), some (.ref _), some (.int _), some (.int _), some (.int _)], [.int _, .int _, .ref _], _)) rfl (u_ rfl) ?_
            refine w_t (pc := 79) (e_s := (7, 1, 0, 0, 0, .null, [])) (y_s := (80, [some (.ref _), some (.ref _), some (.int _), some (.int _), some (.int _)], [.int (_ + _), .ref _], _)) rfl (u_ rfl) ?_
            refine w21 (pc := 80) (len_s := 3) rfl ?_
            refine w_t (pc := 83) (e_s := (1, 1, 3, 0, 0, .null, [])) (y_s := (84, [some (.ref _), some (.ref _), some (.int _), some (.int _), some (.int _)], [.int _], _)) rfl (u_ rfl) ?_
            refine w_t (pc := 84) (e_s := (0, 2, 0, 0, 0, .int 40, [])) (y_s := (86, [some (.ref _), some (.ref _), some (.int _), some (.int _), some (.int _)], [.int _, .int _], _)) rfl (u_ rfl) ?_
            refine wi1 (pc := 86) (len_s := 3) (Y := 40) rfl rfl (by decide) (fun c15 => ?_) (fun c15 => ?_)
            · exact absurd c15 c6
            · skip
              refine w_t (pc := 116) (e_s := (3, 1, 0, 0, 0, .null, [])) (y_s := (117, [some (.ref _), some (.ref _), some (.int _), some (.int _), some (.int _)], [.ref _], _)) rfl (u_ rfl) ?_
              refine w_t (pc := 117) (e_s := (3, 1, 1, 0, 0, .null, [])) (y_s := (118, [some (.ref _), some (.ref _), some (.int _), some (.int _), some (.int _)], [.ref _, .ref _], _)) rfl (u_ rfl) ?_
              refine w_t (pc := 118) (e_s := (1, 1, 2, 0, 0, .null, [])) (y_s := (119, [some (.ref _), some (.ref _), some (.int _), some (.int _), some (.int _)], [.int _, .ref _, .ref _], _)) rfl (u_ rfl) ?_
              refine w_t (pc := 119) (e_s := (0, 1, 0, 0, 0, .int 1, [])) (y_s := (120, [some (.ref _), some (.ref _), some (.int _), some (.int _), some (.int _)], [.int _, .int _, .ref _, .ref _], _)) rfl (u_ rfl) ?_
              refine w_t (pc := 120) (e_s := (7, 1, 0, 0, 0, .null, [])) (y_s := (121, [some (.ref _), some (.ref _), some (.int _), some (.int _), some (.int _)], [.int (_ + _), .ref _, .ref _], _)) rfl (u_ rfl) ?_
              refine wcI (pc := 121) (len_s := 3) rfl rfl (l := [some (.ref _), some (.ref _), some (.int _), none, none]) rfl (wmI t (fun v16 h16 hk t => ?_))
              replace t := t hk
              refine wq1 (pc := 124) (len_s := 3) rfl rfl (fun c17 => ?_) (fun c17 => ?_)
              · replace t := t.1 c17
                refine w_t (pc := 127) (e_s := (0, 1, 0, 0, 0, .int 0, [])) (y_s := (128, [some (.ref _), some (.ref _), some (.int _), some (.int _), some (.int _)], [.int _], _)) rfl (u_ rfl) ?_
                exact wrI (pc := 128) (len_s := 1) rfl hk t
              · replace t := t.2 c17
                refine w_t (pc := 129) (e_s := (3, 1, 1, 0, 0, .null, [])) (y_s := (130, [some (.ref _), some (.ref _), some (.int _), some (.int _), some (.int _)], [.ref _], _)) rfl (u_ rfl) ?_
                refine w_t (pc := 130) (e_s := (1, 1, 3, 0, 0, .null, [])) (y_s := (131, [some (.ref _), some (.ref _), some (.int _), some (.int _), some (.int _)], [.int _, .ref _], _)) rfl (u_ rfl) ?_
                refine w_t (pc := 131) (e_s := (0, 2, 0, 0, 0, .int 33, [])) (y_s := (133, [some (.ref _), some (.ref _), some (.int _), some (.int _), some (.int _)], [.int _, .int _, .ref _], _)) rfl (u_ rfl) ?_
                refine wi1 (pc := 133) (len_s := 3) (Y := 33) rfl rfl (by decide) (fun c18 => ?_) (fun c18 => ?_)
                · skip
                  refine w_t (pc := 136) (e_s := (0, 2, 0, 0, 0, .int 33, [])) (y_s := (138, [some (.ref _), some (.ref _), some (.int _), some (.int _), some (.int _)], [.int _, .ref _], _)) rfl (u_ rfl) ?_
                  refine w_t (pc := 138) (e_s := (17, 3, 143, 0, 0, .null, [])) (y_s := (143, [some (.ref _), some (.ref _), some (.int _), some (.int _), some (.int _)], [.int _, .ref _], _)) rfl (u_ rfl) ?_
                  refine wcV (pc := 143) (len_s := 3) rfl rfl (l := [some (.ref _), some (.int _)]) rfl (wmV t (fun h19 hk t => ?_))
                  replace t := t hk
                  refine w_t (pc := 146) (e_s := (0, 1, 0, 0, 0, .int 1, [])) (y_s := (147, [some (.ref _), some (.ref _), some (.int _), some (.int _), some (.int _)], [.int _], _)) rfl (u_ rfl) ?_
                  exact wrI (pc := 147) (len_s := 1) rfl hk t
                · exact absurd c13 c18
          · replace t := t.2 c14
            refine w_t (pc := 71) (e_s := (0, 1, 0, 0, 0, .int 0, [])) (y_s := (72, [some (.ref _), some (.ref _), some (.int _), some (.int _), some (.int _)], [.int _], _)) rfl (u_ rfl) ?_
            exact wrI (pc := 72) (len_s := 1) rfl hk t
        · replace t := t.2 c13
          refine w_t (pc := 59) (e_s := (1, 1, 3, 0, 0, .null, [])) (y_s := (60, [some (.ref _), some (.ref _), some (.int _), some (.int _), some (.int _)], [.int _], _)) rfl (u_ rfl) ?_
          refine w_t (pc := 60) (e_s := (0, 2, 0, 0, 0, .int 45, [])) (y_s := (62, [some (.ref _), some (.ref _), some (.int _), some (.int _), some (.int _)], [.int _, .int _], _)) rfl (u_ rfl) ?_
          refine wi1 (pc := 62) (len_s := 3) (Y := 45) rfl rfl (by decide) (fun c20 => ?_) (fun c20 => ?_)
          · replace t := t.1 c20
            refine w_t (pc := 65) (e_s := (1, 1, 2, 0, 0, .null, [])) (y_s := (66, [some (.ref _), some (.ref _), some (.int _), some (.int _), some (.int _)], [.int _], _)) rfl (u_ rfl) ?_
            refine w_t (pc := 66) (e_s := (0, 2, 0, 0, 0, .int 6, [])) (y_s := (68, [some (.ref _), some (.ref _), some (.int _), some (.int _), some (.int _)], [.int _, .int _], _)) rfl (u_ rfl) ?_
            refine wi2 (pc := 68) (len_s := 3) (Y := 6) rfl rfl (by decide) (fun c21 => ?_) (fun c21 => ?_)
            · replace t := t.1 c21
              refine w_t (pc := 73) (e_s := (3, 1, 0, 0, 0, .null, [])) (y_s := (74, [some (.ref _), some (.ref _), some (.int _), some (.int _), some (.int _)], [.ref _], _)) rfl (u_ rfl) ?_
              refine w_t (pc := 74) (e_s := (39, 1, 0, 0, 0, .null, [])) (y_s := (75, [some (.ref _), some (.ref _), some (.int _), some (.int _), some (.int _)], [.ref _, .ref _], _)) rfl (u_ rfl) ?_
              refine w20 (pc := 75) (len_s := 3) rfl ?_
              refine w_t (pc := 78) (e_s := (0, 1, 0, 0, 0, .int 1, [])) (y_s := (79, [some (.ref _), some (.ref _), some (.int _), some (.int _), some (.int _)], [.int _, .int _, .ref _], _)) rfl (u_ rfl) ?_
              refine w_t (pc := 79) (e_s := (7, 1, 0, 0, 0, .null, [])) (y_s := (80, [some (.ref _), some (.ref _), some (.int _), some (.int _), some (.int _)], [.int (_ + _), .ref _], _)) rfl (u_ rfl) ?_
              refine w21 (pc := 80) (len_s := 3) rfl ?_
              refine w_t (pc := 83) (e_s := (1, 1, 3, 0, 0, .null, [])) (y_s := (84, [some (.ref _), some (.ref _), some (.int _), some (.int _), some (.int _)], [.int _], _)) rfl (u_ rfl) ?_
              refine w_t (pc := 84) (e_s := (0, 2, 0, 0, 0, .int 40, [])) (y_s := (86, [some (.ref _), some (.ref _), some (.int _), some (.int _), some (.int _)], [.int _, .int _], _)) rfl (u_ rfl) ?_
              refine wi1 (pc := 86) (len_s := 3) (Y := 40) rfl rfl (by decide) (fun c22 => ?_) (fun c22 => ?_)
              · exact absurd c22 c6
              · skip
                refine w_t (pc := 116) (e_s := (3, 1, 0, 0, 0, .null, [])) (y_s := (117, [some (.ref _), some (.ref _), some (.int _), some (.int _), some (.int _)], [.ref _], _)) rfl (u_ rfl) ?_
                refine w_t (pc := 117) (e_s := (3, 1, 1, 0, 0, .null, [])) (y_s := (118, [some (.ref _), some (.ref _), some (.int _), some (.int _), some (.int _)], [.ref _, .ref _], _)) rfl (u_ rfl) ?_
                refine w_t (pc := 118) (e_s := (1, 1, 2, 0, 0, .null, [])) (y_s := (119, [some (.ref _), some (.ref _), some (.int _), some (.int _), some (.int _)], [.int _, .ref _, .ref _], _)) rfl (u_ rfl) ?_
                refine w_t (pc := 119) (e_s := (0, 1, 0, 0, 0, .int 1, [])) (y_s := (120, [some (.ref _), some (.ref _), some (.int _), some (.int _), some (.int _)], [.int _, .int _, .ref _, .ref _], _)) rfl (u_ rfl) ?_
                refine w_t (pc := 120) (e_s := (7, 1, 0, 0, 0, .null, [])) (y_s := (121, [some (.ref _), some (.ref _), some (.int _), some (.int _), some (.int _)], [.int (_ + _), .ref _, .ref _], _)) rfl (u_ rfl) ?_
                refine wcI (pc := 121) (len_s := 3) rfl rfl (l := [some (.ref _), some (.ref _), some (.int _), none, none]) rfl (wmI t (fun v23 h23 hk t => ?_))
                replace t := t hk
                refine wq1 (pc := 124) (len_s := 3) rfl rfl (fun c24 => ?_) (fun c24 => ?_)
                · replace t := t.1 c24
                  refine w_t (pc := 127) (e_s := (0, 1, 0, 0, 0, .int 0, [])) (y_s := (128, [some (.ref _), some (.ref _), some (.int _), some (.int _), some (.int _)], [.int _], _)) rfl (u_ rfl) ?_
                  exact wrI (pc := 128) (len_s := 1) rfl hk t
                · replace t := t.2 c24
                  refine w_t (pc := 129) (e_s := (3, 1, 1, 0, 0, .null, [])) (y_s := (130, [some (.ref _), some (.ref _), some (.int _), some (.int _), some (.int _)], [.ref _], _)) rfl (u_ rfl) ?_
                  refine w_t (pc := 130) (e_s := (1, 1, 3, 0, 0, .null, [])) (y_s := (131, [some (.ref _), some (.ref _), some (.int _), some (.int _), some (.int _)], [.int _, .ref _], _)) rfl (u_ rfl) ?_
                  refine w_t (pc := 131) (e_s := (0, 2, 0, 0, 0, .int 33, [])) (y_s := (133, [some (.ref _), some (.ref _), some (.int _), some (.int _), some (.int _)], [.int _, .int _, .ref _], _)) rfl (u_ rfl) ?_
                  refine wi1 (pc := 133) (len_s := 3) (Y := 33) rfl rfl (by decide) (fun c25 => ?_) (fun c25 => ?_)
                  · exact absurd c25 c13
                  · skip
                    refine w_t (pc := 141) (e_s := (0, 2, 0, 0, 0, .int 126, [])) (y_s := (143, [some (.ref _), some (.ref _), some (.int _), some (.int _), some (.int _)], [.int _, .ref _], _)) rfl (u_ rfl) ?_
                    refine wcV (pc := 143) (len_s := 3) rfl rfl (l := [some (.ref _), some (.int _)]) rfl (wmV t (fun h26 hk t => ?_))
                    replace t := t hk
                    refine w_t (pc := 146) (e_s := (0, 1, 0, 0, 0, .int 1, [])) (y_s := (147, [some (.ref _), some (.ref _), some (.int _), some (.int _), some (.int _)], [.int _], _)) rfl (u_ rfl) ?_
                    exact wrI (pc := 147) (len_s := 1) rfl hk t
            · replace t := t.2 c21
              refine w_t (pc := 71) (e_s := (0, 1, 0, 0, 0, .int 0, [])) (y_s := (72, [some (.ref _), some (.ref _), some (.int _), some (.int _), some (.int _)], [.int _], _)) rfl (u_ rfl) ?_
              exact wrI (pc := 72) (len_s := 1) rfl hk t
          · replace t := t.2 c20
            refine w_t (pc := 71) (e_s := (0, 1, 0, 0, 0, .int 0, [])) (y_s := (72, [some (.ref _), some (.ref _), some (.int _), some (.int _), some (.int _)], [.int _], _)) rfl (u_ rfl) ?_
            exact wrI (pc := 72) (len_s := 1) rfl hk t
    · replace t := t.2 c5
      refine w_t (pc := 29) (e_s := (3, 1, 1, 0, 0, .null, [])) (y_s := (30, [some (.ref _), some (.ref _), some (.int _), some (.int _), some (.int _)], [.ref _], _)) rfl (u_ rfl) ?_
      refine w_t (pc := 30) (e_s := (1, 2, 4, 0, 0, .null, [])) (y_s := (32, [some (.ref _), some (.ref _), some (.int _), some (.int _), some (.int _)], [.int _, .ref _], _)) rfl (u_ rfl) ?_
      refine wcV (pc := 32) (len_s := 3) rfl rfl (l := [some (.ref _), some (.int _)]) rfl (wmV t (fun h27 hk t => ?_))
      replace t := t hk
      refine w_t (pc := 35) (e_s := (3, 1, 0, 0, 0, .null, [])) (y_s := (36, [some (.ref _), some (.ref _), some (.int _), some (.int _), some (.int _)], [.ref _], _)) rfl (u_ rfl) ?_
      refine w_t (pc := 36) (e_s := (39, 1, 0, 0, 0, .null, [])) (y_s := (37, [some (.ref _), some (.ref _), some (.int _), some (.int _), some (.int _)], [.ref _, .ref _], _)) rfl (u_ rfl) ?_
      refine w20 (pc := 37) (len_s := 3) rfl ?_
      refine w_t (pc := 40) (e_s := (0, 1, 0, 0, 0, .int 1, [])) (y_s := (41, [some (.ref _), some (.ref _), some (.int _), some (.int _), some (.int _)], [.int _, .int _, .ref _], _)) rfl (u_ rfl) ?_
      refine w_t (pc := 41) (e_s := (7, 1, 0, 0, 0, .null, [])) (y_s := (42, [some (.ref _), some (.ref _), some (.int _), some (.int _), some (.int _)], [.int (_ + _), .ref _], _)) rfl (u_ rfl) ?_
      refine w21 (pc := 42) (len_s := 3) rfl ?_
      refine w_t (pc := 45) (e_s := (0, 1, 0, 0, 0, .int 1, [])) (y_s := (46, [some (.ref _), some (.ref _), some (.int _), some (.int _), some (.int _)], [.int _], _)) rfl (u_ rfl) ?_
      exact wrI (pc := 46) (len_s := 1) rfl hk t
  · replace t := t.2 c3
    refine w_t (pc := 12) (e_s := (3, 1, 0, 0, 0, .null, [])) (y_s := (13, [some (.ref _), some (.ref _), some (.int _), some (.int _), none], [.ref _], _)) rfl (u_ rfl) ?_
    refine w_t (pc := 13) (e_s := (3, 1, 1, 0, 0, .null, [])) (y_s := (14, [some (.ref _), some (.ref _), some (.int _), some (.int _), none], [.ref _, .ref _], _)) rfl (u_ rfl) ?_
    refine wcI (pc := 14) (len_s := 3) rfl rfl (l := [some (.ref _), some (.ref _), none, none]) rfl (wmI t (fun v28 h28 hk t => ?_))
    replace t := t hk
    exact wrI (pc := 17) (len_s := 1) rfl hk t
/-- ColdShod$LawText.readLevel(LColdShod$LawCode;II)Z, from 0 on -/
theorem sg_65_0 {F : Nat} {q : Nat} {x2 x3 : Int32} {h : zH} {K : Int32 → zH → Prop} (hm : q = 14 ∨ q = 17) (hk : hKn h) (t : (x2.toInt < 5 → wF F 65 (0, [some (.ref 40), some (.ref q), some (.int (x2 + 1)), some (.int x3), none, none, none], [], h) (gI (fun v2 h2 => hKn h2 → (v2.toInt = 0 → K 0 h2) ∧ (¬ v2.toInt = 0 → ((x2.toInt = 2 → wF F 65 (42, [some (.ref 40), some (.ref q), some (.int x2), some (.int x3), some (.int 1), some (.int 0), none], [], h2) (gI K)) ∧ (¬ x2.toInt = 2 → wF F 65 (42, [some (.ref 40), some (.ref q), some (.int x2), some (.int x3), some (.int 120), some (.int 0), none], [], h2) (gI K))))))) ∧ (¬ x2.toInt < 5 → wF F 66 (0, [some (.ref 40), some (.ref q), some (.int x3), none, none], [], h) (gI (fun v5 h5 => hKn h5 → K v5 h5)))) : wF (F + 1) 65 (0, [some (.ref 40), some (.ref q), some (.int x2), some (.int x3), none, none, none], [], h) (gI K) := by
  refine w_0 (pc := 0) (e_s := (1, 1, 2, 0, 0, .null, [])) (y_s := (1, [some (.ref _), some (.ref _), some (.int _), some (.int _), none, none, none], [.int _], _)) rfl (u_ rfl) ?_
  refine w_t (pc := 1) (e_s := (0, 1, 0, 0, 0, .int 5, [])) (y_s := (2, [some (.ref _), some (.ref _), some (.int _), some (.int _), none, none, none], [.int _, .int _], _)) rfl (u_ rfl) ?_
  refine wi2 (pc := 2) (len_s := 3) (Y := 5) rfl rfl (by decide) (fun c1 => ?_) (fun c1 => ?_)
  · replace t := t.1 c1
    refine w_t (pc := 12) (e_s := (3, 1, 0, 0, 0, .null, [])) (y_s := (13, [some (.ref _), some (.ref _), some (.int _), some (.int _), none, none, none], [.ref _], _)) rfl (u_ rfl) ?_
    refine w_t (pc := 13) (e_s := (3, 1, 1, 0, 0, .null, [])) (y_s := (14, [some (.ref _), some (.ref _), some (.int _), some (.int _), none, none, none], [.ref _, .ref _], _)) rfl (u_ rfl) ?_
    refine w_t (pc := 14) (e_s := (1, 1, 2, 0, 0, .null, [])) (y_s := (15, [some (.ref _), some (.ref _), some (.int _), some (.int _), none, none, none], [.int _, .ref _, .ref _], _)) rfl (u_ rfl) ?_
    refine w_t (pc := 15) (e_s := (0, 1, 0, 0, 0, .int 1, [])) (y_s := (16, [some (.ref _), some (.ref _), some (.int _), some (.int _), none, none, none], [.int _, .int _, .ref _, .ref _], _)) rfl (u_ rfl) ?_
    refine w_t (pc := 16) (e_s := (7, 1, 0, 0, 0, .null, [])) (y_s := (17, [some (.ref _), some (.ref _), some (.int _), some (.int _), none, none, none], [.int (_ + _), .ref _, .ref _], _)) rfl (u_ rfl) ?_
    refine w_t (pc := 17) (e_s := (1, 1, 3, 0, 0, .null, [])) (y_s := (18, [some (.ref _), some (.ref _), some (.int _), some (.int _), none, none, none], [.int _, .int _, .ref _, .ref _], _)) rfl (u_ rfl) ?_
    refine wcI (pc := 18) (len_s := 3) rfl rfl (l := [some (.ref _), some (.ref _), some (.int _), some (.int _), none, none, none]) rfl (wmI t (fun v2 h2 hk t => ?_))
    replace t := t hk
    refine wq1 (pc := 21) (len_s := 3) rfl rfl (fun c3 => ?_) (fun c3 => ?_)
    · replace t := t.1 c3
      refine w_t (pc := 24) (e_s := (0, 1, 0, 0, 0, .int 0, [])) (y_s := (25, [some (.ref _), some (.ref _), some (.int _), some (.int _), none, none, none], [.int _], _)) rfl (u_ rfl) ?_
      exact wrI (pc := 25) (len_s := 1) rfl hk t
    · replace t := t.2 c3
      refine w_t (pc := 26) (e_s := (1, 1, 2, 0, 0, .null, [])) (y_s := (27, [some (.ref _), some (.ref _), some (.int _), some (.int _), none, none, none], [.int _], _)) rfl (u_ rfl) ?_
      refine w_t (pc := 27) (e_s := (0, 1, 0, 0, 0, .int 2, [])) (y_s := (28, [some (.ref _), some (.ref _), some (.int _), some (.int _), none, none, none], [.int _, .int _], _)) rfl (u_ rfl) ?_
      refine wi1 (pc := 28) (len_s := 3) (Y := 2) rfl rfl (by decide) (fun c4 => ?_) (fun c4 => ?_)
      · replace t := t.1 c4
        refine w_t (pc := 31) (e_s := (0, 1, 0, 0, 0, .int 1, [])) (y_s := (32, [some (.ref _), some (.ref _), some (.int _), some (.int _), none, none, none], [.int _], _)) rfl (u_ rfl) ?_
        refine w_t (pc := 32) (e_s := (17, 3, 37, 0, 0, .null, [])) (y_s := (37, [some (.ref _), some (.ref _), some (.int _), some (.int _), none, none, none], [.int _], _)) rfl (u_ rfl) ?_
        refine w_t (pc := 37) (e_s := (4, 2, 4, 0, 0, .null, [])) (y_s := (39, [some (.ref _), some (.ref _), some (.int _), some (.int _), some (.int _), none, none], [], _)) rfl (u_ rfl) ?_
        refine w_t (pc := 39) (e_s := (0, 1, 0, 0, 0, .int 0, [])) (y_s := (40, [some (.ref _), some (.ref _), some (.int _), some (.int _), some (.int _), none, none], [.int _], _)) rfl (u_ rfl) ?_
        refine w_t (pc := 40) (e_s := (4, 2, 5, 0, 0, .null, [])) (y_s := (42, [some (.ref _), some (.ref _), some (.int _), some (.int _), some (.int _), some (.int _), none], [], _)) rfl (u_ rfl) ?_
        exact t
      · replace t := t.2 c4
        refine w_t (pc := 35) (e_s := (0, 2, 0, 0, 0, .int 120, [])) (y_s := (37, [some (.ref _), some (.ref _), some (.int _), some (.int _), none, none, none], [.int _], _)) rfl (u_ rfl) ?_
        refine w_t (pc := 37) (e_s := (4, 2, 4, 0, 0, .null, [])) (y_s := (39, [some (.ref _), some (.ref _), some (.int _), some (.int _), some (.int _), none, none], [], _)) rfl (u_ rfl) ?_
        refine w_t (pc := 39) (e_s := (0, 1, 0, 0, 0, .int 0, [])) (y_s := (40, [some (.ref _), some (.ref _), some (.int _), some (.int _), some (.int _), none, none], [.int _], _)) rfl (u_ rfl) ?_
        refine w_t (pc := 40) (e_s := (4, 2, 5, 0, 0, .null, [])) (y_s := (42, [some (.ref _), some (.ref _), some (.int _), some (.int _), some (.int _), some (.int _), none], [], _)) rfl (u_ rfl) ?_
        exact t
  · replace t := t.2 c1
    refine w_t (pc := 5) (e_s := (3, 1, 0, 0, 0, .null, [])) (y_s := (6, [some (.ref _), some (.ref _), some (.int _), some (.int _), none, none, none], [.ref _], _)) rfl (u_ rfl) ?_
    refine w_t (pc := 6) (e_s := (3, 1, 1, 0, 0, .null, [])) (y_s := (7, [some (.ref _), some (.ref _), some (.int _), some (.int _), none, none, none], [.ref _, .ref _], _)) rfl (u_ rfl) ?_
    refine w_t (pc := 7) (e_s := (1, 1, 3, 0, 0, .null, [])) (y_s := (8, [some (.ref _), some (.ref _), some (.int _), some (.int _), none, none, none], [.int _, .ref _, .ref _], _)) rfl (u_ rfl) ?_
    refine wcI (pc := 8) (len_s := 3) rfl rfl (l := [some (.ref _), some (.ref _), some (.int _), none, none]) rfl (wmI t (fun v5 h5 hk t => ?_))
    replace t := t hk
    exact wrI (pc := 11) (len_s := 1) rfl hk t
/-- ColdShod$LawText.readLevel(LColdShod$LawCode;II)Z, from 42 on -/
theorem sg_65_42 {F : Nat} {q : Nat} {x2 x3 x4 x5 : Int32} {l6 : Option Value} {h : zH} {K : Int32 → zH → Prop} (hm : q = 14 ∨ q = 17) (hk : hKn h) (t : (x5.toInt < x4.toInt → wF F 68 (0, [some (.ref 40)], [], h) (gI (fun v2 h2 => hKn h2 → wF F 72 (0, [some (.int v2)], [], h2) (gI (fun v3 h3 => hKn h3 → (v3.toInt = x2.toInt → wF F 65 (0, [some (.ref 40), some (.ref q), some (.int (x2 + 1)), some (.int x3), none, none, none], [], (h3.1, zup h3.2.1 40 2 ((h3.2.1 40 2) + 1), h3.2.2.1, h3.2.2.2)) (gI (fun v5 h5 => hKn h5 → (v5.toInt = 0 → K 0 h5) ∧ (¬ v5.toInt = 0 → wF F 54 (0, [some (.ref q), some (.int v2)], [], h5) (gV (fun h7 => hKn h7 → wF F 65 (42, [some (.ref 40), some (.ref q), some (.int x2), some (.int x3), some (.int x4), some (.int (x5 + 1)), some (.int v2)], [], h7) (gI K))))))) ∧ (¬ v3.toInt = x2.toInt → K 1 h3)))))) ∧ (¬ x5.toInt < x4.toInt → K 1 h)) : wF (F + 1) 65 (42, [some (.ref 40), some (.ref q), some (.int x2), some (.int x3), some (.int x4), some (.int x5), l6], [], h) (gI K) := by
  refine w_0 (pc := 42) (e_s := (1, 2, 5, 0, 0, .null, [])) (y_s := (44, [some (.ref _), some (.ref _), some (.int _), some (.int _), some (.int _), some (.int _), _], [.int _], _)) rfl (u_ rfl) ?_
  refine w_t (pc := 44) (e_s := (1, 2, 4, 0, 0, .null, [])) (y_s := (46, [some (.ref _), some (.ref _), some (.int _), some (.int _), some (.int _), some (.int _), _], [.int _, .int _], _)) rfl (u_ rfl) ?_
  refine wi3 (pc := 46) (len_s := 3) rfl rfl rfl (fun c1 => ?_) (fun c1 => ?_)
  · replace t := t.1 c1
    refine w_t (pc := 49) (e_s := (3, 1, 0, 0, 0, .null, [])) (y_s := (50, [some (.ref _), some (.ref _), some (.int _), some (.int _), some (.int _), some (.int _), _], [.ref _], _)) rfl (u_ rfl) ?_
    refine wcI (pc := 50) (len_s := 3) rfl rfl (l := [some (.ref _)]) rfl (wmI t (fun v2 h2 hk t => ?_))
    replace t := t hk
    refine w_t (pc := 53) (e_s := (4, 2, 6, 0, 0, .null, [])) (y_s := (55, [some (.ref _), some (.ref _), some (.int _), some (.int _), some (.int _), some (.int _), some (.int _)], [], _)) rfl (u_ rfl) ?_
    refine w_t (pc := 55) (e_s := (1, 2, 6, 0, 0, .null, [])) (y_s := (57, [some (.ref _), some (.ref _), some (.int _), some (.int _), some (.int _), some (.int _), some (.int _)], [.int _], _)) rfl (u_ rfl) ?_
    refine wcI (pc := 57) (len_s := 3) rfl rfl (l := [some (.int _)]) rfl (wmI t (fun v3 h3 hk t => ?_))
    replace t := t hk
    refine w_t (pc := 60) (e_s := (1, 1, 2, 0, 0, .null, [])) (y_s := (61, [some (.ref _), some (.ref _), some (.int _), some (.int _), some (.int _), some (.int _), some (.int _)], [.int _, .int _], _)) rfl (u_ rfl) ?_
    refine wi0 (pc := 61) (len_s := 3) rfl rfl rfl (fun c4 => ?_) (fun c4 => ?_)
    · replace t := t.1 c4
      refine w_t (pc := 66) (e_s := (3, 1, 0, 0, 0, .null, [])) (y_s := (67, [some (.ref _), some (.ref _), some (.int _), some (.int _), some (.int _), some (.int _), some (.int _)], [.ref _], _)) rfl (u_ rfl) ?_
      refine w_t (pc := 67) (e_s := (39, 1, 0, 0, 0, .null, [])) (y_s := (68, [some (.ref _), some (.ref _), some (.int _), some (.int _), some (.int _), some (.int _), some (.int _)], [.ref _, .ref _], _)) rfl (u_ rfl) ?_
      refine w20 (pc := 68) (len_s := 3) rfl ?_
      refine w_t (pc := 71) (e_s := (0, 1, 0, 0, 0, .int 1, [])) (y_s := (72, [some (.ref _), some (.ref _), some (.int _), some (.int _), some (.int _), some (.int _), some (.int _)], [.int _, .int _, .ref _], _)) rfl (u_ rfl) ?_
      refine w_t (pc := 72) (e_s := (7, 1, 0, 0, 0, .null, [])) (y_s := (73, [some (.ref _), some (.ref _), some (.int _), some (.int _), some (.int _), some (.int _), some (.int _)], [.int (_ + _), .ref _], _)) rfl (u_ rfl) ?_
      refine w21 (pc := 73) (len_s := 3) rfl ?_
      refine w_t (pc := 76) (e_s := (3, 1, 0, 0, 0, .null, [])) (y_s := (77, [some (.ref _), some (.ref _), some (.int _), some (.int _), some (.int _), some (.int _), some (.int _)], [.ref _], _)) rfl (u_ rfl) ?_
      refine w_t (pc := 77) (e_s := (3, 1, 1, 0, 0, .null, [])) (y_s := (78, [some (.ref _), some (.ref _), some (.int _), some (.int _), some (.int _), some (.int _), some (.int _)], [.ref _, .ref _], _)) rfl (u_ rfl) ?_
      refine w_t (pc := 78) (e_s := (1, 1, 2, 0, 0, .null, [])) (y_s := (79, [some (.ref _), some (.ref _), some (.int _), some (.int _), some (.int _), some (.int _), some (.int _)], [.int _, .ref _, .ref _], _)) rfl (u_ rfl) ?_
      refine w_t (pc := 79) (e_s := (0, 1, 0, 0, 0, .int 1, [])) (y_s := (80, [some (.ref _), some (.ref _), some (.int _), some (.int _), some (.int _), some (.int _), some (.int _)], [.int _, .int _, .ref _, .ref _], _)) rfl (u_ rfl) ?_
      refine w_t (pc := 80) (e_s := (7, 1, 0, 0, 0, .null, [])) (y_s := (81, [some (.ref _), some (.ref _), some (.int _), some (.int _), some (.int _), some (.int _), some (.int _)], [.int (_ + _), .ref _, .ref _], _)) rfl (u_ rfl) ?_
      refine w_t (pc := 81) (e_s := (1, 1, 3, 0, 0, .null, [])) (y_s := (82, [some (.ref _), some (.ref _), some (.int _), some (.int _), some (.int _), some (.int _), some (.int _)], [.int _, .int _, .ref _, .ref _], _)) rfl (u_ rfl) ?_
      refine wcI (pc := 82) (len_s := 3) rfl rfl (l := [some (.ref _), some (.ref _), some (.int _), some (.int _), none, none, none]) rfl (wmI t (fun v5 h5 hk t => ?_))
      replace t := t hk
      refine wq1 (pc := 85) (len_s := 3) rfl rfl (fun c6 => ?_) (fun c6 => ?_)
      · replace t := t.1 c6
        refine w_t (pc := 88) (e_s := (0, 1, 0, 0, 0, .int 0, [])) (y_s := (89, [some (.ref _), some (.ref _), some (.int _), some (.int _), some (.int _), some (.int _), some (.int _)], [.int _], _)) rfl (u_ rfl) ?_
        exact wrI (pc := 89) (len_s := 1) rfl hk t
      · replace t := t.2 c6
        refine w_t (pc := 90) (e_s := (3, 1, 1, 0, 0, .null, [])) (y_s := (91, [some (.ref _), some (.ref _), some (.int _), some (.int _), some (.int _), some (.int _), some (.int _)], [.ref _], _)) rfl (u_ rfl) ?_
        refine w_t (pc := 91) (e_s := (1, 2, 6, 0, 0, .null, [])) (y_s := (93, [some (.ref _), some (.ref _), some (.int _), some (.int _), some (.int _), some (.int _), some (.int _)], [.int _, .ref _], _)) rfl (u_ rfl) ?_
        refine wcV (pc := 93) (len_s := 3) rfl rfl (l := [some (.ref _), some (.int _)]) rfl (wmV t (fun h7 hk t => ?_))
        replace t := t hk
        refine w_t (pc := 96) (e_s := (19, 3, 5, 0, 0, .int 1, [])) (y_s := (99, [some (.ref _), some (.ref _), some (.int _), some (.int _), some (.int _), some (.int _), some (.int _)], [], _)) rfl (u_ rfl) ?_
        refine w_t (pc := 99) (e_s := (17, 3, 42, 0, 0, .null, [])) (y_s := (42, [some (.ref _), some (.ref _), some (.int _), some (.int _), some (.int _), some (.int _), some (.int _)], [], _)) rfl (u_ rfl) ?_
        exact t
    · replace t := t.2 c4
      refine w_t (pc := 64) (e_s := (0, 1, 0, 0, 0, .int 1, [])) (y_s := (65, [some (.ref _), some (.ref _), some (.int _), some (.int _), some (.int _), some (.int _), some (.int _)], [.int _], _)) rfl (u_ rfl) ?_
      exact wrI (pc := 65) (len_s := 1) rfl hk t
  · replace t := t.2 c1
    refine w_t (pc := 102) (e_s := (0, 1, 0, 0, 0, .int 1, [])) (y_s := (103, [some (.ref _), some (.ref _), some (.int _), some (.int _), some (.int _), some (.int _), _], [.int _], _)) rfl (u_ rfl) ?_
    exact wrI (pc := 103) (len_s := 1) rfl hk t
/-- ColdShod$LawText.readLine(LColdShod$LawCode;)Z, from 0 on -/
theorem sg_64_0 {F : Nat} {q : Nat} {h : zH} {K : Int32 → zH → Prop} (hm : q = 14 ∨ q = 17) (hk : hKn h) (t : wF F 65 (0, [some (.ref 40), some (.ref q), some (.int 0), some (.int 0), none, none, none], [], h) (gI (fun v1 h1 => hKn h1 → (v1.toInt = 0 → K 0 h1) ∧ (¬ v1.toInt = 0 → wF F 69 (0, [some (.ref 40), some (.int 63)], [], h1) (gI (fun v3 h3 => hKn h3 → (v3.toInt = 0 → wF F 54 (0, [some (.ref q), some (.int 59)], [], h3) (gV (fun h5 => hKn h5 → K 1 h5))) ∧ (¬ v3.toInt = 0 → wF F 56 (0, [some (.ref q)], [], h3) (gI (fun v6 h6 => hKn h6 → wF F 65 (0, [some (.ref 40), some (.ref q), some (.int 0), some (.int 0), none, none, none], [], h6) (gI (fun v7 h7 => hKn h7 → (v7.toInt = 0 → K 0 h7) ∧ (¬ v7.toInt = 0 → wF F 54 (0, [some (.ref q), some (.int 59)], [], h7) (gV (fun h9 => hKn h9 → wF F 57 (0, [some (.ref q), some (.int v6)], [], h9) (gV (fun h10 => hKn h10 → K 1 h10)))))))))))))))) : wF (F + 1) 64 (0, [some (.ref 40), some (.ref q), none], [], h) (gI K) := by
  refine w_0 (pc := 0) (e_s := (3, 1, 0, 0, 0, .null, [])) (y_s := (1, [some (.ref _), some (.ref _), none], [.ref _], _)) rfl (u_ rfl) ?_
  refine w_t (pc := 1) (e_s := (3, 1, 1, 0, 0, .null, [])) (y_s := (2, [some (.ref _), some (.ref _), none], [.ref _, .ref _], _)) rfl (u_ rfl) ?_
  refine w_t (pc := 2) (e_s := (0, 1, 0, 0, 0, .int 0, [])) (y_s := (3, [some (.ref _), some (.ref _), none], [.int _, .ref _, .ref _], _)) rfl (u_ rfl) ?_
  refine w_t (pc := 3) (e_s := (0, 1, 0, 0, 0, .int 0, [])) (y_s := (4, [some (.ref _), some (.ref _), none], [.int _, .int _, .ref _, .ref _], _)) rfl (u_ rfl) ?_
  refine wcI (pc := 4) (len_s := 3) rfl rfl (l := [some (.ref _), some (.ref _), some (.int _), some (.int _), none, none, none]) rfl (wmI t (fun v1 h1 hk t => ?_))
  replace t := t hk
  refine wq1 (pc := 7) (len_s := 3) rfl rfl (fun c2 => ?_) (fun c2 => ?_)
  · replace t := t.1 c2
    refine w_t (pc := 10) (e_s := (0, 1, 0, 0, 0, .int 0, [])) (y_s := (11, [some (.ref _), some (.ref _), none], [.int _], _)) rfl (u_ rfl) ?_
    exact wrI (pc := 11) (len_s := 1) rfl hk t
  · replace t := t.2 c2
    refine w_t (pc := 12) (e_s := (3, 1, 0, 0, 0, .null, [])) (y_s := (13, [some (.ref _), some (.ref _), none], [.ref _], _)) rfl (u_ rfl) ?_
    refine w_t (pc := 13) (e_s := (0, 2, 0, 0, 0, .int 63, [])) (y_s := (15, [some (.ref _), some (.ref _), none], [.int _, .ref _], _)) rfl (u_ rfl) ?_
    refine wcI (pc := 15) (len_s := 3) rfl rfl (l := [some (.ref _), some (.int _)]) rfl (wmI t (fun v3 h3 hk t => ?_))
    replace t := t hk
    refine wq1 (pc := 18) (len_s := 3) rfl rfl (fun c4 => ?_) (fun c4 => ?_)
    · replace t := t.1 c4
      refine w_t (pc := 21) (e_s := (3, 1, 1, 0, 0, .null, [])) (y_s := (22, [some (.ref _), some (.ref _), none], [.ref _], _)) rfl (u_ rfl) ?_
      refine w_t (pc := 22) (e_s := (0, 2, 0, 0, 0, .int 59, [])) (y_s := (24, [some (.ref _), some (.ref _), none], [.int _, .ref _], _)) rfl (u_ rfl) ?_
      refine wcV (pc := 24) (len_s := 3) rfl rfl (l := [some (.ref _), some (.int _)]) rfl (wmV t (fun h5 hk t => ?_))
      replace t := t hk
      refine w_t (pc := 27) (e_s := (0, 1, 0, 0, 0, .int 1, [])) (y_s := (28, [some (.ref _), some (.ref _), none], [.int _], _)) rfl (u_ rfl) ?_
      exact wrI (pc := 28) (len_s := 1) rfl hk t
    · replace t := t.2 c4
      refine w_t (pc := 29) (e_s := (3, 1, 1, 0, 0, .null, [])) (y_s := (30, [some (.ref _), some (.ref _), none], [.ref _], _)) rfl (u_ rfl) ?_
      refine wcI (pc := 30) (len_s := 3) rfl rfl (l := [some (.ref _)]) rfl (wmI t (fun v6 h6 hk t => ?_))
      replace t := t hk
      refine w_t (pc := 33) (e_s := (4, 1, 2, 0, 0, .null, [])) (y_s := (34, [some (.ref _), some (.ref _), some (.int _)], [], _)) rfl (u_ rfl) ?_
      refine w_t (pc := 34) (e_s := (3, 1, 0, 0, 0, .null, [])) (y_s := (35, [some (.ref _), some (.ref _), some (.int _)], [.ref _], _)) rfl (u_ rfl) ?_
      refine w_t (pc := 35) (e_s := (3, 1, 1, 0, 0, .null, [])) (y_s := (36, [some (.ref _), some (.ref _), some (.int _)], [.ref _, .ref _], _)) rfl (u_ rfl) ?_
      refine w_t (pc := 36) (e_s := (0, 1, 0, 0, 0, .int 0, [])) (y_s := (37, [some (.ref _), some (.ref _), some (.int _)], [.int _, .ref _, .ref _], _)) rfl (u_ rfl) ?_
      refine w_t (pc := 37) (e_s := (0, 1, 0, 0, 0, .int 0, [])) (y_s := (38, [some (.ref _), some (.ref _), some (.int _)], [.int _, .int _, .ref _, .ref _], _)) rfl (u_ rfl) ?_
      refine wcI (pc := 38) (len_s := 3) rfl rfl (l := [some (.ref _), some (.ref _), some (.int _), some (.int _), none, none, none]) rfl (wmI t (fun v7 h7 hk t => ?_))
      replace t := t hk
      refine wq1 (pc := 41) (len_s := 3) rfl rfl (fun c8 => ?_) (fun c8 => ?_)
      · replace t := t.1 c8
        refine w_t (pc := 44) (e_s := (0, 1, 0, 0, 0, .int 0, [])) (y_s := (45, [some (.ref _), some (.ref _), some (.int _)], [.int _], _)) rfl (u_ rfl) ?_
        exact wrI (pc := 45) (len_s := 1) rfl hk t
      · replace t := t.2 c8
        refine w_t (pc := 46) (e_s := (3, 1, 1, 0, 0, .null, [])) (y_s := (47, [some (.ref _), some (.ref _), some (.int _)], [.ref _], _)) rfl (u_ rfl) ?_
        refine w_t (pc := 47) (e_s := (0, 2, 0, 0, 0, .int 59, [])) (y_s := (49, [some (.ref _), some (.ref _), some (.int _)], [.int _, .ref _], _)) rfl (u_ rfl) ?_
        refine wcV (pc := 49) (len_s := 3) rfl rfl (l := [some (.ref _), some (.int _)]) rfl (wmV t (fun h9 hk t => ?_))
        replace t := t hk
        refine w_t (pc := 52) (e_s := (3, 1, 1, 0, 0, .null, [])) (y_s := (53, [some (.ref _), some (.ref _), some (.int _)], [.ref _], _)) rfl (u_ rfl) ?_
        refine w_t (pc := 53) (e_s := (1, 1, 2, 0, 0, .null, [])) (y_s := (54, [some (.ref _), some (.ref _), some (.int _)], [.int _, .ref _], _)) rfl (u_ rfl) ?_
        refine wcV (pc := 54) (len_s := 3) rfl rfl (l := [some (.ref _), some (.int _)]) rfl (wmV t (fun h10 hk t => ?_))
        replace t := t hk
        refine w_t (pc := 57) (e_s := (0, 1, 0, 0, 0, .int 1, [])) (y_s := (58, [some (.ref _), some (.ref _), some (.int _)], [.int _], _)) rfl (u_ rfl) ?_
        exact wrI (pc := 58) (len_s := 1) rfl hk t
/-- ColdShod$LawText.readInto(LColdShod$LawCode;)I, from 0 on -/
theorem sg_63_0 {F : Nat} {q : Nat} {h : zH} {K : Int32 → zH → Prop} (hm : q = 14 ∨ q = 17) (hk : hKn h) (t : wF F 63 (11, [some (.ref 40), some (.ref q), some (.int 0)], [], (h.1, zup (zup (zup h.2.1 q 2 0) q 0 0) 40 2 0, h.2.2.1, h.2.2.2)) (gI K)) : wF (F + 1) 63 (0, [some (.ref 40), some (.ref q), none], [], h) (gI K) := by
  refine w_0 (pc := 0) (e_s := (3, 1, 1, 0, 0, .null, [])) (y_s := (1, [some (.ref _), some (.ref _), none], [.ref _], _)) rfl (u_ rfl) ?_
  refine wcV (pc := 1) (len_s := 3) rfl rfl (l := [some (.ref _)]) rfl ?_
  refine w_t (pc := 0) (e_s := (3, 1, 0, 0, 0, .null, [])) (y_s := (1, [some (.ref _)], [.ref _], _)) rfl (u_ rfl) ?_
  refine w_t (pc := 1) (e_s := (0, 1, 0, 0, 0, .int 0, [])) (y_s := (2, [some (.ref _)], [.int _, .ref _], _)) rfl (u_ rfl) ?_
  refine w21 (pc := 2) (len_s := 3) rfl ?_
  refine w_t (pc := 5) (e_s := (3, 1, 0, 0, 0, .null, [])) (y_s := (6, [some (.ref _)], [.ref _], _)) rfl (u_ rfl) ?_
  refine w_t (pc := 6) (e_s := (0, 1, 0, 0, 0, .int 0, [])) (y_s := (7, [some (.ref _)], [.int _, .ref _], _)) rfl (u_ rfl) ?_
  refine w21b (pc := 7) (len_s := 3) rfl ?_
  refine wrV (pc := 10) (len_s := 1) rfl hk ?_
  show wF _ 63 (4, [some (.ref _), some (.ref _), none], [], _) _
  refine w_t (pc := 4) (e_s := (3, 1, 0, 0, 0, .null, [])) (y_s := (5, [some (.ref _), some (.ref _), none], [.ref _], _)) rfl (u_ rfl) ?_
  refine w_t (pc := 5) (e_s := (0, 1, 0, 0, 0, .int 0, [])) (y_s := (6, [some (.ref _), some (.ref _), none], [.int _, .ref _], _)) rfl (u_ rfl) ?_
  refine w21 (pc := 6) (len_s := 3) rfl ?_
  refine w_t (pc := 9) (e_s := (0, 1, 0, 0, 0, .int 0, [])) (y_s := (10, [some (.ref _), some (.ref _), none], [.int _], _)) rfl (u_ rfl) ?_
  refine w_t (pc := 10) (e_s := (4, 1, 2, 0, 0, .null, [])) (y_s := (11, [some (.ref _), some (.ref _), some (.int _)], [], _)) rfl (u_ rfl) ?_
  exact t
/-- ColdShod$LawText.readInto(LColdShod$LawCode;)I, from 11 on -/
theorem sg_63_11 {F : Nat} {q : Nat} {x2 : Int32} {h : zH} {K : Int32 → zH → Prop} (hm : q = 14 ∨ q = 17) (hk : hKn h) (t : (120 < x2.toInt → K (h.2.1 40 2) h) ∧ (¬ 120 < x2.toInt → wF F 64 (0, [some (.ref 40), some (.ref q), none], [], h) (gI (fun v2 h2 => hKn h2 → (v2.toInt = 0 → K (h2.2.1 40 2) h2) ∧ (¬ v2.toInt = 0 → (((h2.2.1 40 2).toInt < (h2.2.1 40 1).toInt → wF F 69 (0, [some (.ref 40), some (.int 59)], [], h2) (gI (fun v5 h5 => hKn h5 → (v5.toInt = 0 → K (h5.2.1 40 2) h5) ∧ (¬ v5.toInt = 0 → wF F 63 (11, [some (.ref 40), some (.ref q), some (.int (x2 + 1))], [], h5) (gI K))))) ∧ (¬ (h2.2.1 40 2).toInt < (h2.2.1 40 1).toInt → K (-1) h2))))))) : wF (F + 1) 63 (11, [some (.ref 40), some (.ref q), some (.int x2)], [], h) (gI K) := by
  refine w_0 (pc := 11) (e_s := (1, 1, 2, 0, 0, .null, [])) (y_s := (12, [some (.ref _), some (.ref _), some (.int _)], [.int _], _)) rfl (u_ rfl) ?_
  refine w_t (pc := 12) (e_s := (0, 2, 0, 0, 0, .int 120, [])) (y_s := (14, [some (.ref _), some (.ref _), some (.int _)], [.int _, .int _], _)) rfl (u_ rfl) ?_
  refine wi4 (pc := 14) (len_s := 3) (Y := 120) rfl rfl (by decide) (fun c1 => ?_) (fun c1 => ?_)
  · replace t := t.1 c1
    refine w_t (pc := 63) (e_s := (3, 1, 0, 0, 0, .null, [])) (y_s := (64, [some (.ref _), some (.ref _), some (.int _)], [.ref _], _)) rfl (u_ rfl) ?_
    refine w20 (pc := 64) (len_s := 3) rfl ?_
    exact wrI (pc := 67) (len_s := 1) rfl hk t
  · replace t := t.2 c1
    refine w_t (pc := 17) (e_s := (3, 1, 0, 0, 0, .null, [])) (y_s := (18, [some (.ref _), some (.ref _), some (.int _)], [.ref _], _)) rfl (u_ rfl) ?_
    refine w_t (pc := 18) (e_s := (3, 1, 1, 0, 0, .null, [])) (y_s := (19, [some (.ref _), some (.ref _), some (.int _)], [.ref _, .ref _], _)) rfl (u_ rfl) ?_
    refine wcI (pc := 19) (len_s := 3) rfl rfl (l := [some (.ref _), some (.ref _), none]) rfl (wmI t (fun v2 h2 hk t => ?_))
    replace t := t hk
    refine wq1 (pc := 22) (len_s := 3) rfl rfl (fun c3 => ?_) (fun c3 => ?_)
    · replace t := t.1 c3
      refine w_t (pc := 25) (e_s := (3, 1, 0, 0, 0, .null, [])) (y_s := (26, [some (.ref _), some (.ref _), some (.int _)], [.ref _], _)) rfl (u_ rfl) ?_
      refine w20 (pc := 26) (len_s := 3) rfl ?_
      exact wrI (pc := 29) (len_s := 1) rfl hk t
    · replace t := t.2 c3
      refine w_t (pc := 30) (e_s := (3, 1, 0, 0, 0, .null, [])) (y_s := (31, [some (.ref _), some (.ref _), some (.int _)], [.ref _], _)) rfl (u_ rfl) ?_
      refine w20 (pc := 31) (len_s := 3) rfl ?_
      refine w_t (pc := 34) (e_s := (3, 1, 0, 0, 0, .null, [])) (y_s := (35, [some (.ref _), some (.ref _), some (.int _)], [.ref _, .int _], _)) rfl (u_ rfl) ?_
      refine w20 (pc := 35) (len_s := 3) rfl ?_
      refine wi2 (pc := 38) (len_s := 3) rfl rfl rfl (fun c4 => ?_) (fun c4 => ?_)
      · replace t := t.1 c4
        refine w_t (pc := 43) (e_s := (3, 1, 0, 0, 0, .null, [])) (y_s := (44, [some (.ref _), some (.ref _), some (.int _)], [.ref _], _)) rfl (u_ rfl) ?_
        refine w_t (pc := 44) (e_s := (0, 2, 0, 0, 0, .int 59, [])) (y_s := (46, [some (.ref _), some (.ref _), some (.int _)], [.int _, .ref _], _)) rfl (u_ rfl) ?_
        refine wcI (pc := 46) (len_s := 3) rfl rfl (l := [some (.ref _), some (.int _)]) rfl (wmI t (fun v5 h5 hk t => ?_))
        replace t := t hk
        refine wq1 (pc := 49) (len_s := 3) rfl rfl (fun c6 => ?_) (fun c6 => ?_)
        · replace t := t.1 c6
          refine w_t (pc := 52) (e_s := (3, 1, 0, 0, 0, .null, [])) (y_s := (53, [some (.ref _), some (.ref _), some (.int _)], [.ref _], _)) rfl (u_ rfl) ?_
          refine w20 (pc := 53) (len_s := 3) rfl ?_
          exact wrI (pc := 56) (len_s := 1) rfl hk t
        · replace t := t.2 c6
          refine w_t (pc := 57) (e_s := (19, 3, 2, 0, 0, .int 1, [])) (y_s := (60, [some (.ref _), some (.ref _), some (.int _)], [], _)) rfl (u_ rfl) ?_
          refine w_t (pc := 60) (e_s := (17, 3, 11, 0, 0, .null, [])) (y_s := (11, [some (.ref _), some (.ref _), some (.int _)], [], _)) rfl (u_ rfl) ?_
          exact t
      · replace t := t.2 c4
        refine w_t (pc := 41) (e_s := (0, 1, 0, 0, 0, .int (-1), [])) (y_s := (42, [some (.ref _), some (.ref _), some (.int _)], [.int _], _)) rfl (u_ rfl) ?_
        exact wrI (pc := 42) (len_s := 1) rfl hk t
/-- ColdShod.feed(I)I, from 0 on -/
theorem sg_100_0 {F : Nat} {x1 : Int32} {h : zH} {K : Int32 → zH → Prop} (hk : hKn h) (t : (x1.toInt < 0 → K (-1) h) ∧ (¬ x1.toInt < 0 → ((255 < x1.toInt → K (-1) h) ∧ (¬ 255 < x1.toInt → (((h.2.1 40 1).toInt < 120 → (zix (h.2.1 40 1) < 120 → K ((h.2.1 40 1) + 1) (h.1, zup (zup h.2.1 41 (zix (h.2.1 40 1)) x1) 40 1 ((h.2.1 40 1) + 1), h.2.2.1, h.2.2.2))) ∧ (¬ (h.2.1 40 1).toInt < 120 → K (-3) h)))))) : wF (F + 1) 100 (0, [some (.ref 6), some (.int x1)], [], h) (gI K) := by
  refine w_0 (pc := 0) (e_s := (1, 1, 1, 0, 0, .null, [])) (y_s := (1, [some (.ref _), some (.int _)], [.int _], _)) rfl (u_ rfl) ?_
  refine wq2 (pc := 1) (len_s := 3) rfl rfl (fun c1 => ?_) (fun c1 => ?_)
  · replace t := t.1 c1
    refine w_t (pc := 11) (e_s := (0, 1, 0, 0, 0, .int (-1), [])) (y_s := (12, [some (.ref _), some (.int _)], [.int _], _)) rfl (u_ rfl) ?_
    exact wrI (pc := 12) (len_s := 1) rfl hk t
  · replace t := t.2 c1
    refine w_t (pc := 4) (e_s := (1, 1, 1, 0, 0, .null, [])) (y_s := (5, [some (.ref _), some (.int _)], [.int _], _)) rfl (u_ rfl) ?_
    refine w_t (pc := 5) (e_s := (0, 3, 0, 0, 0, .int 255, [])) (y_s := (8, [some (.ref _), some (.int _)], [.int _, .int _], _)) rfl (u_ rfl) ?_
    refine wi5 (pc := 8) (len_s := 3) (Y := 255) rfl rfl (by decide) (fun c2 => ?_) (fun c2 => ?_)
    · replace t := t.1 c2
      refine w_t (pc := 11) (e_s := (0, 1, 0, 0, 0, .int (-1), [])) (y_s := (12, [some (.ref _), some (.int _)], [.int _], _)) rfl (u_ rfl) ?_
      exact wrI (pc := 12) (len_s := 1) rfl hk t
    · replace t := t.2 c2
      refine w_t (pc := 13) (e_s := (3, 1, 0, 0, 0, .null, [])) (y_s := (14, [some (.ref _), some (.int _)], [.ref _], _)) rfl (u_ rfl) ?_
      refine w20r (pc := 14) (len_s := 3) (q_s := 40) rfl (krq hk rfl) ?_
      refine w_t (pc := 17) (e_s := (1, 1, 1, 0, 0, .null, [])) (y_s := (18, [some (.ref _), some (.int _)], [.int _, .ref _], _)) rfl (u_ rfl) ?_
      refine wcI (pc := 18) (len_s := 3) rfl rfl (l := [some (.ref _), some (.int _)]) rfl ?_
      refine w_t (pc := 0) (e_s := (3, 1, 0, 0, 0, .null, [])) (y_s := (1, [some (.ref _), some (.int _)], [.ref _], _)) rfl (u_ rfl) ?_
      refine w20 (pc := 1) (len_s := 3) rfl ?_
      refine w_t (pc := 4) (e_s := (0, 2, 0, 0, 0, .int 120, [])) (y_s := (6, [some (.ref _), some (.int _)], [.int _, .int _], _)) rfl (u_ rfl) ?_
      refine wi2 (pc := 6) (len_s := 3) (Y := 120) rfl rfl (by decide) (fun c3 => ?_) (fun c3 => ?_)
      · replace t := t.1 c3
        refine w_t (pc := 11) (e_s := (3, 1, 0, 0, 0, .null, [])) (y_s := (12, [some (.ref _), some (.int _)], [.ref _], _)) rfl (u_ rfl) ?_
        refine w20r (pc := 12) (len_s := 3) (q_s := 41) rfl (krq hk rfl) ?_
        refine w_t (pc := 15) (e_s := (3, 1, 0, 0, 0, .null, [])) (y_s := (16, [some (.ref _), some (.int _)], [.ref _, .ref _], _)) rfl (u_ rfl) ?_
        refine w20 (pc := 16) (len_s := 3) rfl ?_
        refine w_t (pc := 19) (e_s := (1, 1, 1, 0, 0, .null, [])) (y_s := (20, [some (.ref _), some (.int _)], [.int _, .int _, .ref _], _)) rfl (u_ rfl) ?_
        refine w25 (pc := 20) (len_s := 1) rfl (hk.1 41 0 120 rfl rfl) (fun c4 => ?_)
        replace t := t c4
        refine w_t (pc := 21) (e_s := (3, 1, 0, 0, 0, .null, [])) (y_s := (22, [some (.ref _), some (.int _)], [.ref _], _)) rfl (u_ rfl) ?_
        refine w_t (pc := 22) (e_s := (39, 1, 0, 0, 0, .null, [])) (y_s := (23, [some (.ref _), some (.int _)], [.ref _, .ref _], _)) rfl (u_ rfl) ?_
        refine w20 (pc := 23) (len_s := 3) rfl ?_
        refine w_t (pc := 26) (e_s := (0, 1, 0, 0, 0, .int 1, [])) (y_s := (27, [some (.ref _), some (.int _)], [.int _, .int _, .ref _], _)) rfl (u_ rfl) ?_
        refine w_t (pc := 27) (e_s := (7, 1, 0, 0, 0, .null, [])) (y_s := (28, [some (.ref _), some (.int _)], [.int (_ + _), .ref _], _)) rfl (u_ rfl) ?_
        refine w21 (pc := 28) (len_s := 3) rfl ?_
        refine w_t (pc := 31) (e_s := (0, 1, 0, 0, 0, .int 1, [])) (y_s := (32, [some (.ref _), some (.int _)], [.int _], _)) rfl (u_ rfl) ?_
        refine wrI (pc := 32) (len_s := 1) rfl hk ?_
        show wF _ 100 (21, [some (.ref _), some (.int _)], [.int _], _) _
        refine w_t (pc := 21) (e_s := (15, 3, 34, 0, 0, .null, [])) (y_s := (24, [some (.ref _), some (.int _)], [], _)) rfl (u_ rfl) ?_
        refine w_t (pc := 24) (e_s := (3, 1, 0, 0, 0, .null, [])) (y_s := (25, [some (.ref _), some (.int _)], [.ref _], _)) rfl (u_ rfl) ?_
        refine w20r (pc := 25) (len_s := 3) (q_s := 40) rfl (krq hk rfl) ?_
        refine w20 (pc := 28) (len_s := 3) rfl ?_
        refine w_t (pc := 31) (e_s := (17, 3, 36, 0, 0, .null, [])) (y_s := (36, [some (.ref _), some (.int _)], [.int _], _)) rfl (u_ rfl) ?_
        exact wrI (pc := 36) (len_s := 1) rfl hk t
      · replace t := t.2 c3
        refine w_t (pc := 9) (e_s := (0, 1, 0, 0, 0, .int 0, [])) (y_s := (10, [some (.ref _), some (.int _)], [.int _], _)) rfl (u_ rfl) ?_
        refine wrI (pc := 10) (len_s := 1) rfl hk ?_
        show wF _ 100 (21, [some (.ref _), some (.int _)], [.int _], _) _
        refine w_t (pc := 21) (e_s := (15, 3, 34, 0, 0, .null, [])) (y_s := (34, [some (.ref _), some (.int _)], [], _)) rfl (u_ rfl) ?_
        refine w_t (pc := 34) (e_s := (0, 2, 0, 0, 0, .int (-3), [])) (y_s := (36, [some (.ref _), some (.int _)], [.int _], _)) rfl (u_ rfl) ?_
        exact wrI (pc := 36) (len_s := 1) rfl hk t
/-- ColdShod.law()I, from 0 on -/
theorem sg_101_0 {F : Nat}  {h : zH} {K : Int32 → zH → Prop} (hk : hKn h) (t : ∀ q1, h.2.2.2 7 10 = some q1 → q1 = 14 ∨ q1 = 17 → wF F 63 (0, [some (.ref 40), some (.ref q1), none], [], h) (gI (fun v2 h2 => hKn h2 → (v2.toInt = -1 → (∀ q4, h2.2.2.2 7 9 = some q4 → q4 = 14 ∨ q4 = 17 → K 1 (h2.1, zup h2.2.1 40 1 0, h2.2.2.1, zup (zup h2.2.2.2 7 10 (some q4)) 7 9 (some q1)))) ∧ (¬ v2.toInt = -1 → K ((-100) - v2) (h2.1, zup h2.2.1 40 1 0, h2.2.2.1, h2.2.2.2))))) : wF (F + 1) 101 (0, [some (.ref 6), none, none], [], h) (gI K) := by
  refine w_0 (pc := 0) (e_s := (3, 1, 0, 0, 0, .null, [])) (y_s := (1, [some (.ref _), none, none], [.ref _], _)) rfl (u_ rfl) ?_
  refine w20r (pc := 1) (len_s := 3) (q_s := 7) rfl (krq hk rfl) ?_
  obtain ⟨q1, r1, m1⟩ := krm hk (o := 7) (b_s := 10) rfl
  replace t := t q1 r1 m1
  refine w20r (pc := 4) (len_s := 3) (q_s := q1) rfl r1 ?_
  refine w_t (pc := 7) (e_s := (6, 1, 1, 0, 0, .null, [])) (y_s := (8, [some (.ref _), some (.ref _), none], [], _)) rfl (u_ rfl) ?_
  refine w_t (pc := 8) (e_s := (3, 1, 0, 0, 0, .null, [])) (y_s := (9, [some (.ref _), some (.ref _), none], [.ref _], _)) rfl (u_ rfl) ?_
  refine w20r (pc := 9) (len_s := 3) (q_s := 40) rfl (krq hk rfl) ?_
  refine w_t (pc := 12) (e_s := (3, 1, 1, 0, 0, .null, [])) (y_s := (13, [some (.ref _), some (.ref _), none], [.ref _, .ref _], _)) rfl (u_ rfl) ?_
  refine wcI (pc := 13) (len_s := 3) rfl rfl (l := [some (.ref _), some (.ref _), none]) rfl (wmI t (fun v2 h2 hk t => ?_))
  replace t := t hk
  refine w_t (pc := 16) (e_s := (4, 1, 2, 0, 0, .null, [])) (y_s := (17, [some (.ref _), some (.ref _), some (.int _)], [], _)) rfl (u_ rfl) ?_
  refine w_t (pc := 17) (e_s := (3, 1, 0, 0, 0, .null, [])) (y_s := (18, [some (.ref _), some (.ref _), some (.int _)], [.ref _], _)) rfl (u_ rfl) ?_
  refine w20r (pc := 18) (len_s := 3) (q_s := 40) rfl (krq hk rfl) ?_
  refine w_t (pc := 21) (e_s := (0, 1, 0, 0, 0, .int 0, [])) (y_s := (22, [some (.ref _), some (.ref _), some (.int _)], [.int _, .ref _], _)) rfl (u_ rfl) ?_
  refine w21 (pc := 22) (len_s := 3) rfl ?_
  refine w_t (pc := 25) (e_s := (1, 1, 2, 0, 0, .null, [])) (y_s := (26, [some (.ref _), some (.ref _), some (.int _)], [.int _], _)) rfl (u_ rfl) ?_
  refine w_t (pc := 26) (e_s := (0, 1, 0, 0, 0, .int (-1), [])) (y_s := (27, [some (.ref _), some (.ref _), some (.int _)], [.int _, .int _], _)) rfl (u_ rfl) ?_
  refine wi0 (pc := 27) (len_s := 3) (Y := -1) rfl rfl (by decide) (fun c3 => ?_) (fun c3 => ?_)
  · replace t := t.1 c3
    refine w_t (pc := 35) (e_s := (3, 1, 0, 0, 0, .null, [])) (y_s := (36, [some (.ref _), some (.ref _), some (.int _)], [.ref _], _)) rfl (u_ rfl) ?_
    refine w20r (pc := 36) (len_s := 3) (q_s := 7) rfl (krq hk rfl) ?_
    refine w_t (pc := 39) (e_s := (3, 1, 0, 0, 0, .null, [])) (y_s := (40, [some (.ref _), some (.ref _), some (.int _)], [.ref _, .ref _], _)) rfl (u_ rfl) ?_
    refine w20r (pc := 40) (len_s := 3) (q_s := 7) rfl (krq hk rfl) ?_
    obtain ⟨q4, r4, m4⟩ := krm hk (o := 7) (b_s := 9) rfl
    replace t := t q4 r4 m4
    refine w20r (pc := 43) (len_s := 3) (q_s := q4) rfl r4 ?_
    refine w21r (pc := 46) (len_s := 3) rfl ?_
    replace hk := hkr10 hk m4
    refine w_t (pc := 49) (e_s := (3, 1, 0, 0, 0, .null, [])) (y_s := (50, [some (.ref _), some (.ref _), some (.int _)], [.ref _], _)) rfl (u_ rfl) ?_
    refine w20r (pc := 50) (len_s := 3) (q_s := 7) rfl (krq hk rfl) ?_
    refine w_t (pc := 53) (e_s := (3, 1, 1, 0, 0, .null, [])) (y_s := (54, [some (.ref _), some (.ref _), some (.int _)], [.ref _, .ref _], _)) rfl (u_ rfl) ?_
    refine w21r (pc := 54) (len_s := 3) rfl ?_
    replace hk := hkr9 hk m1
    refine w_t (pc := 57) (e_s := (0, 1, 0, 0, 0, .int 1, [])) (y_s := (58, [some (.ref _), some (.ref _), some (.int _)], [.int _], _)) rfl (u_ rfl) ?_
    exact wrI (pc := 58) (len_s := 1) rfl hk t
  · replace t := t.2 c3
    refine w_t (pc := 30) (e_s := (0, 2, 0, 0, 0, .int (-100), [])) (y_s := (32, [some (.ref _), some (.ref _), some (.int _)], [.int _], _)) rfl (u_ rfl) ?_
    refine w_t (pc := 32) (e_s := (1, 1, 2, 0, 0, .null, [])) (y_s := (33, [some (.ref _), some (.ref _), some (.int _)], [.int _, .int _], _)) rfl (u_ rfl) ?_
    refine w_t (pc := 33) (e_s := (7, 1, 0, 1, 0, .null, [])) (y_s := (34, [some (.ref _), some (.ref _), some (.int _)], [.int (_ - _)], _)) rfl (u_ rfl) ?_
    exact wrI (pc := 34) (len_s := 1) rfl hk t
/-- ColdShodModel.byteAt()I, from 0 on -/
theorem sg_166_0 {F : Nat}  {h : zH} {K : Int32 → zH → Prop} (hk : hKn h) (t : ((h.2.1 102 16).toInt < (h.2.1 102 17).toInt → (((h.2.1 102 15).toInt < 0 → (zix (h.2.1 102 16) < 120 → K (h.2.1 109 (zix (h.2.1 102 16))) h)) ∧ (¬ (h.2.1 102 15).toInt < 0 → (zix ((h.2.1 102 15) + (h.2.1 102 16)) < 120 → K (h.2.1 110 (zix ((h.2.1 102 15) + (h.2.1 102 16)))) h)))) ∧ (¬ (h.2.1 102 16).toInt < (h.2.1 102 17).toInt → K 0 h)) : wF (F + 1) 166 (0, [some (.ref 102)], [], h) (gI K) := by
  refine w_0 (pc := 0) (e_s := (3, 1, 0, 0, 0, .null, [])) (y_s := (1, [some (.ref _)], [.ref _], _)) rfl (u_ rfl) ?_
  refine w20 (pc := 1) (len_s := 3) rfl ?_
  refine w_t (pc := 4) (e_s := (3, 1, 0, 0, 0, .null, [])) (y_s := (5, [some (.ref _)], [.ref _, .int _], _)) rfl (u_ rfl) ?_
  refine w20 (pc := 5) (len_s := 3) rfl ?_
  refine wi3 (pc := 8) (len_s := 3) rfl rfl rfl (fun c1 => ?_) (fun c1 => ?_)
  · replace t := t.1 c1
    refine w_t (pc := 11) (e_s := (3, 1, 0, 0, 0, .null, [])) (y_s := (12, [some (.ref _)], [.ref _], _)) rfl (u_ rfl) ?_
    refine w20 (pc := 12) (len_s := 3) rfl ?_
    refine wq3 (pc := 15) (len_s := 3) rfl rfl (fun c2 => ?_) (fun c2 => ?_)
    · replace t := t.1 c2
      refine w_t (pc := 18) (e_s := (3, 1, 0, 0, 0, .null, [])) (y_s := (19, [some (.ref _)], [.ref _], _)) rfl (u_ rfl) ?_
      refine w20r (pc := 19) (len_s := 3) (q_s := 109) rfl (krq hk rfl) ?_
      refine w_t (pc := 22) (e_s := (3, 1, 0, 0, 0, .null, [])) (y_s := (23, [some (.ref _)], [.ref _, .ref _], _)) rfl (u_ rfl) ?_
      refine w20 (pc := 23) (len_s := 3) rfl ?_
      refine w22 (pc := 26) (len_s := 1) rfl (hk.1 109 0 120 rfl rfl) (fun c3 => ?_)
      replace t := t c3
      refine w_t (pc := 27) (e_s := (17, 3, 48, 0, 0, .null, [])) (y_s := (48, [some (.ref _)], [.int _], _)) rfl (u_ rfl) ?_
      exact wrI (pc := 48) (len_s := 1) rfl hk t
    · replace t := t.2 c2
      refine w_t (pc := 30) (e_s := (3, 1, 0, 0, 0, .null, [])) (y_s := (31, [some (.ref _)], [.ref _], _)) rfl (u_ rfl) ?_
      refine w20r (pc := 31) (len_s := 3) (q_s := 110) rfl (krq hk rfl) ?_
      refine w_t (pc := 34) (e_s := (3, 1, 0, 0, 0, .null, [])) (y_s := (35, [some (.ref _)], [.ref _, .ref _], _)) rfl (u_ rfl) ?_
      refine w20 (pc := 35) (len_s := 3) rfl ?_
      refine w_t (pc := 38) (e_s := (3, 1, 0, 0, 0, .null, [])) (y_s := (39, [some (.ref _)], [.ref _, .int _, .ref _], _)) rfl (u_ rfl) ?_
      refine w20 (pc := 39) (len_s := 3) rfl ?_
      refine w_t (pc := 42) (e_s := (7, 1, 0, 0, 0, .null, [])) (y_s := (43, [some (.ref _)], [.int (_ + _), .ref _], _)) rfl (u_ rfl) ?_
      refine w22 (pc := 43) (len_s := 1) rfl (hk.1 110 0 120 rfl rfl) (fun c4 => ?_)
      replace t := t c4
      refine w_t (pc := 44) (e_s := (17, 3, 48, 0, 0, .null, [])) (y_s := (48, [some (.ref _)], [.int _], _)) rfl (u_ rfl) ?_
      exact wrI (pc := 48) (len_s := 1) rfl hk t
  · replace t := t.2 c1
    refine w_t (pc := 47) (e_s := (0, 1, 0, 0, 0, .int 0, [])) (y_s := (48, [some (.ref _)], [.int _], _)) rfl (u_ rfl) ?_
    exact wrI (pc := 48) (len_s := 1) rfl hk t
/-- ColdShodModel.wrong()I, from 0 on -/
theorem sg_167_0 {F : Nat}  {h : zH} {K : Int32 → zH → Prop} (hk : hKn h) (t : ((h.2.1 102 18).toInt < 0 → K 0 (h.1, zup h.2.1 102 18 (h.2.1 102 16), h.2.2.1, h.2.2.2)) ∧ (¬ (h.2.1 102 18).toInt < 0 → K 0 (h.1, zup h.2.1 102 18 (h.2.1 102 18), h.2.2.1, h.2.2.2))) : wF (F + 1) 167 (0, [some (.ref 102)], [], h) (gI K) := by
  refine w_0 (pc := 0) (e_s := (3, 1, 0, 0, 0, .null, [])) (y_s := (1, [some (.ref _)], [.ref _], _)) rfl (u_ rfl) ?_
  refine w_t (pc := 1) (e_s := (3, 1, 0, 0, 0, .null, [])) (y_s := (2, [some (.ref _)], [.ref _, .ref _], _)) rfl (u_ rfl) ?_
  refine w20 (pc := 2) (len_s := 3) rfl ?_
  refine wq3 (pc := 5) (len_s := 3) rfl rfl (fun c1 => ?_) (fun c1 => ?_)
  · replace t := t.1 c1
    refine w_t (pc := 8) (e_s := (3, 1, 0, 0, 0, .null, [])) (y_s := (9, [some (.ref _)], [.ref _, .ref _], _)) rfl (u_ rfl) ?_
    refine w20 (pc := 9) (len_s := 3) rfl ?_
    refine w_t (pc := 12) (e_s := (17, 3, 19, 0, 0, .null, [])) (y_s := (19, [some (.ref _)], [.int _, .ref _], _)) rfl (u_ rfl) ?_
    refine w21 (pc := 19) (len_s := 3) rfl ?_
    refine w_t (pc := 22) (e_s := (0, 1, 0, 0, 0, .int 0, [])) (y_s := (23, [some (.ref _)], [.int _], _)) rfl (u_ rfl) ?_
    exact wrI (pc := 23) (len_s := 1) rfl hk t
  · replace t := t.2 c1
    refine w_t (pc := 15) (e_s := (3, 1, 0, 0, 0, .null, [])) (y_s := (16, [some (.ref _)], [.ref _, .ref _], _)) rfl (u_ rfl) ?_
    refine w20 (pc := 16) (len_s := 3) rfl ?_
    refine w21 (pc := 19) (len_s := 3) rfl ?_
    refine w_t (pc := 22) (e_s := (0, 1, 0, 0, 0, .int 0, [])) (y_s := (23, [some (.ref _)], [.int _], _)) rfl (u_ rfl) ?_
    exact wrI (pc := 23) (len_s := 1) rfl hk t
/-- ColdShodModel.takes(I)Z, from 0 on -/
theorem sg_168_0 {F : Nat} {x1 : Int32} {h : zH} {K : Int32 → zH → Prop} (hk : hKn h) (t : ((h.2.1 102 18).toInt < 0 → wF F 166 (0, [some (.ref 102)], [], h) (gI (fun v2 h2 => hKn h2 → (v2.toInt = x1.toInt → K 1 (h2.1, zup h2.2.1 102 16 ((h2.2.1 102 16) + 1), h2.2.2.1, h2.2.2.2)) ∧ (¬ v2.toInt = x1.toInt → K 0 h2)))) ∧ (¬ (h.2.1 102 18).toInt < 0 → K 0 h)) : wF (F + 1) 168 (0, [some (.ref 102), some (.int x1)], [], h) (gI K) := by
  refine w_0 (pc := 0) (e_s := (3, 1, 0, 0, 0, .null, [])) (y_s := (1, [some (.ref _), some (.int _)], [.ref _], _)) rfl (u_ rfl) ?_
  refine w20 (pc := 1) (len_s := 3) rfl ?_
  refine wq3 (pc := 4) (len_s := 3) rfl rfl (fun c1 => ?_) (fun c1 => ?_)
  · replace t := t.1 c1
    refine w_t (pc := 7) (e_s := (3, 1, 0, 0, 0, .null, [])) (y_s := (8, [some (.ref _), some (.int _)], [.ref _], _)) rfl (u_ rfl) ?_
    refine wcI (pc := 8) (len_s := 3) rfl rfl (l := [some (.ref _)]) rfl (wmI t (fun v2 h2 hk t => ?_))
    replace t := t hk
    refine w_t (pc := 11) (e_s := (1, 1, 1, 0, 0, .null, [])) (y_s := (12, [some (.ref _), some (.int _)], [.int _, .int _], _)) rfl (u_ rfl) ?_
    refine wi0 (pc := 12) (len_s := 3) rfl rfl rfl (fun c3 => ?_) (fun c3 => ?_)
    · replace t := t.1 c3
      refine w_t (pc := 17) (e_s := (3, 1, 0, 0, 0, .null, [])) (y_s := (18, [some (.ref _), some (.int _)], [.ref _], _)) rfl (u_ rfl) ?_
      refine w_t (pc := 18) (e_s := (39, 1, 0, 0, 0, .null, [])) (y_s := (19, [some (.ref _), some (.int _)], [.ref _, .ref _], _)) rfl (u_ rfl) ?_
      refine w20 (pc := 19) (len_s := 3) rfl ?_
      refine w_t (pc := 22) (e_s := (0, 1, 0, 0, 0, .int 1, [])) (y_s := (23, [some (.ref _), some (.int _)], [.int _, .int _, .ref _], _)) rfl (u_ rfl) ?_
      refine w_t (pc := 23) (e_s := (7, 1, 0, 0, 0, .null, [])) (y_s := (24, [some (.ref _), some (.int _)], [.int (_ + _), .ref _], _)) rfl (u_ rfl) ?_
      refine w21 (pc := 24) (len_s := 3) rfl ?_
      refine w_t (pc := 27) (e_s := (0, 1, 0, 0, 0, .int 1, [])) (y_s := (28, [some (.ref _), some (.int _)], [.int _], _)) rfl (u_ rfl) ?_
      exact wrI (pc := 28) (len_s := 1) rfl hk t
    · replace t := t.2 c3
      refine w_t (pc := 15) (e_s := (0, 1, 0, 0, 0, .int 0, [])) (y_s := (16, [some (.ref _), some (.int _)], [.int _], _)) rfl (u_ rfl) ?_
      exact wrI (pc := 16) (len_s := 1) rfl hk t
  · replace t := t.2 c1
    refine w_t (pc := 15) (e_s := (0, 1, 0, 0, 0, .int 0, [])) (y_s := (16, [some (.ref _), some (.int _)], [.int _], _)) rfl (u_ rfl) ?_
    exact wrI (pc := 16) (len_s := 1) rfl hk t
/-- ColdShodModel.nameOf(I)I, from 0 on -/
theorem sg_174_0 {F : Nat} {x1 : Int32} {h : zH} {K : Int32 → zH → Prop} (hk : hKn h) (t : (x1.toInt = 102 → K 3 h) ∧ (¬ x1.toInt = 102 → (x1.toInt = 103 → K (-1) h) ∧ (¬ x1.toInt = 103 → (x1.toInt = 104 → K 2 h) ∧ (¬ x1.toInt = 104 → (x1.toInt = 105 → K (-1) h) ∧ (¬ x1.toInt = 105 → (x1.toInt = 106 → K (-1) h) ∧ (¬ x1.toInt = 106 → (x1.toInt = 107 → K 5 h) ∧ (¬ x1.toInt = 107 → (x1.toInt = 108 → K (-1) h) ∧ (¬ x1.toInt = 108 → (x1.toInt = 109 → K 0 h) ∧ (¬ x1.toInt = 109 → (x1.toInt = 110 → K (-1) h) ∧ (¬ x1.toInt = 110 → (x1.toInt = 111 → K (-1) h) ∧ (¬ x1.toInt = 111 → (x1.toInt = 112 → K (-1) h) ∧ (¬ x1.toInt = 112 → (x1.toInt = 113 → K (-1) h) ∧ (¬ x1.toInt = 113 → (x1.toInt = 114 → K (-1) h) ∧ (¬ x1.toInt = 114 → (x1.toInt = 115 → K 4 h) ∧ (¬ x1.toInt = 115 → (x1.toInt = 116 → K (-1) h) ∧ (¬ x1.toInt = 116 → (x1.toInt = 117 → K (-1) h) ∧ (¬ x1.toInt = 117 → (x1.toInt = 118 → K (-1) h) ∧ (¬ x1.toInt = 118 → (x1.toInt = 119 → K 1 h) ∧ (¬ x1.toInt = 119 → K (-1) h))))))))))))))))))) : wF (F + 1) 174 (0, [some (.int x1)], [], h) (gI K) := by
  refine w_0 (pc := 0) (e_s := (1, 1, 0, 0, 0, .null, [])) (y_s := (1, [some (.int _)], [.int _], _)) rfl (u_ rfl) ?_
  refine wsw (pc := 1) (len_s := 87) rfl ?_
  refine wsc (X_s := 102) rfl (by decide) (fun c1 => ?_) (fun c1 => ?_)
  · replace t := t.1 c1
    refine w_t (pc := 94) (e_s := (0, 1, 0, 0, 0, .int 3, [])) (y_s := (95, [some (.int _)], [.int _], _)) rfl (u_ rfl) ?_
    exact wrI (pc := 95) (len_s := 1) rfl hk t
  · replace t := t.2 c1
    refine wsc (X_s := 103) rfl (by decide) (fun c2 => ?_) (fun c2 => ?_)
    · replace t := t.1 c2
      refine w_t (pc := 100) (e_s := (0, 1, 0, 0, 0, .int (-1), [])) (y_s := (101, [some (.int _)], [.int _], _)) rfl (u_ rfl) ?_
      exact wrI (pc := 101) (len_s := 1) rfl hk t
    · replace t := t.2 c2
      refine wsc (X_s := 104) rfl (by decide) (fun c3 => ?_) (fun c3 => ?_)
      · replace t := t.1 c3
        refine w_t (pc := 92) (e_s := (0, 1, 0, 0, 0, .int 2, [])) (y_s := (93, [some (.int _)], [.int _], _)) rfl (u_ rfl) ?_
        exact wrI (pc := 93) (len_s := 1) rfl hk t
      · replace t := t.2 c3
        refine wsc (X_s := 105) rfl (by decide) (fun c4 => ?_) (fun c4 => ?_)
        · replace t := t.1 c4
          refine w_t (pc := 100) (e_s := (0, 1, 0, 0, 0, .int (-1), [])) (y_s := (101, [some (.int _)], [.int _], _)) rfl (u_ rfl) ?_
          exact wrI (pc := 101) (len_s := 1) rfl hk t
        · replace t := t.2 c4
          refine wsc (X_s := 106) rfl (by decide) (fun c5 => ?_) (fun c5 => ?_)
          · replace t := t.1 c5
            refine w_t (pc := 100) (e_s := (0, 1, 0, 0, 0, .int (-1), [])) (y_s := (101, [some (.int _)], [.int _], _)) rfl (u_ rfl) ?_
            exact wrI (pc := 101) (len_s := 1) rfl hk t
          · replace t := t.2 c5
            refine wsc (X_s := 107) rfl (by decide) (fun c6 => ?_) (fun c6 => ?_)
            · replace t := t.1 c6
              refine w_t (pc := 98) (e_s := (0, 1, 0, 0, 0, .int 5, [])) (y_s := (99, [some (.int _)], [.int _], _)) rfl (u_ rfl) ?_
              exact wrI (pc := 99) (len_s := 1) rfl hk t
            · replace t := t.2 c6
              refine wsc (X_s := 108) rfl (by decide) (fun c7 => ?_) (fun c7 => ?_)
              · replace t := t.1 c7
                refine w_t (pc := 100) (e_s := (0, 1, 0, 0, 0, .int (-1), [])) (y_s := (101, [some (.int _)], [.int _], _)) rfl (u_ rfl) ?_
                exact wrI (pc := 101) (len_s := 1) rfl hk t
              · replace t := t.2 c7
                refine wsc (X_s := 109) rfl (by decide) (fun c8 => ?_) (fun c8 => ?_)
                · replace t := t.1 c8
                  refine w_t (pc := 88) (e_s := (0, 1, 0, 0, 0, .int 0, [])) (y_s := (89, [some (.int _)], [.int _], _)) rfl (u_ rfl) ?_
                  exact wrI (pc := 89) (len_s := 1) rfl hk t
                · replace t := t.2 c8
                  refine wsc (X_s := 110) rfl (by decide) (fun c9 => ?_) (fun c9 => ?_)
                  · replace t := t.1 c9
                    refine w_t (pc := 100) (e_s := (0, 1, 0, 0, 0, .int (-1), [])) (y_s := (101, [some (.int _)], [.int _], _)) rfl (u_ rfl) ?_
                    exact wrI (pc := 101) (len_s := 1) rfl hk t
                  · replace t := t.2 c9
                    refine wsc (X_s := 111) rfl (by decide) (fun c10 => ?_) (fun c10 => ?_)
                    · replace t := t.1 c10
                      refine w_t (pc := 100) (e_s := (0, 1, 0, 0, 0, .int (-1), [])) (y_s := (101, [some (.int _)], [.int _], _)) rfl (u_ rfl) ?_
                      exact wrI (pc := 101) (len_s := 1) rfl hk t
                    · replace t := t.2 c10
                      refine wsc (X_s := 112) rfl (by decide) (fun c11 => ?_) (fun c11 => ?_)
                      · replace t := t.1 c11
                        refine w_t (pc := 100) (e_s := (0, 1, 0, 0, 0, .int (-1), [])) (y_s := (101, [some (.int _)], [.int _], _)) rfl (u_ rfl) ?_
                        exact wrI (pc := 101) (len_s := 1) rfl hk t
                      · replace t := t.2 c11
                        refine wsc (X_s := 113) rfl (by decide) (fun c12 => ?_) (fun c12 => ?_)
                        · replace t := t.1 c12
                          refine w_t (pc := 100) (e_s := (0, 1, 0, 0, 0, .int (-1), [])) (y_s := (101, [some (.int _)], [.int _], _)) rfl (u_ rfl) ?_
                          exact wrI (pc := 101) (len_s := 1) rfl hk t
                        · replace t := t.2 c12
                          refine wsc (X_s := 114) rfl (by decide) (fun c13 => ?_) (fun c13 => ?_)
                          · replace t := t.1 c13
                            refine w_t (pc := 100) (e_s := (0, 1, 0, 0, 0, .int (-1), [])) (y_s := (101, [some (.int _)], [.int _], _)) rfl (u_ rfl) ?_
                            exact wrI (pc := 101) (len_s := 1) rfl hk t
                          · replace t := t.2 c13
                            refine wsc (X_s := 115) rfl (by decide) (fun c14 => ?_) (fun c14 => ?_)
                            · replace t := t.1 c14
                              refine w_t (pc := 96) (e_s := (0, 1, 0, 0, 0, .int 4, [])) (y_s := (97, [some (.int _)], [.int _], _)) rfl (u_ rfl) ?_
                              exact wrI (pc := 97) (len_s := 1) rfl hk t
                            · replace t := t.2 c14
                              refine wsc (X_s := 116) rfl (by decide) (fun c15 => ?_) (fun c15 => ?_)
                              · replace t := t.1 c15
                                refine w_t (pc := 100) (e_s := (0, 1, 0, 0, 0, .int (-1), [])) (y_s := (101, [some (.int _)], [.int _], _)) rfl (u_ rfl) ?_
                                exact wrI (pc := 101) (len_s := 1) rfl hk t
                              · replace t := t.2 c15
                                refine wsc (X_s := 117) rfl (by decide) (fun c16 => ?_) (fun c16 => ?_)
                                · replace t := t.1 c16
                                  refine w_t (pc := 100) (e_s := (0, 1, 0, 0, 0, .int (-1), [])) (y_s := (101, [some (.int _)], [.int _], _)) rfl (u_ rfl) ?_
                                  exact wrI (pc := 101) (len_s := 1) rfl hk t
                                · replace t := t.2 c16
                                  refine wsc (X_s := 118) rfl (by decide) (fun c17 => ?_) (fun c17 => ?_)
                                  · replace t := t.1 c17
                                    refine w_t (pc := 100) (e_s := (0, 1, 0, 0, 0, .int (-1), [])) (y_s := (101, [some (.int _)], [.int _], _)) rfl (u_ rfl) ?_
                                    exact wrI (pc := 101) (len_s := 1) rfl hk t
                                  · replace t := t.2 c17
                                    refine wsc (X_s := 119) rfl (by decide) (fun c18 => ?_) (fun c18 => ?_)
                                    · replace t := t.1 c18
                                      refine w_t (pc := 90) (e_s := (0, 1, 0, 0, 0, .int 1, [])) (y_s := (91, [some (.int _)], [.int _], _)) rfl (u_ rfl) ?_
                                      exact wrI (pc := 91) (len_s := 1) rfl hk t
                                    · replace t := t.2 c18
                                      show wF _ _ (100, _, _, _) _
                                      refine w_t (pc := 100) (e_s := (0, 1, 0, 0, 0, .int (-1), [])) (y_s := (101, [some (.int _)], [.int _], _)) rfl (u_ rfl) ?_
                                      exact wrI (pc := 101) (len_s := 1) rfl hk t
/-- ColdShodModel.feed(I)I, from 0 on -/
theorem sg_165_0 {F : Nat} {x1 : Int32} {h : zH} {K : Int32 → zH → Prop} (hk : hKn h) (t : (x1.toInt < 0 → K (-1) h) ∧ (¬ x1.toInt < 0 → ((255 < x1.toInt → K (-1) h) ∧ (¬ 255 < x1.toInt → (((h.2.1 102 12).toInt = 120 → K (-3) h) ∧ (¬ (h.2.1 102 12).toInt = 120 → (zix (h.2.1 102 12) < 120 → K ((h.2.1 102 12) + 1) (h.1, zup (zup h.2.1 109 (zix (h.2.1 102 12)) x1) 102 12 ((h.2.1 102 12) + 1), h.2.2.1, h.2.2.2)))))))) : wF (F + 1) 165 (0, [some (.ref 102), some (.int x1)], [], h) (gI K) := by
  refine w_0 (pc := 0) (e_s := (1, 1, 1, 0, 0, .null, [])) (y_s := (1, [some (.ref _), some (.int _)], [.int _], _)) rfl (u_ rfl) ?_
  refine w_t (pc := 1) (e_s := (10, 1, 0, 0, 0, .null, [])) (y_s := (2, [some (.ref _), some (.int _)], [.long (Int32.toInt64 _)], _)) rfl (u_ rfl) ?_
  refine w_t (pc := 2) (e_s := (0, 1, 0, 0, 0, .long 0, [])) (y_s := (3, [some (.ref _), some (.int _)], [.long _, .long _], _)) rfl (u_ rfl) ?_
  refine w_t (pc := 3) (e_s := (0, 3, 0, 0, 0, .long 255, [(0, 1083)])) (y_s := (6, [some (.ref _), some (.int _)], [.long _, .long _, .long _], _)) rfl (u_ rfl) ?_
  refine wcI (pc := 6) (len_s := 3) rfl rfl (l := [some (.long _), none, some (.long _), none, some (.long _), none]) rfl ?_
  refine w_t (pc := 0) (e_s := (2, 1, 0, 0, 0, .null, [])) (y_s := (1, [some (.long _), none, some (.long _), none, some (.long _), none], [.long _], _)) rfl (u_ rfl) ?_
  refine w_t (pc := 1) (e_s := (2, 1, 2, 0, 0, .null, [])) (y_s := (2, [some (.long _), none, some (.long _), none, some (.long _), none], [.long _, .long _], _)) rfl (u_ rfl) ?_
  refine w_t (pc := 2) (e_s := (14, 1, 0, 0, 0, .null, [])) (y_s := (3, [some (.long _), none, some (.long _), none, some (.long _), none], [.int (lg_cmp _ _)], _)) rfl (u_ rfl) ?_
  refine wl2 (pc := 3) (len_s := 3) (Y := 0) rfl (Int32.toInt_toInt64 _) (by decide) (fun c1 => ?_) (fun c1 => ?_)
  · replace t := t.1 c1
    refine w_t (pc := 17) (e_s := (0, 1, 0, 0, 0, .int 0, [])) (y_s := (18, [some (.long _), none, some (.long _), none, some (.long _), none], [.int _], _)) rfl (u_ rfl) ?_
    refine wrI (pc := 18) (len_s := 1) rfl hk ?_
    show wF _ 165 (9, [some (.ref _), some (.int _)], [.int _], _) _
    refine w_t (pc := 9) (e_s := (15, 3, 14, 1, 0, .null, [])) (y_s := (12, [some (.ref _), some (.int _)], [], _)) rfl (u_ rfl) ?_
    refine w_t (pc := 12) (e_s := (0, 1, 0, 0, 0, .int (-1), [])) (y_s := (13, [some (.ref _), some (.int _)], [.int _], _)) rfl (u_ rfl) ?_
    exact wrI (pc := 13) (len_s := 1) rfl hk t
  · replace t := t.2 c1
    refine w_t (pc := 6) (e_s := (2, 1, 0, 0, 0, .null, [])) (y_s := (7, [some (.long _), none, some (.long _), none, some (.long _), none], [.long _], _)) rfl (u_ rfl) ?_
    refine w_t (pc := 7) (e_s := (2, 2, 4, 0, 0, .null, [])) (y_s := (9, [some (.long _), none, some (.long _), none, some (.long _), none], [.long _, .long _], _)) rfl (u_ rfl) ?_
    refine w_t (pc := 9) (e_s := (14, 1, 0, 0, 0, .null, [])) (y_s := (10, [some (.long _), none, some (.long _), none, some (.long _), none], [.int (lg_cmp _ _)], _)) rfl (u_ rfl) ?_
    refine wl4 (pc := 10) (len_s := 3) (Y := 255) rfl (Int32.toInt_toInt64 _) (by decide) (fun c2 => ?_) (fun c2 => ?_)
    · replace t := t.1 c2
      refine w_t (pc := 17) (e_s := (0, 1, 0, 0, 0, .int 0, [])) (y_s := (18, [some (.long _), none, some (.long _), none, some (.long _), none], [.int _], _)) rfl (u_ rfl) ?_
      refine wrI (pc := 18) (len_s := 1) rfl hk ?_
      show wF _ 165 (9, [some (.ref _), some (.int _)], [.int _], _) _
      refine w_t (pc := 9) (e_s := (15, 3, 14, 1, 0, .null, [])) (y_s := (12, [some (.ref _), some (.int _)], [], _)) rfl (u_ rfl) ?_
      refine w_t (pc := 12) (e_s := (0, 1, 0, 0, 0, .int (-1), [])) (y_s := (13, [some (.ref _), some (.int _)], [.int _], _)) rfl (u_ rfl) ?_
      exact wrI (pc := 13) (len_s := 1) rfl hk t
    · replace t := t.2 c2
      refine w_t (pc := 13) (e_s := (0, 1, 0, 0, 0, .int 1, [])) (y_s := (14, [some (.long _), none, some (.long _), none, some (.long _), none], [.int _], _)) rfl (u_ rfl) ?_
      refine w_t (pc := 14) (e_s := (17, 3, 18, 0, 0, .null, [])) (y_s := (18, [some (.long _), none, some (.long _), none, some (.long _), none], [.int _], _)) rfl (u_ rfl) ?_
      refine wrI (pc := 18) (len_s := 1) rfl hk ?_
      show wF _ 165 (9, [some (.ref _), some (.int _)], [.int _], _) _
      refine w_t (pc := 9) (e_s := (15, 3, 14, 1, 0, .null, [])) (y_s := (14, [some (.ref _), some (.int _)], [], _)) rfl (u_ rfl) ?_
      refine w_t (pc := 14) (e_s := (3, 1, 0, 0, 0, .null, [])) (y_s := (15, [some (.ref _), some (.int _)], [.ref _], _)) rfl (u_ rfl) ?_
      refine w20 (pc := 15) (len_s := 3) rfl ?_
      refine w_t (pc := 18) (e_s := (0, 2, 0, 0, 0, .int 120, [])) (y_s := (20, [some (.ref _), some (.int _)], [.int _, .int _], _)) rfl (u_ rfl) ?_
      refine wi1 (pc := 20) (len_s := 3) (Y := 120) rfl rfl (by decide) (fun c3 => ?_) (fun c3 => ?_)
      · replace t := t.1 c3
        refine w_t (pc := 23) (e_s := (0, 2, 0, 0, 0, .int (-3), [])) (y_s := (25, [some (.ref _), some (.int _)], [.int _], _)) rfl (u_ rfl) ?_
        exact wrI (pc := 25) (len_s := 1) rfl hk t
      · replace t := t.2 c3
        refine w_t (pc := 26) (e_s := (3, 1, 0, 0, 0, .null, [])) (y_s := (27, [some (.ref _), some (.int _)], [.ref _], _)) rfl (u_ rfl) ?_
        refine w20r (pc := 27) (len_s := 3) (q_s := 109) rfl (krq hk rfl) ?_
        refine w_t (pc := 30) (e_s := (3, 1, 0, 0, 0, .null, [])) (y_s := (31, [some (.ref _), some (.int _)], [.ref _, .ref _], _)) rfl (u_ rfl) ?_
        refine w20 (pc := 31) (len_s := 3) rfl ?_
        refine w_t (pc := 34) (e_s := (1, 1, 1, 0, 0, .null, [])) (y_s := (35, [some (.ref _), some (.int _)], [.int _, .int _, .ref _], _)) rfl (u_ rfl) ?_
        refine w25 (pc := 35) (len_s := 1) rfl (hk.1 109 0 120 rfl rfl) (fun c4 => ?_)
        replace t := t c4
        refine w_t (pc := 36) (e_s := (3, 1, 0, 0, 0, .null, [])) (y_s := (37, [some (.ref _), some (.int _)], [.ref _], _)) rfl (u_ rfl) ?_
        refine w_t (pc := 37) (e_s := (39, 1, 0, 0, 0, .null, [])) (y_s := (38, [some (.ref _), some (.int _)], [.ref _, .ref _], _)) rfl (u_ rfl) ?_
        refine w20 (pc := 38) (len_s := 3) rfl ?_
        refine w_t (pc := 41) (e_s := (0, 1, 0, 0, 0, .int 1, [])) (y_s := (42, [some (.ref _), some (.int _)], [.int _, .int _, .ref _], _)) rfl (u_ rfl) ?_
        refine w_t (pc := 42) (e_s := (7, 1, 0, 0, 0, .null, [])) (y_s := (43, [some (.ref _), some (.int _)], [.int (_ + _), .ref _], _)) rfl (u_ rfl) ?_
        refine w21 (pc := 43) (len_s := 3) rfl ?_
        refine w_t (pc := 46) (e_s := (3, 1, 0, 0, 0, .null, [])) (y_s := (47, [some (.ref _), some (.int _)], [.ref _], _)) rfl (u_ rfl) ?_
        refine w20 (pc := 47) (len_s := 3) rfl ?_
        exact wrI (pc := 50) (len_s := 1) rfl hk t
/-- ColdShodModel.either()I, from 0 on -/
theorem sg_169_0 {F : Nat}  {h : zH} {K : Int32 → zH → Prop} (hk : hKn h) (t : wF F 170 (0, [some (.ref 102), none, none], [], h) (gI (fun v1 h1 => hKn h1 → wF F 169 (5, [some (.ref 102), some (.int v1), none], [], h1) (gI K)))) : wF (F + 1) 169 (0, [some (.ref 102), none, none], [], h) (gI K) := by
  refine w_0 (pc := 0) (e_s := (3, 1, 0, 0, 0, .null, [])) (y_s := (1, [some (.ref _), none, none], [.ref _], _)) rfl (u_ rfl) ?_
  refine wcI (pc := 1) (len_s := 3) rfl rfl (l := [some (.ref _), none, none]) rfl (wmI t (fun v1 h1 hk t => ?_))
  replace t := t hk
  refine w_t (pc := 4) (e_s := (4, 1, 1, 0, 0, .null, [])) (y_s := (5, [some (.ref _), some (.int _), none], [], _)) rfl (u_ rfl) ?_
  exact t
/-- ColdShodModel.either()I, from 5 on -/
theorem sg_169_5 {F : Nat} {x1 : Int32} {l2 : Option Value} {h : zH} {K : Int32 → zH → Prop} (hk : hKn h) (t : wF F 168 (0, [some (.ref 102), some (.int 124)], [], h) (gI (fun v1 h1 => hKn h1 → (v1.toInt = 0 → K x1 h1) ∧ (¬ v1.toInt = 0 → wF F 170 (0, [some (.ref 102), none, none], [], h1) (gI (fun v3 h3 => hKn h3 → (x1.toInt = 0 → ((v3.toInt = 0 → wF F 169 (5, [some (.ref 102), some (.int 0), some (.int v3)], [], h3) (gI K)) ∧ (¬ v3.toInt = 0 → wF F 169 (5, [some (.ref 102), some (.int 1), some (.int v3)], [], h3) (gI K)))) ∧ (¬ x1.toInt = 0 → wF F 169 (5, [some (.ref 102), some (.int 1), some (.int v3)], [], h3) (gI K)))))))) : wF (F + 1) 169 (5, [some (.ref 102), some (.int x1), l2], [], h) (gI K) := by
  refine w_0 (pc := 5) (e_s := (3, 1, 0, 0, 0, .null, [])) (y_s := (6, [some (.ref _), some (.int _), _], [.ref _], _)) rfl (u_ rfl) ?_
  refine w_t (pc := 6) (e_s := (0, 2, 0, 0, 0, .int 124, [])) (y_s := (8, [some (.ref _), some (.int _), _], [.int _, .ref _], _)) rfl (u_ rfl) ?_
  refine wcI (pc := 8) (len_s := 3) rfl rfl (l := [some (.ref _), some (.int _)]) rfl (wmI t (fun v1 h1 hk t => ?_))
  replace t := t hk
  refine wq0 (pc := 11) (len_s := 3) rfl rfl (fun c2 => ?_) (fun c2 => ?_)
  · replace t := t.1 c2
    refine w_t (pc := 36) (e_s := (1, 1, 1, 0, 0, .null, [])) (y_s := (37, [some (.ref _), some (.int _), _], [.int _], _)) rfl (u_ rfl) ?_
    exact wrI (pc := 37) (len_s := 1) rfl hk t
  · replace t := t.2 c2
    refine w_t (pc := 14) (e_s := (3, 1, 0, 0, 0, .null, [])) (y_s := (15, [some (.ref _), some (.int _), _], [.ref _], _)) rfl (u_ rfl) ?_
    refine wcI (pc := 15) (len_s := 3) rfl rfl (l := [some (.ref _), none, none]) rfl (wmI t (fun v3 h3 hk t => ?_))
    replace t := t hk
    refine w_t (pc := 18) (e_s := (4, 1, 2, 0, 0, .null, [])) (y_s := (19, [some (.ref _), some (.int _), some (.int _)], [], _)) rfl (u_ rfl) ?_
    refine w_t (pc := 19) (e_s := (1, 1, 1, 0, 0, .null, [])) (y_s := (20, [some (.ref _), some (.int _), some (.int _)], [.int _], _)) rfl (u_ rfl) ?_
    refine wq1 (pc := 20) (len_s := 3) rfl rfl (fun c4 => ?_) (fun c4 => ?_)
    · replace t := t.1 c4
      refine w_t (pc := 23) (e_s := (1, 1, 2, 0, 0, .null, [])) (y_s := (24, [some (.ref _), some (.int _), some (.int _)], [.int _], _)) rfl (u_ rfl) ?_
      refine wq0 (pc := 24) (len_s := 3) rfl rfl (fun c5 => ?_) (fun c5 => ?_)
      · replace t := t.1 c5
        refine w_t (pc := 31) (e_s := (0, 1, 0, 0, 0, .int 0, [])) (y_s := (32, [some (.ref _), some (.int _), some (.int _)], [.int _], _)) rfl (u_ rfl) ?_
        refine w_t (pc := 32) (e_s := (4, 1, 1, 0, 0, .null, [])) (y_s := (33, [some (.ref _), some (.int _), some (.int _)], [], _)) rfl (u_ rfl) ?_
        refine w_t (pc := 33) (e_s := (17, 3, 5, 0, 0, .null, [])) (y_s := (5, [some (.ref _), some (.int _), some (.int _)], [], _)) rfl (u_ rfl) ?_
        exact t
      · replace t := t.2 c5
        refine w_t (pc := 27) (e_s := (0, 1, 0, 0, 0, .int 1, [])) (y_s := (28, [some (.ref _), some (.int _), some (.int _)], [.int _], _)) rfl (u_ rfl) ?_
        refine w_t (pc := 28) (e_s := (17, 3, 32, 0, 0, .null, [])) (y_s := (32, [some (.ref _), some (.int _), some (.int _)], [.int _], _)) rfl (u_ rfl) ?_
        refine w_t (pc := 32) (e_s := (4, 1, 1, 0, 0, .null, [])) (y_s := (33, [some (.ref _), some (.int _), some (.int _)], [], _)) rfl (u_ rfl) ?_
        refine w_t (pc := 33) (e_s := (17, 3, 5, 0, 0, .null, [])) (y_s := (5, [some (.ref _), some (.int _), some (.int _)], [], _)) rfl (u_ rfl) ?_
        exact t
    · replace t := t.2 c4
      refine w_t (pc := 27) (e_s := (0, 1, 0, 0, 0, .int 1, [])) (y_s := (28, [some (.ref _), some (.int _), some (.int _)], [.int _], _)) rfl (u_ rfl) ?_
      refine w_t (pc := 28) (e_s := (17, 3, 32, 0, 0, .null, [])) (y_s := (32, [some (.ref _), some (.int _), some (.int _)], [.int _], _)) rfl (u_ rfl) ?_
      refine w_t (pc := 32) (e_s := (4, 1, 1, 0, 0, .null, [])) (y_s := (33, [some (.ref _), some (.int _), some (.int _)], [], _)) rfl (u_ rfl) ?_
      refine w_t (pc := 33) (e_s := (17, 3, 5, 0, 0, .null, [])) (y_s := (5, [some (.ref _), some (.int _), some (.int _)], [], _)) rfl (u_ rfl) ?_
      exact t
/-- ColdShodModel.both()I, from 0 on -/
theorem sg_170_0 {F : Nat}  {h : zH} {K : Int32 → zH → Prop} (hk : hKn h) (t : wF F 171 (0, [some (.ref 102), none, none, none], [], h) (gI (fun v1 h1 => hKn h1 → wF F 170 (5, [some (.ref 102), some (.int v1), none], [], h1) (gI K)))) : wF (F + 1) 170 (0, [some (.ref 102), none, none], [], h) (gI K) := by
  refine w_0 (pc := 0) (e_s := (3, 1, 0, 0, 0, .null, [])) (y_s := (1, [some (.ref _), none, none], [.ref _], _)) rfl (u_ rfl) ?_
  refine wcI (pc := 1) (len_s := 3) rfl rfl (l := [some (.ref _), none, none, none]) rfl (wmI t (fun v1 h1 hk t => ?_))
  replace t := t hk
  refine w_t (pc := 4) (e_s := (4, 1, 1, 0, 0, .null, [])) (y_s := (5, [some (.ref _), some (.int _), none], [], _)) rfl (u_ rfl) ?_
  exact t
/-- ColdShodModel.both()I, from 5 on -/
theorem sg_170_5 {F : Nat} {x1 : Int32} {l2 : Option Value} {h : zH} {K : Int32 → zH → Prop} (hk : hKn h) (t : wF F 168 (0, [some (.ref 102), some (.int 38)], [], h) (gI (fun v1 h1 => hKn h1 → (v1.toInt = 0 → K x1 h1) ∧ (¬ v1.toInt = 0 → wF F 171 (0, [some (.ref 102), none, none, none], [], h1) (gI (fun v3 h3 => hKn h3 → (x1.toInt = 0 → wF F 170 (5, [some (.ref 102), some (.int 0), some (.int v3)], [], h3) (gI K)) ∧ (¬ x1.toInt = 0 → ((v3.toInt = 0 → wF F 170 (5, [some (.ref 102), some (.int 0), some (.int v3)], [], h3) (gI K)) ∧ (¬ v3.toInt = 0 → wF F 170 (5, [some (.ref 102), some (.int 1), some (.int v3)], [], h3) (gI K)))))))))) : wF (F + 1) 170 (5, [some (.ref 102), some (.int x1), l2], [], h) (gI K) := by
  refine w_0 (pc := 5) (e_s := (3, 1, 0, 0, 0, .null, [])) (y_s := (6, [some (.ref _), some (.int _), _], [.ref _], _)) rfl (u_ rfl) ?_
  refine w_t (pc := 6) (e_s := (0, 2, 0, 0, 0, .int 38, [])) (y_s := (8, [some (.ref _), some (.int _), _], [.int _, .ref _], _)) rfl (u_ rfl) ?_
  refine wcI (pc := 8) (len_s := 3) rfl rfl (l := [some (.ref _), some (.int _)]) rfl (wmI t (fun v1 h1 hk t => ?_))
  replace t := t hk
  refine wq0 (pc := 11) (len_s := 3) rfl rfl (fun c2 => ?_) (fun c2 => ?_)
  · replace t := t.1 c2
    refine w_t (pc := 36) (e_s := (1, 1, 1, 0, 0, .null, [])) (y_s := (37, [some (.ref _), some (.int _), _], [.int _], _)) rfl (u_ rfl) ?_
    exact wrI (pc := 37) (len_s := 1) rfl hk t
  · replace t := t.2 c2
    refine w_t (pc := 14) (e_s := (3, 1, 0, 0, 0, .null, [])) (y_s := (15, [some (.ref _), some (.int _), _], [.ref _], _)) rfl (u_ rfl) ?_
    refine wcI (pc := 15) (len_s := 3) rfl rfl (l := [some (.ref _), none, none, none]) rfl (wmI t (fun v3 h3 hk t => ?_))
    replace t := t hk
    refine w_t (pc := 18) (e_s := (4, 1, 2, 0, 0, .null, [])) (y_s := (19, [some (.ref _), some (.int _), some (.int _)], [], _)) rfl (u_ rfl) ?_
    refine w_t (pc := 19) (e_s := (1, 1, 1, 0, 0, .null, [])) (y_s := (20, [some (.ref _), some (.int _), some (.int _)], [.int _], _)) rfl (u_ rfl) ?_
    refine wq0 (pc := 20) (len_s := 3) rfl rfl (fun c4 => ?_) (fun c4 => ?_)
    · replace t := t.1 c4
      refine w_t (pc := 31) (e_s := (0, 1, 0, 0, 0, .int 0, [])) (y_s := (32, [some (.ref _), some (.int _), some (.int _)], [.int _], _)) rfl (u_ rfl) ?_
      refine w_t (pc := 32) (e_s := (4, 1, 1, 0, 0, .null, [])) (y_s := (33, [some (.ref _), some (.int _), some (.int _)], [], _)) rfl (u_ rfl) ?_
      refine w_t (pc := 33) (e_s := (17, 3, 5, 0, 0, .null, [])) (y_s := (5, [some (.ref _), some (.int _), some (.int _)], [], _)) rfl (u_ rfl) ?_
      exact t
    · replace t := t.2 c4
      refine w_t (pc := 23) (e_s := (1, 1, 2, 0, 0, .null, [])) (y_s := (24, [some (.ref _), some (.int _), some (.int _)], [.int _], _)) rfl (u_ rfl) ?_
      refine wq0 (pc := 24) (len_s := 3) rfl rfl (fun c5 => ?_) (fun c5 => ?_)
      · replace t := t.1 c5
        refine w_t (pc := 31) (e_s := (0, 1, 0, 0, 0, .int 0, [])) (y_s := (32, [some (.ref _), some (.int _), some (.int _)], [.int _], _)) rfl (u_ rfl) ?_
        refine w_t (pc := 32) (e_s := (4, 1, 1, 0, 0, .null, [])) (y_s := (33, [some (.ref _), some (.int _), some (.int _)], [], _)) rfl (u_ rfl) ?_
        refine w_t (pc := 33) (e_s := (17, 3, 5, 0, 0, .null, [])) (y_s := (5, [some (.ref _), some (.int _), some (.int _)], [], _)) rfl (u_ rfl) ?_
        exact t
      · replace t := t.2 c5
        refine w_t (pc := 27) (e_s := (0, 1, 0, 0, 0, .int 1, [])) (y_s := (28, [some (.ref _), some (.int _), some (.int _)], [.int _], _)) rfl (u_ rfl) ?_
        refine w_t (pc := 28) (e_s := (17, 3, 32, 0, 0, .null, [])) (y_s := (32, [some (.ref _), some (.int _), some (.int _)], [.int _], _)) rfl (u_ rfl) ?_
        refine w_t (pc := 32) (e_s := (4, 1, 1, 0, 0, .null, [])) (y_s := (33, [some (.ref _), some (.int _), some (.int _)], [], _)) rfl (u_ rfl) ?_
        refine w_t (pc := 33) (e_s := (17, 3, 5, 0, 0, .null, [])) (y_s := (5, [some (.ref _), some (.int _), some (.int _)], [], _)) rfl (u_ rfl) ?_
        exact t
/-- ColdShodModel.compared()I, from 0 on -/
theorem sg_171_0 {F : Nat}  {h : zH} {K : Int32 → zH → Prop} (hk : hKn h) (t : wF F 172 (0, [some (.ref 102), none, none, none], [], h) (gI (fun v1 h1 => hKn h1 → wF F 166 (0, [some (.ref 102)], [], h1) (gI (fun v2 h2 => hKn h2 → ((h2.2.1 102 18).toInt < 0 → ((v2.toInt = 60 → wF F 172 (0, [some (.ref 102), none, none, none], [], (h2.1, zup h2.2.1 102 16 ((h2.2.1 102 16) + 1), h2.2.2.1, h2.2.2.2)) (gI (fun v5 h5 => hKn h5 → (v1.toInt < v5.toInt → K 1 h5) ∧ (¬ v1.toInt < v5.toInt → K 0 h5)))) ∧ (¬ v2.toInt = 60 → ((v2.toInt = 61 → wF F 172 (0, [some (.ref 102), none, none, none], [], (h2.1, zup h2.2.1 102 16 ((h2.2.1 102 16) + 1), h2.2.2.1, h2.2.2.2)) (gI (fun v9 h9 => hKn h9 → (v1.toInt = v9.toInt → K 1 h9) ∧ (¬ v1.toInt = v9.toInt → K 0 h9)))) ∧ (¬ v2.toInt = 61 → ((v2.toInt = 62 → wF F 172 (0, [some (.ref 102), none, none, none], [], (h2.1, zup h2.2.1 102 16 ((h2.2.1 102 16) + 1), h2.2.2.1, h2.2.2.2)) (gI (fun v14 h14 => hKn h14 → (v14.toInt < v1.toInt → K 1 h14) ∧ (¬ v14.toInt < v1.toInt → K 0 h14)))) ∧ (¬ v2.toInt = 62 → K v1 h2))))))) ∧ (¬ (h2.2.1 102 18).toInt < 0 → K v1 h2)))))) : wF (F + 1) 171 (0, [some (.ref 102), none, none, none], [], h) (gI K) := by
  refine w_0 (pc := 0) (e_s := (3, 1, 0, 0, 0, .null, [])) (y_s := (1, [some (.ref _), none, none, none], [.ref _], _)) rfl (u_ rfl) ?_
  refine wcI (pc := 1) (len_s := 3) rfl rfl (l := [some (.ref _), none, none, none]) rfl (wmI t (fun v1 h1 hk t => ?_))
  replace t := t hk
  refine w_t (pc := 4) (e_s := (4, 1, 1, 0, 0, .null, [])) (y_s := (5, [some (.ref _), some (.int _), none, none], [], _)) rfl (u_ rfl) ?_
  refine w_t (pc := 5) (e_s := (3, 1, 0, 0, 0, .null, [])) (y_s := (6, [some (.ref _), some (.int _), none, none], [.ref _], _)) rfl (u_ rfl) ?_
  refine wcI (pc := 6) (len_s := 3) rfl rfl (l := [some (.ref _)]) rfl (wmI t (fun v2 h2 hk t => ?_))
  replace t := t hk
  refine w_t (pc := 9) (e_s := (4, 1, 2, 0, 0, .null, [])) (y_s := (10, [some (.ref _), some (.int _), some (.int _), none], [], _)) rfl (u_ rfl) ?_
  refine w_t (pc := 10) (e_s := (3, 1, 0, 0, 0, .null, [])) (y_s := (11, [some (.ref _), some (.int _), some (.int _), none], [.ref _], _)) rfl (u_ rfl) ?_
  refine w20 (pc := 11) (len_s := 3) rfl ?_
  refine wq3 (pc := 14) (len_s := 3) rfl rfl (fun c3 => ?_) (fun c3 => ?_)
  · replace t := t.1 c3
    refine w_t (pc := 17) (e_s := (1, 1, 2, 0, 0, .null, [])) (y_s := (18, [some (.ref _), some (.int _), some (.int _), none], [.int _], _)) rfl (u_ rfl) ?_
    refine w_t (pc := 18) (e_s := (0, 2, 0, 0, 0, .int 60, [])) (y_s := (20, [some (.ref _), some (.int _), some (.int _), none], [.int _, .int _], _)) rfl (u_ rfl) ?_
    refine wi0 (pc := 20) (len_s := 3) (Y := 60) rfl rfl (by decide) (fun c4 => ?_) (fun c4 => ?_)
    · replace t := t.1 c4
      refine w_t (pc := 37) (e_s := (3, 1, 0, 0, 0, .null, [])) (y_s := (38, [some (.ref _), some (.int _), some (.int _), none], [.ref _], _)) rfl (u_ rfl) ?_
      refine w_t (pc := 38) (e_s := (39, 1, 0, 0, 0, .null, [])) (y_s := (39, [some (.ref _), some (.int _), some (.int _), none], [.ref _, .ref _], _)) rfl (u_ rfl) ?_
      refine w20 (pc := 39) (len_s := 3) rfl ?_
      refine w_t (pc := 42) (e_s := (0, 1, 0, 0, 0, .int 1, [])) (y_s := (43, [some (.ref _), some (.int _), some (.int _), none], [.int _, .int _, .ref _], _)) rfl (u_ rfl) ?_
      refine w_t (pc := 43) (e_s := (7, 1, 0, 0, 0, .null, [])) (y_s := (44, [some (.ref _), some (.int _), some (.int _), none], [.int (_ + _), .ref _], _)) rfl (u_ rfl) ?_
      refine w21 (pc := 44) (len_s := 3) rfl ?_
      refine w_t (pc := 47) (e_s := (3, 1, 0, 0, 0, .null, [])) (y_s := (48, [some (.ref _), some (.int _), some (.int _), none], [.ref _], _)) rfl (u_ rfl) ?_
      refine wcI (pc := 48) (len_s := 3) rfl rfl (l := [some (.ref _), none, none, none]) rfl (wmI t (fun v5 h5 hk t => ?_))
      replace t := t hk
      refine w_t (pc := 51) (e_s := (4, 1, 3, 0, 0, .null, [])) (y_s := (52, [some (.ref _), some (.int _), some (.int _), some (.int _)], [], _)) rfl (u_ rfl) ?_
      refine w_t (pc := 52) (e_s := (1, 1, 2, 0, 0, .null, [])) (y_s := (53, [some (.ref _), some (.int _), some (.int _), some (.int _)], [.int _], _)) rfl (u_ rfl) ?_
      refine w_t (pc := 53) (e_s := (0, 2, 0, 0, 0, .int 60, [])) (y_s := (55, [some (.ref _), some (.int _), some (.int _), some (.int _)], [.int _, .int _], _)) rfl (u_ rfl) ?_
      refine wi1 (pc := 55) (len_s := 3) (Y := 60) rfl rfl (by decide) (fun c6 => ?_) (fun c6 => ?_)
      · skip
        refine w_t (pc := 58) (e_s := (1, 1, 1, 0, 0, .null, [])) (y_s := (59, [some (.ref _), some (.int _), some (.int _), some (.int _)], [.int _], _)) rfl (u_ rfl) ?_
        refine w_t (pc := 59) (e_s := (1, 1, 3, 0, 0, .null, [])) (y_s := (60, [some (.ref _), some (.int _), some (.int _), some (.int _)], [.int _, .int _], _)) rfl (u_ rfl) ?_
        refine wi3 (pc := 60) (len_s := 3) rfl rfl rfl (fun c7 => ?_) (fun c7 => ?_)
        · replace t := t.1 c7
          refine w_t (pc := 63) (e_s := (17, 3, 85, 0, 0, .null, [])) (y_s := (85, [some (.ref _), some (.int _), some (.int _), some (.int _)], [], _)) rfl (u_ rfl) ?_
          refine w_t (pc := 85) (e_s := (0, 1, 0, 0, 0, .int 1, [])) (y_s := (86, [some (.ref _), some (.int _), some (.int _), some (.int _)], [.int _], _)) rfl (u_ rfl) ?_
          refine w_t (pc := 86) (e_s := (17, 3, 90, 0, 0, .null, [])) (y_s := (90, [some (.ref _), some (.int _), some (.int _), some (.int _)], [.int _], _)) rfl (u_ rfl) ?_
          exact wrI (pc := 90) (len_s := 1) rfl hk t
        · replace t := t.2 c7
          refine w_t (pc := 89) (e_s := (0, 1, 0, 0, 0, .int 0, [])) (y_s := (90, [some (.ref _), some (.int _), some (.int _), some (.int _)], [.int _], _)) rfl (u_ rfl) ?_
          exact wrI (pc := 90) (len_s := 1) rfl hk t
      · exact absurd c4 c6
    · replace t := t.2 c4
      refine w_t (pc := 23) (e_s := (1, 1, 2, 0, 0, .null, [])) (y_s := (24, [some (.ref _), some (.int _), some (.int _), none], [.int _], _)) rfl (u_ rfl) ?_
      refine w_t (pc := 24) (e_s := (0, 2, 0, 0, 0, .int 61, [])) (y_s := (26, [some (.ref _), some (.int _), some (.int _), none], [.int _, .int _], _)) rfl (u_ rfl) ?_
      refine wi0 (pc := 26) (len_s := 3) (Y := 61) rfl rfl (by decide) (fun c8 => ?_) (fun c8 => ?_)
      · replace t := t.1 c8
        refine w_t (pc := 37) (e_s := (3, 1, 0, 0, 0, .null, [])) (y_s := (38, [some (.ref _), some (.int _), some (.int _), none], [.ref _], _)) rfl (u_ rfl) ?_
        refine w_t (pc := 38) (e_s := (39, 1, 0, 0, 0, .null, [])) (y_s := (39, [some (.ref _), some (.int _), some (.int _), none], [.ref _, .ref _], _)) rfl (u_ rfl) ?_
        refine w20 (pc := 39) (len_s := 3) rfl ?_
        refine w_t (pc := 42) (e_s := (0, 1, 0, 0, 0, .int 1, [])) (y_s := (43, [some (.ref _), some (.int _), some (.int _), none], [.int _, .int _, .ref _], _)) rfl (u_ rfl) ?_
        refine w_t (pc := 43) (e_s := (7, 1, 0, 0, 0, .null, [])) (y_s := (44, [some (.ref _), some (.int _), some (.int _), none], [.int (_ + _), .ref _], _)) rfl (u_ rfl) ?_
        refine w21 (pc := 44) (len_s := 3) rfl ?_
        refine w_t (pc := 47) (e_s := (3, 1, 0, 0, 0, .null, [])) (y_s := (48, [some (.ref _), some (.int _), some (.int _), none], [.ref _], _)) rfl (u_ rfl) ?_
        refine wcI (pc := 48) (len_s := 3) rfl rfl (l := [some (.ref _), none, none, none]) rfl (wmI t (fun v9 h9 hk t => ?_))
        replace t := t hk
        refine w_t (pc := 51) (e_s := (4, 1, 3, 0, 0, .null, [])) (y_s := (52, [some (.ref _), some (.int _), some (.int _), some (.int _)], [], _)) rfl (u_ rfl) ?_
        refine w_t (pc := 52) (e_s := (1, 1, 2, 0, 0, .null, [])) (y_s := (53, [some (.ref _), some (.int _), some (.int _), some (.int _)], [.int _], _)) rfl (u_ rfl) ?_
        refine w_t (pc := 53) (e_s := (0, 2, 0, 0, 0, .int 60, [])) (y_s := (55, [some (.ref _), some (.int _), some (.int _), some (.int _)], [.int _, .int _], _)) rfl (u_ rfl) ?_
        refine wi1 (pc := 55) (len_s := 3) (Y := 60) rfl rfl (by decide) (fun c10 => ?_) (fun c10 => ?_)
        · exact absurd c10 c4
        · skip
          refine w_t (pc := 66) (e_s := (1, 1, 2, 0, 0, .null, [])) (y_s := (67, [some (.ref _), some (.int _), some (.int _), some (.int _)], [.int _], _)) rfl (u_ rfl) ?_
          refine w_t (pc := 67) (e_s := (0, 2, 0, 0, 0, .int 61, [])) (y_s := (69, [some (.ref _), some (.int _), some (.int _), some (.int _)], [.int _, .int _], _)) rfl (u_ rfl) ?_
          refine wi1 (pc := 69) (len_s := 3) (Y := 61) rfl rfl (by decide) (fun c11 => ?_) (fun c11 => ?_)
          · skip
            refine w_t (pc := 72) (e_s := (1, 1, 1, 0, 0, .null, [])) (y_s := (73, [some (.ref _), some (.int _), some (.int _), some (.int _)], [.int _], _)) rfl (u_ rfl) ?_
            refine w_t (pc := 73) (e_s := (1, 1, 3, 0, 0, .null, [])) (y_s := (74, [some (.ref _), some (.int _), some (.int _), some (.int _)], [.int _, .int _], _)) rfl (u_ rfl) ?_
            refine wi1 (pc := 74) (len_s := 3) rfl rfl rfl (fun c12 => ?_) (fun c12 => ?_)
            · replace t := t.1 c12
              refine w_t (pc := 77) (e_s := (17, 3, 85, 0, 0, .null, [])) (y_s := (85, [some (.ref _), some (.int _), some (.int _), some (.int _)], [], _)) rfl (u_ rfl) ?_
              refine w_t (pc := 85) (e_s := (0, 1, 0, 0, 0, .int 1, [])) (y_s := (86, [some (.ref _), some (.int _), some (.int _), some (.int _)], [.int _], _)) rfl (u_ rfl) ?_
              refine w_t (pc := 86) (e_s := (17, 3, 90, 0, 0, .null, [])) (y_s := (90, [some (.ref _), some (.int _), some (.int _), some (.int _)], [.int _], _)) rfl (u_ rfl) ?_
              exact wrI (pc := 90) (len_s := 1) rfl hk t
            · replace t := t.2 c12
              refine w_t (pc := 89) (e_s := (0, 1, 0, 0, 0, .int 0, [])) (y_s := (90, [some (.ref _), some (.int _), some (.int _), some (.int _)], [.int _], _)) rfl (u_ rfl) ?_
              exact wrI (pc := 90) (len_s := 1) rfl hk t
          · exact absurd c8 c11
      · replace t := t.2 c8
        refine w_t (pc := 29) (e_s := (1, 1, 2, 0, 0, .null, [])) (y_s := (30, [some (.ref _), some (.int _), some (.int _), none], [.int _], _)) rfl (u_ rfl) ?_
        refine w_t (pc := 30) (e_s := (0, 2, 0, 0, 0, .int 62, [])) (y_s := (32, [some (.ref _), some (.int _), some (.int _), none], [.int _, .int _], _)) rfl (u_ rfl) ?_
        refine wi0 (pc := 32) (len_s := 3) (Y := 62) rfl rfl (by decide) (fun c13 => ?_) (fun c13 => ?_)
        · replace t := t.1 c13
          refine w_t (pc := 37) (e_s := (3, 1, 0, 0, 0, .null, [])) (y_s := (38, [some (.ref _), some (.int _), some (.int _), none], [.ref _], _)) rfl (u_ rfl) ?_
          refine w_t (pc := 38) (e_s := (39, 1, 0, 0, 0, .null, [])) (y_s := (39, [some (.ref _), some (.int _), some (.int _), none], [.ref _, .ref _], _)) rfl (u_ rfl) ?_
          refine w20 (pc := 39) (len_s := 3) rfl ?_
          refine w_t (pc := 42) (e_s := (0, 1, 0, 0, 0, .int 1, [])) (y_s := (43, [some (.ref _), some (.int _), some (.int _), none], [.int _, .int _, .ref _], _)) rfl (u_ rfl) ?_
          refine w_t (pc := 43) (e_s := (7, 1, 0, 0, 0, .null, [])) (y_s := (44, [some (.ref _), some (.int _), some (.int _), none], [.int (_ + _), .ref _], _)) rfl (u_ rfl) ?_
          refine w21 (pc := 44) (len_s := 3) rfl ?_
          refine w_t (pc := 47) (e_s := (3, 1, 0, 0, 0, .null, [])) (y_s := (48, [some (.ref _), some (.int _), some (.int _), none], [.ref _], _)) rfl (u_ rfl) ?_
          refine wcI (pc := 48) (len_s := 3) rfl rfl (l := [some (.ref _), none, none, none]) rfl (wmI t (fun v14 h14 hk t => ?_))
          replace t := t hk
          refine w_t (pc := 51) (e_s := (4, 1, 3, 0, 0, .null, [])) (y_s := (52, [some (.ref _), some (.int _), some (.int _), some (.int _)], [], _)) rfl (u_ rfl) ?_
          refine w_t (pc := 52) (e_s := (1, 1, 2, 0, 0, .null, [])) (y_s := (53, [some (.ref _), some (.int _), some (.int _), some (.int _)], [.int _], _)) rfl (u_ rfl) ?_
          refine w_t (pc := 53) (e_s := (0, 2, 0, 0, 0, .int 60, [])) (y_s := (55, [some (.ref _), some (.int _), some (.int _), some (.int _)], [.int _, .int _], _)) rfl (u_ rfl) ?_
          refine wi1 (pc := 55) (len_s := 3) (Y := 60) rfl rfl (by decide) (fun c15 => ?_) (fun c15 => ?_)
          · exact absurd c15 c4
          · skip
            refine w_t (pc := 66) (e_s := (1, 1, 2, 0, 0, .null, [])) (y_s := (67, [some (.ref _), some (.int _), some (.int _), some (.int _)], [.int _], _)) rfl (u_ rfl) ?_
            refine w_t (pc := 67) (e_s := (0, 2, 0, 0, 0, .int 61, [])) (y_s := (69, [some (.ref _), some (.int _), some (.int _), some (.int _)], [.int _, .int _], _)) rfl (u_ rfl) ?_
            refine wi1 (pc := 69) (len_s := 3) (Y := 61) rfl rfl (by decide) (fun c16 => ?_) (fun c16 => ?_)
            · exact absurd c16 c8
            · skip
              refine w_t (pc := 80) (e_s := (1, 1, 1, 0, 0, .null, [])) (y_s := (81, [some (.ref _), some (.int _), some (.int _), some (.int _)], [.int _], _)) rfl (u_ rfl) ?_
              refine w_t (pc := 81) (e_s := (1, 1, 3, 0, 0, .null, [])) (y_s := (82, [some (.ref _), some (.int _), some (.int _), some (.int _)], [.int _, .int _], _)) rfl (u_ rfl) ?_
              refine wi5 (pc := 82) (len_s := 3) rfl rfl rfl (fun c17 => ?_) (fun c17 => ?_)
              · replace t := t.1 c17
                refine w_t (pc := 85) (e_s := (0, 1, 0, 0, 0, .int 1, [])) (y_s := (86, [some (.ref _), some (.int _), some (.int _), some (.int _)], [.int _], _)) rfl (u_ rfl) ?_
                refine w_t (pc := 86) (e_s := (17, 3, 90, 0, 0, .null, [])) (y_s := (90, [some (.ref _), some (.int _), some (.int _), some (.int _)], [.int _], _)) rfl (u_ rfl) ?_
                exact wrI (pc := 90) (len_s := 1) rfl hk t
              · replace t := t.2 c17
                refine w_t (pc := 89) (e_s := (0, 1, 0, 0, 0, .int 0, [])) (y_s := (90, [some (.ref _), some (.int _), some (.int _), some (.int _)], [.int _], _)) rfl (u_ rfl) ?_
                exact wrI (pc := 90) (len_s := 1) rfl hk t
        · replace t := t.2 c13
          refine w_t (pc := 35) (e_s := (1, 1, 1, 0, 0, .null, [])) (y_s := (36, [some (.ref _), some (.int _), some (.int _), none], [.int _], _)) rfl (u_ rfl) ?_
          exact wrI (pc := 36) (len_s := 1) rfl hk t
  · replace t := t.2 c3
    refine w_t (pc := 35) (e_s := (1, 1, 1, 0, 0, .null, [])) (y_s := (36, [some (.ref _), some (.int _), some (.int _), none], [.int _], _)) rfl (u_ rfl) ?_
    exact wrI (pc := 36) (len_s := 1) rfl hk t
/-- ColdShodModel.sums()I, from 0 on -/
theorem sg_172_0 {F : Nat}  {h : zH} {K : Int32 → zH → Prop} (hk : hKn h) (t : wF F 173 (0, [some (.ref 102), none, none, none], [], h) (gI (fun v1 h1 => hKn h1 → wF F 172 (5, [some (.ref 102), some (.int v1), none, none], [], h1) (gI K)))) : wF (F + 1) 172 (0, [some (.ref 102), none, none, none], [], h) (gI K) := by
  refine w_0 (pc := 0) (e_s := (3, 1, 0, 0, 0, .null, [])) (y_s := (1, [some (.ref _), none, none, none], [.ref _], _)) rfl (u_ rfl) ?_
  refine wcI (pc := 1) (len_s := 3) rfl rfl (l := [some (.ref _), none, none, none]) rfl (wmI t (fun v1 h1 hk t => ?_))
  replace t := t hk
  refine w_t (pc := 4) (e_s := (4, 1, 1, 0, 0, .null, [])) (y_s := (5, [some (.ref _), some (.int _), none, none], [], _)) rfl (u_ rfl) ?_
  exact t
/-- ColdShodModel.sums()I, from 5 on -/
theorem sg_172_5 {F : Nat} {x1 : Int32} {l2 l3 : Option Value} {h : zH} {K : Int32 → zH → Prop} (hk : hKn h) (t : ((h.2.1 102 18).toInt < 0 → wF F 166 (0, [some (.ref 102)], [], h) (gI (fun v2 h2 => hKn h2 → (v2.toInt = 43 → wF F 166 (0, [some (.ref 102)], [], h2) (gI (fun v4 h4 => hKn h4 → (v4.toInt = 43 → wF F 173 (0, [some (.ref 102), none, none, none], [], (h4.1, zup h4.2.1 102 16 ((h4.2.1 102 16) + 1), h4.2.2.1, h4.2.2.2)) (gI (fun v6 h6 => hKn h6 → wF F 172 (5, [some (.ref 102), some (.int (x1 + v6)), some (.int 1), some (.int v6)], [], h6) (gI K)))) ∧ (¬ v4.toInt = 43 → wF F 173 (0, [some (.ref 102), none, none, none], [], (h4.1, zup h4.2.1 102 16 ((h4.2.1 102 16) + 1), h4.2.2.1, h4.2.2.2)) (gI (fun v7 h7 => hKn h7 → wF F 172 (5, [some (.ref 102), some (.int (x1 - v7)), some (.int 0), some (.int v7)], [], h7) (gI K))))))) ∧ (¬ v2.toInt = 43 → wF F 166 (0, [some (.ref 102)], [], h2) (gI (fun v8 h8 => hKn h8 → (v8.toInt = 45 → wF F 166 (0, [some (.ref 102)], [], h8) (gI (fun v10 h10 => hKn h10 → (v10.toInt = 43 → wF F 173 (0, [some (.ref 102), none, none, none], [], (h10.1, zup h10.2.1 102 16 ((h10.2.1 102 16) + 1), h10.2.2.1, h10.2.2.2)) (gI (fun v12 h12 => hKn h12 → wF F 172 (5, [some (.ref 102), some (.int (x1 + v12)), some (.int 1), some (.int v12)], [], h12) (gI K)))) ∧ (¬ v10.toInt = 43 → wF F 173 (0, [some (.ref 102), none, none, none], [], (h10.1, zup h10.2.1 102 16 ((h10.2.1 102 16) + 1), h10.2.2.1, h10.2.2.2)) (gI (fun v13 h13 => hKn h13 → wF F 172 (5, [some (.ref 102), some (.int (x1 - v13)), some (.int 0), some (.int v13)], [], h13) (gI K))))))) ∧ (¬ v8.toInt = 45 → K x1 h8))))))) ∧ (¬ (h.2.1 102 18).toInt < 0 → K x1 h)) : wF (F + 1) 172 (5, [some (.ref 102), some (.int x1), l2, l3], [], h) (gI K) := by
  refine w_0 (pc := 5) (e_s := (3, 1, 0, 0, 0, .null, [])) (y_s := (6, [some (.ref _), some (.int _), _, _], [.ref _], _)) rfl (u_ rfl) ?_
  refine w20 (pc := 6) (len_s := 3) rfl ?_
  refine wq3 (pc := 9) (len_s := 3) rfl rfl (fun c1 => ?_) (fun c1 => ?_)
  · replace t := t.1 c1
    refine w_t (pc := 12) (e_s := (3, 1, 0, 0, 0, .null, [])) (y_s := (13, [some (.ref _), some (.int _), _, _], [.ref _], _)) rfl (u_ rfl) ?_
    refine wcI (pc := 13) (len_s := 3) rfl rfl (l := [some (.ref _)]) rfl (wmI t (fun v2 h2 hk t => ?_))
    replace t := t hk
    refine w_t (pc := 16) (e_s := (0, 2, 0, 0, 0, .int 43, [])) (y_s := (18, [some (.ref _), some (.int _), _, _], [.int _, .int _], _)) rfl (u_ rfl) ?_
    refine wi0 (pc := 18) (len_s := 3) (Y := 43) rfl rfl (by decide) (fun c3 => ?_) (fun c3 => ?_)
    · replace t := t.1 c3
      refine w_t (pc := 30) (e_s := (3, 1, 0, 0, 0, .null, [])) (y_s := (31, [some (.ref _), some (.int _), _, _], [.ref _], _)) rfl (u_ rfl) ?_
      refine wcI (pc := 31) (len_s := 3) rfl rfl (l := [some (.ref _)]) rfl (wmI t (fun v4 h4 hk t => ?_))
      replace t := t hk
      refine w_t (pc := 34) (e_s := (0, 2, 0, 0, 0, .int 43, [])) (y_s := (36, [some (.ref _), some (.int _), _, _], [.int _, .int _], _)) rfl (u_ rfl) ?_
      refine wi1 (pc := 36) (len_s := 3) (Y := 43) rfl rfl (by decide) (fun c5 => ?_) (fun c5 => ?_)
      · replace t := t.1 c5
        refine w_t (pc := 39) (e_s := (0, 1, 0, 0, 0, .int 1, [])) (y_s := (40, [some (.ref _), some (.int _), _, _], [.int _], _)) rfl (u_ rfl) ?_
        refine w_t (pc := 40) (e_s := (17, 3, 44, 0, 0, .null, [])) (y_s := (44, [some (.ref _), some (.int _), _, _], [.int _], _)) rfl (u_ rfl) ?_
        refine w_t (pc := 44) (e_s := (4, 1, 2, 0, 0, .null, [])) (y_s := (45, [some (.ref _), some (.int _), some (.int _), _], [], _)) rfl (u_ rfl) ?_
        refine w_t (pc := 45) (e_s := (3, 1, 0, 0, 0, .null, [])) (y_s := (46, [some (.ref _), some (.int _), some (.int _), _], [.ref _], _)) rfl (u_ rfl) ?_
        refine w_t (pc := 46) (e_s := (39, 1, 0, 0, 0, .null, [])) (y_s := (47, [some (.ref _), some (.int _), some (.int _), _], [.ref _, .ref _], _)) rfl (u_ rfl) ?_
        refine w20 (pc := 47) (len_s := 3) rfl ?_
        refine w_t (pc := 50) (e_s := (0, 1, 0, 0, 0, .int 1, [])) (y_s := (51, [some (.ref _), some (.int _), some (.int _), _], [.int _, .int _, .ref _], _)) rfl (u_ rfl) ?_
        refine w_t (pc := 51) (e_s := (7, 1, 0, 0, 0, .null, [])) (y_s := (52, [some (.ref _), some (.int _), some (.int _), _], [.int (_ + _), .ref _], _)) rfl (u_ rfl) ?_
        refine w21 (pc := 52) (len_s := 3) rfl ?_
        refine w_t (pc := 55) (e_s := (3, 1, 0, 0, 0, .null, [])) (y_s := (56, [some (.ref _), some (.int _), some (.int _), _], [.ref _], _)) rfl (u_ rfl) ?_
        refine wcI (pc := 56) (len_s := 3) rfl rfl (l := [some (.ref _), none, none, none]) rfl (wmI t (fun v6 h6 hk t => ?_))
        replace t := t hk
        refine w_t (pc := 59) (e_s := (4, 1, 3, 0, 0, .null, [])) (y_s := (60, [some (.ref _), some (.int _), some (.int _), some (.int _)], [], _)) rfl (u_ rfl) ?_
        refine w_t (pc := 60) (e_s := (1, 1, 2, 0, 0, .null, [])) (y_s := (61, [some (.ref _), some (.int _), some (.int _), some (.int _)], [.int _], _)) rfl (u_ rfl) ?_
        refine w_t (pc := 61) (e_s := (15, 3, 70, 0, 0, .null, [])) (y_s := (64, [some (.ref _), some (.int _), some (.int _), some (.int _)], [], _)) rfl (u_ rfl) ?_
        refine w_t (pc := 64) (e_s := (1, 1, 1, 0, 0, .null, [])) (y_s := (65, [some (.ref _), some (.int _), some (.int _), some (.int _)], [.int _], _)) rfl (u_ rfl) ?_
        refine w_t (pc := 65) (e_s := (1, 1, 3, 0, 0, .null, [])) (y_s := (66, [some (.ref _), some (.int _), some (.int _), some (.int _)], [.int _, .int _], _)) rfl (u_ rfl) ?_
        refine w_t (pc := 66) (e_s := (7, 1, 0, 0, 0, .null, [])) (y_s := (67, [some (.ref _), some (.int _), some (.int _), some (.int _)], [.int (_ + _)], _)) rfl (u_ rfl) ?_
        refine w_t (pc := 67) (e_s := (17, 3, 73, 0, 0, .null, [])) (y_s := (73, [some (.ref _), some (.int _), some (.int _), some (.int _)], [.int _], _)) rfl (u_ rfl) ?_
        refine w_t (pc := 73) (e_s := (4, 1, 1, 0, 0, .null, [])) (y_s := (74, [some (.ref _), some (.int _), some (.int _), some (.int _)], [], _)) rfl (u_ rfl) ?_
        refine w_t (pc := 74) (e_s := (17, 3, 5, 0, 0, .null, [])) (y_s := (5, [some (.ref _), some (.int _), some (.int _), some (.int _)], [], _)) rfl (u_ rfl) ?_
        exact t
      · replace t := t.2 c5
        refine w_t (pc := 43) (e_s := (0, 1, 0, 0, 0, .int 0, [])) (y_s := (44, [some (.ref _), some (.int _), _, _], [.int _], _)) rfl (u_ rfl) ?_
        refine w_t (pc := 44) (e_s := (4, 1, 2, 0, 0, .null, [])) (y_s := (45, [some (.ref _), some (.int _), some (.int _), _], [], _)) rfl (u_ rfl) ?_
        refine w_t (pc := 45) (e_s := (3, 1, 0, 0, 0, .null, [])) (y_s := (46, [some (.ref _), some (.int _), some (.int _), _], [.ref _], _)) rfl (u_ rfl) ?_
        refine w_t (pc := 46) (e_s := (39, 1, 0, 0, 0, .null, [])) (y_s := (47, [some (.ref _), some (.int _), some (.int _), _], [.ref _, .ref _], _)) rfl (u_ rfl) ?_
        refine w20 (pc := 47) (len_s := 3) rfl ?_
        refine w_t (pc := 50) (e_s := (0, 1, 0, 0, 0, .int 1, [])) (y_s := (51, [some (.ref _), some (.int _), some (.int _), _], [.int _, .int _, .ref _], _)) rfl (u_ rfl) ?_
        refine w_t (pc := 51) (e_s := (7, 1, 0, 0, 0, .null, [])) (y_s := (52, [some (.ref _), some (.int _), some (.int _), _], [.int (_ + _), .ref _], _)) rfl (u_ rfl) ?_
        refine w21 (pc := 52) (len_s := 3) rfl ?_
        refine w_t (pc := 55) (e_s := (3, 1, 0, 0, 0, .null, [])) (y_s := (56, [some (.ref _), some (.int _), some (.int _), _], [.ref _], _)) rfl (u_ rfl) ?_
        refine wcI (pc := 56) (len_s := 3) rfl rfl (l := [some (.ref _), none, none, none]) rfl (wmI t (fun v7 h7 hk t => ?_))
        replace t := t hk
        refine w_t (pc := 59) (e_s := (4, 1, 3, 0, 0, .null, [])) (y_s := (60, [some (.ref _), some (.int _), some (.int _), some (.int _)], [], _)) rfl (u_ rfl) ?_
        refine w_t (pc := 60) (e_s := (1, 1, 2, 0, 0, .null, [])) (y_s := (61, [some (.ref _), some (.int _), some (.int _), some (.int _)], [.int _], _)) rfl (u_ rfl) ?_
        refine w_t (pc := 61) (e_s := (15, 3, 70, 0, 0, .null, [])) (y_s := (70, [some (.ref _), some (.int _), some (.int _), some (.int _)], [], _)) rfl (u_ rfl) ?_
        refine w_t (pc := 70) (e_s := (1, 1, 1, 0, 0, .null, [])) (y_s := (71, [some (.ref _), some (.int _), some (.int _), some (.int _)], [.int _], _)) rfl (u_ rfl) ?_
        refine w_t (pc := 71) (e_s := (1, 1, 3, 0, 0, .null, [])) (y_s := (72, [some (.ref _), some (.int _), some (.int _), some (.int _)], [.int _, .int _], _)) rfl (u_ rfl) ?_
        refine w_t (pc := 72) (e_s := (7, 1, 0, 1, 0, .null, [])) (y_s := (73, [some (.ref _), some (.int _), some (.int _), some (.int _)], [.int (_ - _)], _)) rfl (u_ rfl) ?_
        refine w_t (pc := 73) (e_s := (4, 1, 1, 0, 0, .null, [])) (y_s := (74, [some (.ref _), some (.int _), some (.int _), some (.int _)], [], _)) rfl (u_ rfl) ?_
        refine w_t (pc := 74) (e_s := (17, 3, 5, 0, 0, .null, [])) (y_s := (5, [some (.ref _), some (.int _), some (.int _), some (.int _)], [], _)) rfl (u_ rfl) ?_
        exact t
    · replace t := t.2 c3
      refine w_t (pc := 21) (e_s := (3, 1, 0, 0, 0, .null, [])) (y_s := (22, [some (.ref _), some (.int _), _, _], [.ref _], _)) rfl (u_ rfl) ?_
      refine wcI (pc := 22) (len_s := 3) rfl rfl (l := [some (.ref _)]) rfl (wmI t (fun v8 h8 hk t => ?_))
      replace t := t hk
      refine w_t (pc := 25) (e_s := (0, 2, 0, 0, 0, .int 45, [])) (y_s := (27, [some (.ref _), some (.int _), _, _], [.int _, .int _], _)) rfl (u_ rfl) ?_
      refine wi1 (pc := 27) (len_s := 3) (Y := 45) rfl rfl (by decide) (fun c9 => ?_) (fun c9 => ?_)
      · replace t := t.1 c9
        refine w_t (pc := 30) (e_s := (3, 1, 0, 0, 0, .null, [])) (y_s := (31, [some (.ref _), some (.int _), _, _], [.ref _], _)) rfl (u_ rfl) ?_
        refine wcI (pc := 31) (len_s := 3) rfl rfl (l := [some (.ref _)]) rfl (wmI t (fun v10 h10 hk t => ?_))
        replace t := t hk
        refine w_t (pc := 34) (e_s := (0, 2, 0, 0, 0, .int 43, [])) (y_s := (36, [some (.ref _), some (.int _), _, _], [.int _, .int _], _)) rfl (u_ rfl) ?_
        refine wi1 (pc := 36) (len_s := 3) (Y := 43) rfl rfl (by decide) (fun c11 => ?_) (fun c11 => ?_)
        · replace t := t.1 c11
          refine w_t (pc := 39) (e_s := (0, 1, 0, 0, 0, .int 1, [])) (y_s := (40, [some (.ref _), some (.int _), _, _], [.int _], _)) rfl (u_ rfl) ?_
          refine w_t (pc := 40) (e_s := (17, 3, 44, 0, 0, .null, [])) (y_s := (44, [some (.ref _), some (.int _), _, _], [.int _], _)) rfl (u_ rfl) ?_
          refine w_t (pc := 44) (e_s := (4, 1, 2, 0, 0, .null, [])) (y_s := (45, [some (.ref _), some (.int _), some (.int _), _], [], _)) rfl (u_ rfl) ?_
          refine w_t (pc := 45) (e_s := (3, 1, 0, 0, 0, .null, [])) (y_s := (46, [some (.ref _), some (.int _), some (.int _), _], [.ref _], _)) rfl (u_ rfl) ?_
          refine w_t (pc := 46) (e_s := (39, 1, 0, 0, 0, .null, [])) (y_s := (47, [some (.ref _), some (.int _), some (.int _), _], [.ref _, .ref _], _)) rfl (u_ rfl) ?_
          refine w20 (pc := 47) (len_s := 3) rfl ?_
          refine w_t (pc := 50) (e_s := (0, 1, 0, 0, 0, .int 1, [])) (y_s := (51, [some (.ref _), some (.int _), some (.int _), _], [.int _, .int _, .ref _], _)) rfl (u_ rfl) ?_
          refine w_t (pc := 51) (e_s := (7, 1, 0, 0, 0, .null, [])) (y_s := (52, [some (.ref _), some (.int _), some (.int _), _], [.int (_ + _), .ref _], _)) rfl (u_ rfl) ?_
          refine w21 (pc := 52) (len_s := 3) rfl ?_
          refine w_t (pc := 55) (e_s := (3, 1, 0, 0, 0, .null, [])) (y_s := (56, [some (.ref _), some (.int _), some (.int _), _], [.ref _], _)) rfl (u_ rfl) ?_
          refine wcI (pc := 56) (len_s := 3) rfl rfl (l := [some (.ref _), none, none, none]) rfl (wmI t (fun v12 h12 hk t => ?_))
          replace t := t hk
          refine w_t (pc := 59) (e_s := (4, 1, 3, 0, 0, .null, [])) (y_s := (60, [some (.ref _), some (.int _), some (.int _), some (.int _)], [], _)) rfl (u_ rfl) ?_
          refine w_t (pc := 60) (e_s := (1, 1, 2, 0, 0, .null, [])) (y_s := (61, [some (.ref _), some (.int _), some (.int _), some (.int _)], [.int _], _)) rfl (u_ rfl) ?_
          refine w_t (pc := 61) (e_s := (15, 3, 70, 0, 0, .null, [])) (y_s := (64, [some (.ref _), some (.int _), some (.int _), some (.int _)], [], _)) rfl (u_ rfl) ?_
          refine w_t (pc := 64) (e_s := (1, 1, 1, 0, 0, .null, [])) (y_s := (65, [some (.ref _), some (.int _), some (.int _), some (.int _)], [.int _], _)) rfl (u_ rfl) ?_
          refine w_t (pc := 65) (e_s := (1, 1, 3, 0, 0, .null, [])) (y_s := (66, [some (.ref _), some (.int _), some (.int _), some (.int _)], [.int _, .int _], _)) rfl (u_ rfl) ?_
          refine w_t (pc := 66) (e_s := (7, 1, 0, 0, 0, .null, [])) (y_s := (67, [some (.ref _), some (.int _), some (.int _), some (.int _)], [.int (_ + _)], _)) rfl (u_ rfl) ?_
          refine w_t (pc := 67) (e_s := (17, 3, 73, 0, 0, .null, [])) (y_s := (73, [some (.ref _), some (.int _), some (.int _), some (.int _)], [.int _], _)) rfl (u_ rfl) ?_
          refine w_t (pc := 73) (e_s := (4, 1, 1, 0, 0, .null, [])) (y_s := (74, [some (.ref _), some (.int _), some (.int _), some (.int _)], [], _)) rfl (u_ rfl) ?_
          refine w_t (pc := 74) (e_s := (17, 3, 5, 0, 0, .null, [])) (y_s := (5, [some (.ref _), some (.int _), some (.int _), some (.int _)], [], _)) rfl (u_ rfl) ?_
          exact t
        · replace t := t.2 c11
          refine w_t (pc := 43) (e_s := (0, 1, 0, 0, 0, .int 0, [])) (y_s := (44, [some (.ref _), some (.int _), _, _], [.int _], _)) rfl (u_ rfl) ?_
          refine w_t (pc := 44) (e_s := (4, 1, 2, 0, 0, .null, [])) (y_s := (45, [some (.ref _), some (.int _), some (.int _), _], [], _)) rfl (u_ rfl) ?_
          refine w_t (pc := 45) (e_s := (3, 1, 0, 0, 0, .null, [])) (y_s := (46, [some (.ref _), some (.int _), some (.int _), _], [.ref _], _)) rfl (u_ rfl) ?_
          refine w_t (pc := 46) (e_s := (39, 1, 0, 0, 0, .null, [])) (y_s := (47, [some (.ref _), some (.int _), some (.int _), _], [.ref _, .ref _], _)) rfl (u_ rfl) ?_
          refine w20 (pc := 47) (len_s := 3) rfl ?_
          refine w_t (pc := 50) (e_s := (0, 1, 0, 0, 0, .int 1, [])) (y_s := (51, [some (.ref _), some (.int _), some (.int _), _], [.int _, .int _, .ref _], _)) rfl (u_ rfl) ?_
          refine w_t (pc := 51) (e_s := (7, 1, 0, 0, 0, .null, [])) (y_s := (52, [some (.ref _), some (.int _), some (.int _), _], [.int (_ + _), .ref _], _)) rfl (u_ rfl) ?_
          refine w21 (pc := 52) (len_s := 3) rfl ?_
          refine w_t (pc := 55) (e_s := (3, 1, 0, 0, 0, .null, [])) (y_s := (56, [some (.ref _), some (.int _), some (.int _), _], [.ref _], _)) rfl (u_ rfl) ?_
          refine wcI (pc := 56) (len_s := 3) rfl rfl (l := [some (.ref _), none, none, none]) rfl (wmI t (fun v13 h13 hk t => ?_))
          replace t := t hk
          refine w_t (pc := 59) (e_s := (4, 1, 3, 0, 0, .null, [])) (y_s := (60, [some (.ref _), some (.int _), some (.int _), some (.int _)], [], _)) rfl (u_ rfl) ?_
          refine w_t (pc := 60) (e_s := (1, 1, 2, 0, 0, .null, [])) (y_s := (61, [some (.ref _), some (.int _), some (.int _), some (.int _)], [.int _], _)) rfl (u_ rfl) ?_
          refine w_t (pc := 61) (e_s := (15, 3, 70, 0, 0, .null, [])) (y_s := (70, [some (.ref _), some (.int _), some (.int _), some (.int _)], [], _)) rfl (u_ rfl) ?_
          refine w_t (pc := 70) (e_s := (1, 1, 1, 0, 0, .null, [])) (y_s := (71, [some (.ref _), some (.int _), some (.int _), some (.int _)], [.int _], _)) rfl (u_ rfl) ?_
          refine w_t (pc := 71) (e_s := (1, 1, 3, 0, 0, .null, [])) (y_s := (72, [some (.ref _), some (.int _), some (.int _), some (.int _)], [.int _, .int _], _)) rfl (u_ rfl) ?_
          refine w_t (pc := 72) (e_s := (7, 1, 0, 1, 0, .null, [])) (y_s := (73, [some (.ref _), some (.int _), some (.int _), some (.int _)], [.int (_ - _)], _)) rfl (u_ rfl) ?_
          refine w_t (pc := 73) (e_s := (4, 1, 1, 0, 0, .null, [])) (y_s := (74, [some (.ref _), some (.int _), some (.int _), some (.int _)], [], _)) rfl (u_ rfl) ?_
          refine w_t (pc := 74) (e_s := (17, 3, 5, 0, 0, .null, [])) (y_s := (5, [some (.ref _), some (.int _), some (.int _), some (.int _)], [], _)) rfl (u_ rfl) ?_
          exact t
      · replace t := t.2 c9
        refine w_t (pc := 77) (e_s := (1, 1, 1, 0, 0, .null, [])) (y_s := (78, [some (.ref _), some (.int _), _, _], [.int _], _)) rfl (u_ rfl) ?_
        exact wrI (pc := 78) (len_s := 1) rfl hk t
  · replace t := t.2 c1
    refine w_t (pc := 77) (e_s := (1, 1, 1, 0, 0, .null, [])) (y_s := (78, [some (.ref _), some (.int _), _, _], [.int _], _)) rfl (u_ rfl) ?_
    exact wrI (pc := 78) (len_s := 1) rfl hk t
/-- ColdShodModel.product()I, from 0 on -/
theorem sg_173_0 {F : Nat}  {h : zH} {K : Int32 → zH → Prop} (hk : hKn h) (t : wF F 175 (0, [some (.ref 102), none, none, none, none], [], h) (gI (fun v1 h1 => hKn h1 → wF F 166 (0, [some (.ref 102)], [], h1) (gI (fun v2 h2 => hKn h2 → wF F 173 (10, [some (.ref 102), some (.int v1), some (.int v2), none], [], h2) (gI K)))))) : wF (F + 1) 173 (0, [some (.ref 102), none, none, none], [], h) (gI K) := by
  refine w_0 (pc := 0) (e_s := (3, 1, 0, 0, 0, .null, [])) (y_s := (1, [some (.ref _), none, none, none], [.ref _], _)) rfl (u_ rfl) ?_
  refine wcI (pc := 1) (len_s := 3) rfl rfl (l := [some (.ref _), none, none, none, none]) rfl (wmI t (fun v1 h1 hk t => ?_))
  replace t := t hk
  refine w_t (pc := 4) (e_s := (4, 1, 1, 0, 0, .null, [])) (y_s := (5, [some (.ref _), some (.int _), none, none], [], _)) rfl (u_ rfl) ?_
  refine w_t (pc := 5) (e_s := (3, 1, 0, 0, 0, .null, [])) (y_s := (6, [some (.ref _), some (.int _), none, none], [.ref _], _)) rfl (u_ rfl) ?_
  refine wcI (pc := 6) (len_s := 3) rfl rfl (l := [some (.ref _)]) rfl (wmI t (fun v2 h2 hk t => ?_))
  replace t := t hk
  refine w_t (pc := 9) (e_s := (4, 1, 2, 0, 0, .null, [])) (y_s := (10, [some (.ref _), some (.int _), some (.int _), none], [], _)) rfl (u_ rfl) ?_
  exact t
/-- ColdShodModel.product()I, from 10 on -/
theorem sg_173_10 {F : Nat} {x1 x2 : Int32} {l3 : Option Value} {h : zH} {K : Int32 → zH → Prop} (hk : hKn h) (t : ((h.2.1 102 18).toInt < 0 → ((x2.toInt = 42 → wF F 175 (0, [some (.ref 102), none, none, none, none], [], (h.1, zup h.2.1 102 16 ((h.2.1 102 16) + 1), h.2.2.1, h.2.2.2)) (gI (fun v3 h3 => hKn h3 → wF F 166 (0, [some (.ref 102)], [], h3) (gI (fun v5 h5 => hKn h5 → wF F 173 (10, [some (.ref 102), some (.int (x1 * v3)), some (.int v5), some (.int v3)], [], h5) (gI K)))))) ∧ (¬ x2.toInt = 42 → ((x2.toInt = 47 → wF F 175 (0, [some (.ref 102), none, none, none, none], [], (h.1, zup h.2.1 102 16 ((h.2.1 102 16) + 1), h.2.2.1, h.2.2.2)) (gI (fun v7 h7 => hKn h7 → (v7.toInt = 0 → wF F 166 (0, [some (.ref 102)], [], h7) (gI (fun v10 h10 => hKn h10 → wF F 173 (10, [some (.ref 102), some (.int 0), some (.int v10), some (.int v7)], [], h10) (gI K)))) ∧ (¬ v7.toInt = 0 → wF F 166 (0, [some (.ref 102)], [], h7) (gI (fun v12 h12 => hKn h12 → wF F 173 (10, [some (.ref 102), some (.int (x1 / v7)), some (.int v12), some (.int v7)], [], h12) (gI K))))))) ∧ (¬ x2.toInt = 47 → ((x2.toInt = 37 → wF F 175 (0, [some (.ref 102), none, none, none, none], [], (h.1, zup h.2.1 102 16 ((h.2.1 102 16) + 1), h.2.2.1, h.2.2.2)) (gI (fun v14 h14 => hKn h14 → (v14.toInt = 0 → wF F 166 (0, [some (.ref 102)], [], h14) (gI (fun v17 h17 => hKn h17 → wF F 173 (10, [some (.ref 102), some (.int 0), some (.int v17), some (.int v14)], [], h17) (gI K)))) ∧ (¬ v14.toInt = 0 → wF F 166 (0, [some (.ref 102)], [], h14) (gI (fun v19 h19 => hKn h19 → wF F 173 (10, [some (.ref 102), some (.int (x1 - x1 / v14 * v14)), some (.int v19), some (.int v14)], [], h19) (gI K))))))) ∧ (¬ x2.toInt = 37 → K x1 h))))))) ∧ (¬ (h.2.1 102 18).toInt < 0 → K x1 h)) : wF (F + 1) 173 (10, [some (.ref 102), some (.int x1), some (.int x2), l3], [], h) (gI K) := by
  refine w_0 (pc := 10) (e_s := (3, 1, 0, 0, 0, .null, [])) (y_s := (11, [some (.ref _), some (.int _), some (.int _), _], [.ref _], _)) rfl (u_ rfl) ?_
  refine w20 (pc := 11) (len_s := 3) rfl ?_
  refine wq3 (pc := 14) (len_s := 3) rfl rfl (fun c1 => ?_) (fun c1 => ?_)
  · replace t := t.1 c1
    refine w_t (pc := 17) (e_s := (1, 1, 2, 0, 0, .null, [])) (y_s := (18, [some (.ref _), some (.int _), some (.int _), _], [.int _], _)) rfl (u_ rfl) ?_
    refine w_t (pc := 18) (e_s := (0, 2, 0, 0, 0, .int 42, [])) (y_s := (20, [some (.ref _), some (.int _), some (.int _), _], [.int _, .int _], _)) rfl (u_ rfl) ?_
    refine wi0 (pc := 20) (len_s := 3) (Y := 42) rfl rfl (by decide) (fun c2 => ?_) (fun c2 => ?_)
    · replace t := t.1 c2
      refine w_t (pc := 35) (e_s := (3, 1, 0, 0, 0, .null, [])) (y_s := (36, [some (.ref _), some (.int _), some (.int _), _], [.ref _], _)) rfl (u_ rfl) ?_
      refine w_t (pc := 36) (e_s := (39, 1, 0, 0, 0, .null, [])) (y_s := (37, [some (.ref _), some (.int _), some (.int _), _], [.ref _, .ref _], _)) rfl (u_ rfl) ?_
      refine w20 (pc := 37) (len_s := 3) rfl ?_
      refine w_t (pc := 40) (e_s := (0, 1, 0, 0, 0, .int 1, [])) (y_s := (41, [some (.ref _), some (.int _), some (.int _), _], [.int _, .int _, .ref _], _)) rfl (u_ rfl) ?_
      refine w_t (pc := 41) (e_s := (7, 1, 0, 0, 0, .null, [])) (y_s := (42, [some (.ref _), some (.int _), some (.int _), _], [.int (_ + _), .ref _], _)) rfl (u_ rfl) ?_
      refine w21 (pc := 42) (len_s := 3) rfl ?_
      refine w_t (pc := 45) (e_s := (3, 1, 0, 0, 0, .null, [])) (y_s := (46, [some (.ref _), some (.int _), some (.int _), _], [.ref _], _)) rfl (u_ rfl) ?_
      refine wcI (pc := 46) (len_s := 3) rfl rfl (l := [some (.ref _), none, none, none, none]) rfl (wmI t (fun v3 h3 hk t => ?_))
      replace t := t hk
      refine w_t (pc := 49) (e_s := (4, 1, 3, 0, 0, .null, [])) (y_s := (50, [some (.ref _), some (.int _), some (.int _), some (.int _)], [], _)) rfl (u_ rfl) ?_
      refine w_t (pc := 50) (e_s := (1, 1, 2, 0, 0, .null, [])) (y_s := (51, [some (.ref _), some (.int _), some (.int _), some (.int _)], [.int _], _)) rfl (u_ rfl) ?_
      refine w_t (pc := 51) (e_s := (0, 2, 0, 0, 0, .int 42, [])) (y_s := (53, [some (.ref _), some (.int _), some (.int _), some (.int _)], [.int _, .int _], _)) rfl (u_ rfl) ?_
      refine wi1 (pc := 53) (len_s := 3) (Y := 42) rfl rfl (by decide) (fun c4 => ?_) (fun c4 => ?_)
      · skip
        refine w_t (pc := 56) (e_s := (1, 1, 1, 0, 0, .null, [])) (y_s := (57, [some (.ref _), some (.int _), some (.int _), some (.int _)], [.int _], _)) rfl (u_ rfl) ?_
        refine w_t (pc := 57) (e_s := (1, 1, 3, 0, 0, .null, [])) (y_s := (58, [some (.ref _), some (.int _), some (.int _), some (.int _)], [.int _, .int _], _)) rfl (u_ rfl) ?_
        refine w_t (pc := 58) (e_s := (7, 1, 0, 2, 0, .null, [])) (y_s := (59, [some (.ref _), some (.int _), some (.int _), some (.int _)], [.int (_ * _)], _)) rfl (u_ rfl) ?_
        refine w_t (pc := 59) (e_s := (17, 3, 85, 0, 0, .null, [])) (y_s := (85, [some (.ref _), some (.int _), some (.int _), some (.int _)], [.int _], _)) rfl (u_ rfl) ?_
        refine w_t (pc := 85) (e_s := (4, 1, 1, 0, 0, .null, [])) (y_s := (86, [some (.ref _), some (.int _), some (.int _), some (.int _)], [], _)) rfl (u_ rfl) ?_
        refine w_t (pc := 86) (e_s := (3, 1, 0, 0, 0, .null, [])) (y_s := (87, [some (.ref _), some (.int _), some (.int _), some (.int _)], [.ref _], _)) rfl (u_ rfl) ?_
        refine wcI (pc := 87) (len_s := 3) rfl rfl (l := [some (.ref _)]) rfl (wmI t (fun v5 h5 hk t => ?_))
        replace t := t hk
        refine w_t (pc := 90) (e_s := (4, 1, 2, 0, 0, .null, [])) (y_s := (91, [some (.ref _), some (.int _), some (.int _), some (.int _)], [], _)) rfl (u_ rfl) ?_
        refine w_t (pc := 91) (e_s := (17, 3, 10, 0, 0, .null, [])) (y_s := (10, [some (.ref _), some (.int _), some (.int _), some (.int _)], [], _)) rfl (u_ rfl) ?_
        exact t
      · exact absurd c2 c4
    · replace t := t.2 c2
      refine w_t (pc := 23) (e_s := (1, 1, 2, 0, 0, .null, [])) (y_s := (24, [some (.ref _), some (.int _), some (.int _), _], [.int _], _)) rfl (u_ rfl) ?_
      refine w_t (pc := 24) (e_s := (0, 2, 0, 0, 0, .int 47, [])) (y_s := (26, [some (.ref _), some (.int _), some (.int _), _], [.int _, .int _], _)) rfl (u_ rfl) ?_
      refine wi0 (pc := 26) (len_s := 3) (Y := 47) rfl rfl (by decide) (fun c6 => ?_) (fun c6 => ?_)
      · replace t := t.1 c6
        refine w_t (pc := 35) (e_s := (3, 1, 0, 0, 0, .null, [])) (y_s := (36, [some (.ref _), some (.int _), some (.int _), _], [.ref _], _)) rfl (u_ rfl) ?_
        refine w_t (pc := 36) (e_s := (39, 1, 0, 0, 0, .null, [])) (y_s := (37, [some (.ref _), some (.int _), some (.int _), _], [.ref _, .ref _], _)) rfl (u_ rfl) ?_
        refine w20 (pc := 37) (len_s := 3) rfl ?_
        refine w_t (pc := 40) (e_s := (0, 1, 0, 0, 0, .int 1, [])) (y_s := (41, [some (.ref _), some (.int _), some (.int _), _], [.int _, .int _, .ref _], _)) rfl (u_ rfl) ?_
        refine w_t (pc := 41) (e_s := (7, 1, 0, 0, 0, .null, [])) (y_s := (42, [some (.ref _), some (.int _), some (.int _), _], [.int (_ + _), .ref _], _)) rfl (u_ rfl) ?_
        refine w21 (pc := 42) (len_s := 3) rfl ?_
        refine w_t (pc := 45) (e_s := (3, 1, 0, 0, 0, .null, [])) (y_s := (46, [some (.ref _), some (.int _), some (.int _), _], [.ref _], _)) rfl (u_ rfl) ?_
        refine wcI (pc := 46) (len_s := 3) rfl rfl (l := [some (.ref _), none, none, none, none]) rfl (wmI t (fun v7 h7 hk t => ?_))
        replace t := t hk
        refine w_t (pc := 49) (e_s := (4, 1, 3, 0, 0, .null, [])) (y_s := (50, [some (.ref _), some (.int _), some (.int _), some (.int _)], [], _)) rfl (u_ rfl) ?_
        refine w_t (pc := 50) (e_s := (1, 1, 2, 0, 0, .null, [])) (y_s := (51, [some (.ref _), some (.int _), some (.int _), some (.int _)], [.int _], _)) rfl (u_ rfl) ?_
        refine w_t (pc := 51) (e_s := (0, 2, 0, 0, 0, .int 42, [])) (y_s := (53, [some (.ref _), some (.int _), some (.int _), some (.int _)], [.int _, .int _], _)) rfl (u_ rfl) ?_
        refine wi1 (pc := 53) (len_s := 3) (Y := 42) rfl rfl (by decide) (fun c8 => ?_) (fun c8 => ?_)
        · exact absurd c8 c2
        · skip
          refine w_t (pc := 62) (e_s := (1, 1, 3, 0, 0, .null, [])) (y_s := (63, [some (.ref _), some (.int _), some (.int _), some (.int _)], [.int _], _)) rfl (u_ rfl) ?_
          refine wq1 (pc := 63) (len_s := 3) rfl rfl (fun c9 => ?_) (fun c9 => ?_)
          · replace t := t.1 c9
            refine w_t (pc := 66) (e_s := (0, 1, 0, 0, 0, .int 0, [])) (y_s := (67, [some (.ref _), some (.int _), some (.int _), some (.int _)], [.int _], _)) rfl (u_ rfl) ?_
            refine w_t (pc := 67) (e_s := (17, 3, 85, 0, 0, .null, [])) (y_s := (85, [some (.ref _), some (.int _), some (.int _), some (.int _)], [.int _], _)) rfl (u_ rfl) ?_
            refine w_t (pc := 85) (e_s := (4, 1, 1, 0, 0, .null, [])) (y_s := (86, [some (.ref _), some (.int _), some (.int _), some (.int _)], [], _)) rfl (u_ rfl) ?_
            refine w_t (pc := 86) (e_s := (3, 1, 0, 0, 0, .null, [])) (y_s := (87, [some (.ref _), some (.int _), some (.int _), some (.int _)], [.ref _], _)) rfl (u_ rfl) ?_
            refine wcI (pc := 87) (len_s := 3) rfl rfl (l := [some (.ref _)]) rfl (wmI t (fun v10 h10 hk t => ?_))
            replace t := t hk
            refine w_t (pc := 90) (e_s := (4, 1, 2, 0, 0, .null, [])) (y_s := (91, [some (.ref _), some (.int _), some (.int _), some (.int _)], [], _)) rfl (u_ rfl) ?_
            refine w_t (pc := 91) (e_s := (17, 3, 10, 0, 0, .null, [])) (y_s := (10, [some (.ref _), some (.int _), some (.int _), some (.int _)], [], _)) rfl (u_ rfl) ?_
            exact t
          · replace t := t.2 c9
            refine w_t (pc := 70) (e_s := (1, 1, 2, 0, 0, .null, [])) (y_s := (71, [some (.ref _), some (.int _), some (.int _), some (.int _)], [.int _], _)) rfl (u_ rfl) ?_
            refine w_t (pc := 71) (e_s := (0, 2, 0, 0, 0, .int 47, [])) (y_s := (73, [some (.ref _), some (.int _), some (.int _), some (.int _)], [.int _, .int _], _)) rfl (u_ rfl) ?_
            refine wi1 (pc := 73) (len_s := 3) (Y := 47) rfl rfl (by decide) (fun c11 => ?_) (fun c11 => ?_)
            · skip
              refine w_t (pc := 76) (e_s := (1, 1, 1, 0, 0, .null, [])) (y_s := (77, [some (.ref _), some (.int _), some (.int _), some (.int _)], [.int _], _)) rfl (u_ rfl) ?_
              refine w_t (pc := 77) (e_s := (1, 1, 3, 0, 0, .null, [])) (y_s := (78, [some (.ref _), some (.int _), some (.int _), some (.int _)], [.int _, .int _], _)) rfl (u_ rfl) ?_
              refine w8 (pc := 78) (len_s := 1) rfl ?_
              refine w_t (pc := 79) (e_s := (17, 3, 85, 0, 0, .null, [])) (y_s := (85, [some (.ref _), some (.int _), some (.int _), some (.int _)], [.int _], _)) rfl (u_ rfl) ?_
              refine w_t (pc := 85) (e_s := (4, 1, 1, 0, 0, .null, [])) (y_s := (86, [some (.ref _), some (.int _), some (.int _), some (.int _)], [], _)) rfl (u_ rfl) ?_
              refine w_t (pc := 86) (e_s := (3, 1, 0, 0, 0, .null, [])) (y_s := (87, [some (.ref _), some (.int _), some (.int _), some (.int _)], [.ref _], _)) rfl (u_ rfl) ?_
              refine wcI (pc := 87) (len_s := 3) rfl rfl (l := [some (.ref _)]) rfl (wmI t (fun v12 h12 hk t => ?_))
              replace t := t hk
              refine w_t (pc := 90) (e_s := (4, 1, 2, 0, 0, .null, [])) (y_s := (91, [some (.ref _), some (.int _), some (.int _), some (.int _)], [], _)) rfl (u_ rfl) ?_
              refine w_t (pc := 91) (e_s := (17, 3, 10, 0, 0, .null, [])) (y_s := (10, [some (.ref _), some (.int _), some (.int _), some (.int _)], [], _)) rfl (u_ rfl) ?_
              exact t
            · exact absurd c6 c11
      · replace t := t.2 c6
        refine w_t (pc := 29) (e_s := (1, 1, 2, 0, 0, .null, [])) (y_s := (30, [some (.ref _), some (.int _), some (.int _), _], [.int _], _)) rfl (u_ rfl) ?_
        refine w_t (pc := 30) (e_s := (0, 2, 0, 0, 0, .int 37, [])) (y_s := (32, [some (.ref _), some (.int _), some (.int _), _], [.int _, .int _], _)) rfl (u_ rfl) ?_
        refine wi1 (pc := 32) (len_s := 3) (Y := 37) rfl rfl (by decide) (fun c13 => ?_) (fun c13 => ?_)
        · replace t := t.1 c13
          refine w_t (pc := 35) (e_s := (3, 1, 0, 0, 0, .null, [])) (y_s := (36, [some (.ref _), some (.int _), some (.int _), _], [.ref _], _)) rfl (u_ rfl) ?_
          refine w_t (pc := 36) (e_s := (39, 1, 0, 0, 0, .null, [])) (y_s := (37, [some (.ref _), some (.int _), some (.int _), _], [.ref _, .ref _], _)) rfl (u_ rfl) ?_
          refine w20 (pc := 37) (len_s := 3) rfl ?_
          refine w_t (pc := 40) (e_s := (0, 1, 0, 0, 0, .int 1, [])) (y_s := (41, [some (.ref _), some (.int _), some (.int _), _], [.int _, .int _, .ref _], _)) rfl (u_ rfl) ?_
          refine w_t (pc := 41) (e_s := (7, 1, 0, 0, 0, .null, [])) (y_s := (42, [some (.ref _), some (.int _), some (.int _), _], [.int (_ + _), .ref _], _)) rfl (u_ rfl) ?_
          refine w21 (pc := 42) (len_s := 3) rfl ?_
          refine w_t (pc := 45) (e_s := (3, 1, 0, 0, 0, .null, [])) (y_s := (46, [some (.ref _), some (.int _), some (.int _), _], [.ref _], _)) rfl (u_ rfl) ?_
          refine wcI (pc := 46) (len_s := 3) rfl rfl (l := [some (.ref _), none, none, none, none]) rfl (wmI t (fun v14 h14 hk t => ?_))
          replace t := t hk
          refine w_t (pc := 49) (e_s := (4, 1, 3, 0, 0, .null, [])) (y_s := (50, [some (.ref _), some (.int _), some (.int _), some (.int _)], [], _)) rfl (u_ rfl) ?_
          refine w_t (pc := 50) (e_s := (1, 1, 2, 0, 0, .null, [])) (y_s := (51, [some (.ref _), some (.int _), some (.int _), some (.int _)], [.int _], _)) rfl (u_ rfl) ?_
          refine w_t (pc := 51) (e_s := (0, 2, 0, 0, 0, .int 42, [])) (y_s := (53, [some (.ref _), some (.int _), some (.int _), some (.int _)], [.int _, .int _], _)) rfl (u_ rfl) ?_
          refine wi1 (pc := 53) (len_s := 3) (Y := 42) rfl rfl (by decide) (fun c15 => ?_) (fun c15 => ?_)
          · exact absurd c15 c2
          · skip
            refine w_t (pc := 62) (e_s := (1, 1, 3, 0, 0, .null, [])) (y_s := (63, [some (.ref _), some (.int _), some (.int _), some (.int _)], [.int _], _)) rfl (u_ rfl) ?_
            refine wq1 (pc := 63) (len_s := 3) rfl rfl (fun c16 => ?_) (fun c16 => ?_)
            · replace t := t.1 c16
              refine w_t (pc := 66) (e_s := (0, 1, 0, 0, 0, .int 0, [])) (y_s := (67, [some (.ref _), some (.int _), some (.int _), some (.int _)], [.int _], _)) rfl (u_ rfl) ?_
              refine w_t (pc := 67) (e_s := (17, 3, 85, 0, 0, .null, [])) (y_s := (85, [some (.ref _), some (.int _), some (.int _), some (.int _)], [.int _], _)) rfl (u_ rfl) ?_
              refine w_t (pc := 85) (e_s := (4, 1, 1, 0, 0, .null, [])) (y_s := (86, [some (.ref _), some (.int _), some (.int _), some (.int _)], [], _)) rfl (u_ rfl) ?_
              refine w_t (pc := 86) (e_s := (3, 1, 0, 0, 0, .null, [])) (y_s := (87, [some (.ref _), some (.int _), some (.int _), some (.int _)], [.ref _], _)) rfl (u_ rfl) ?_
              refine wcI (pc := 87) (len_s := 3) rfl rfl (l := [some (.ref _)]) rfl (wmI t (fun v17 h17 hk t => ?_))
              replace t := t hk
              refine w_t (pc := 90) (e_s := (4, 1, 2, 0, 0, .null, [])) (y_s := (91, [some (.ref _), some (.int _), some (.int _), some (.int _)], [], _)) rfl (u_ rfl) ?_
              refine w_t (pc := 91) (e_s := (17, 3, 10, 0, 0, .null, [])) (y_s := (10, [some (.ref _), some (.int _), some (.int _), some (.int _)], [], _)) rfl (u_ rfl) ?_
              exact t
            · replace t := t.2 c16
              refine w_t (pc := 70) (e_s := (1, 1, 2, 0, 0, .null, [])) (y_s := (71, [some (.ref _), some (.int _), some (.int _), some (.int _)], [.int _], _)) rfl (u_ rfl) ?_
              refine w_t (pc := 71) (e_s := (0, 2, 0, 0, 0, .int 47, [])) (y_s := (73, [some (.ref _), some (.int _), some (.int _), some (.int _)], [.int _, .int _], _)) rfl (u_ rfl) ?_
              refine wi1 (pc := 73) (len_s := 3) (Y := 47) rfl rfl (by decide) (fun c18 => ?_) (fun c18 => ?_)
              · exact absurd c18 c6
              · skip
                refine w_t (pc := 82) (e_s := (1, 1, 1, 0, 0, .null, [])) (y_s := (83, [some (.ref _), some (.int _), some (.int _), some (.int _)], [.int _], _)) rfl (u_ rfl) ?_
                refine w_t (pc := 83) (e_s := (1, 1, 3, 0, 0, .null, [])) (y_s := (84, [some (.ref _), some (.int _), some (.int _), some (.int _)], [.int _, .int _], _)) rfl (u_ rfl) ?_
                refine w8m (pc := 84) (len_s := 1) rfl ?_
                refine w_t (pc := 85) (e_s := (4, 1, 1, 0, 0, .null, [])) (y_s := (86, [some (.ref _), some (.int _), some (.int _), some (.int _)], [], _)) rfl (u_ rfl) ?_
                refine w_t (pc := 86) (e_s := (3, 1, 0, 0, 0, .null, [])) (y_s := (87, [some (.ref _), some (.int _), some (.int _), some (.int _)], [.ref _], _)) rfl (u_ rfl) ?_
                refine wcI (pc := 87) (len_s := 3) rfl rfl (l := [some (.ref _)]) rfl (wmI t (fun v19 h19 hk t => ?_))
                replace t := t hk
                refine w_t (pc := 90) (e_s := (4, 1, 2, 0, 0, .null, [])) (y_s := (91, [some (.ref _), some (.int _), some (.int _), some (.int _)], [], _)) rfl (u_ rfl) ?_
                refine w_t (pc := 91) (e_s := (17, 3, 10, 0, 0, .null, [])) (y_s := (10, [some (.ref _), some (.int _), some (.int _), some (.int _)], [], _)) rfl (u_ rfl) ?_
                exact t
        · replace t := t.2 c13
          refine w_t (pc := 94) (e_s := (1, 1, 1, 0, 0, .null, [])) (y_s := (95, [some (.ref _), some (.int _), some (.int _), _], [.int _], _)) rfl (u_ rfl) ?_
          exact wrI (pc := 95) (len_s := 1) rfl hk t
  · replace t := t.2 c1
    refine w_t (pc := 94) (e_s := (1, 1, 1, 0, 0, .null, [])) (y_s := (95, [some (.ref _), some (.int _), some (.int _), _], [.int _], _)) rfl (u_ rfl) ?_
    exact wrI (pc := 95) (len_s := 1) rfl hk t
/-- ColdShodModel.one()I, from 0 on -/
theorem sg_175_0 {F : Nat}  {h : zH} {K : Int32 → zH → Prop} (hk : hKn h) (t : ((h.2.1 102 18).toInt < 0 → wF F 166 (0, [some (.ref 102)], [], h) (gI (fun v2 h2 => hKn h2 → (v2.toInt = 33 → wF F 175 (32, [some (.ref 102), some (.int v2), none, none, none], [], h2) (gI K)) ∧ (¬ v2.toInt = 33 → ((v2.toInt = 45 → wF F 175 (32, [some (.ref 102), some (.int v2), none, none, none], [], h2) (gI K)) ∧ (¬ v2.toInt = 45 → ((v2.toInt = 40 → wF F 175 (32, [some (.ref 102), some (.int v2), none, none, none], [], h2) (gI K)) ∧ (¬ v2.toInt = 40 → wF F 174 (0, [some (.int v2)], [], h2) (gI (fun v6 h6 => hKn h6 → (v6.toInt < 0 → wF F 175 (176, [some (.ref 102), some (.int v2), some (.int v6), some (.int 0), some (.int 0)], [], h6) (gI K)) ∧ (¬ v6.toInt < 0 → (zix v6 < 6 → K (h6.2.1 111 (zix v6)) (h6.1, zup h6.2.1 102 16 ((h6.2.1 102 16) + 1), h6.2.2.1, h6.2.2.2))))))))))))) ∧ (¬ (h.2.1 102 18).toInt < 0 → K 0 h)) : wF (F + 1) 175 (0, [some (.ref 102), none, none, none, none], [], h) (gI K) := by
  refine w_0 (pc := 0) (e_s := (3, 1, 0, 0, 0, .null, [])) (y_s := (1, [some (.ref _), none, none, none, none], [.ref _], _)) rfl (u_ rfl) ?_
  refine w20 (pc := 1) (len_s := 3) rfl ?_
  refine wq2 (pc := 4) (len_s := 3) rfl rfl (fun c1 => ?_) (fun c1 => ?_)
  · replace t := t.1 c1
    refine w_t (pc := 9) (e_s := (3, 1, 0, 0, 0, .null, [])) (y_s := (10, [some (.ref _), none, none, none, none], [.ref _], _)) rfl (u_ rfl) ?_
    refine wcI (pc := 10) (len_s := 3) rfl rfl (l := [some (.ref _)]) rfl (wmI t (fun v2 h2 hk t => ?_))
    replace t := t hk
    refine w_t (pc := 13) (e_s := (4, 1, 1, 0, 0, .null, [])) (y_s := (14, [some (.ref _), some (.int _), none, none, none], [], _)) rfl (u_ rfl) ?_
    refine w_t (pc := 14) (e_s := (1, 1, 1, 0, 0, .null, [])) (y_s := (15, [some (.ref _), some (.int _), none, none, none], [.int _], _)) rfl (u_ rfl) ?_
    refine w_t (pc := 15) (e_s := (0, 2, 0, 0, 0, .int 33, [])) (y_s := (17, [some (.ref _), some (.int _), none, none, none], [.int _, .int _], _)) rfl (u_ rfl) ?_
    refine wi0 (pc := 17) (len_s := 3) (Y := 33) rfl rfl (by decide) (fun c3 => ?_) (fun c3 => ?_)
    · replace t := t.1 c3
      exact t
    · replace t := t.2 c3
      refine w_t (pc := 20) (e_s := (1, 1, 1, 0, 0, .null, [])) (y_s := (21, [some (.ref _), some (.int _), none, none, none], [.int _], _)) rfl (u_ rfl) ?_
      refine w_t (pc := 21) (e_s := (0, 2, 0, 0, 0, .int 45, [])) (y_s := (23, [some (.ref _), some (.int _), none, none, none], [.int _, .int _], _)) rfl (u_ rfl) ?_
      refine wi0 (pc := 23) (len_s := 3) (Y := 45) rfl rfl (by decide) (fun c4 => ?_) (fun c4 => ?_)
      · replace t := t.1 c4
        exact t
      · replace t := t.2 c4
        refine w_t (pc := 26) (e_s := (1, 1, 1, 0, 0, .null, [])) (y_s := (27, [some (.ref _), some (.int _), none, none, none], [.int _], _)) rfl (u_ rfl) ?_
        refine w_t (pc := 27) (e_s := (0, 2, 0, 0, 0, .int 40, [])) (y_s := (29, [some (.ref _), some (.int _), none, none, none], [.int _, .int _], _)) rfl (u_ rfl) ?_
        refine wi1 (pc := 29) (len_s := 3) (Y := 40) rfl rfl (by decide) (fun c5 => ?_) (fun c5 => ?_)
        · replace t := t.1 c5
          exact t
        · replace t := t.2 c5
          refine w_t (pc := 145) (e_s := (1, 1, 1, 0, 0, .null, [])) (y_s := (146, [some (.ref _), some (.int _), none, none, none], [.int _], _)) rfl (u_ rfl) ?_
          refine wcI (pc := 146) (len_s := 3) rfl rfl (l := [some (.int _)]) rfl (wmI t (fun v6 h6 hk t => ?_))
          replace t := t hk
          refine w_t (pc := 149) (e_s := (4, 1, 2, 0, 0, .null, [])) (y_s := (150, [some (.ref _), some (.int _), some (.int _), none, none], [], _)) rfl (u_ rfl) ?_
          refine w_t (pc := 150) (e_s := (1, 1, 2, 0, 0, .null, [])) (y_s := (151, [some (.ref _), some (.int _), some (.int _), none, none], [.int _], _)) rfl (u_ rfl) ?_
          refine wq2 (pc := 151) (len_s := 3) rfl rfl (fun c7 => ?_) (fun c7 => ?_)
          · replace t := t.1 c7
            refine w_t (pc := 171) (e_s := (0, 1, 0, 0, 0, .int 0, [])) (y_s := (172, [some (.ref _), some (.int _), some (.int _), none, none], [.int _], _)) rfl (u_ rfl) ?_
            refine w_t (pc := 172) (e_s := (4, 1, 3, 0, 0, .null, [])) (y_s := (173, [some (.ref _), some (.int _), some (.int _), some (.int _), none], [], _)) rfl (u_ rfl) ?_
            refine w_t (pc := 173) (e_s := (0, 1, 0, 0, 0, .int 0, [])) (y_s := (174, [some (.ref _), some (.int _), some (.int _), some (.int _), none], [.int _], _)) rfl (u_ rfl) ?_
            refine w_t (pc := 174) (e_s := (4, 2, 4, 0, 0, .null, [])) (y_s := (176, [some (.ref _), some (.int _), some (.int _), some (.int _), some (.int _)], [], _)) rfl (u_ rfl) ?_
            exact t
          · replace t := t.2 c7
            refine w_t (pc := 154) (e_s := (3, 1, 0, 0, 0, .null, [])) (y_s := (155, [some (.ref _), some (.int _), some (.int _), none, none], [.ref _], _)) rfl (u_ rfl) ?_
            refine w_t (pc := 155) (e_s := (39, 1, 0, 0, 0, .null, [])) (y_s := (156, [some (.ref _), some (.int _), some (.int _), none, none], [.ref _, .ref _], _)) rfl (u_ rfl) ?_
            refine w20 (pc := 156) (len_s := 3) rfl ?_
            refine w_t (pc := 159) (e_s := (0, 1, 0, 0, 0, .int 1, [])) (y_s := (160, [some (.ref _), some (.int _), some (.int _), none, none], [.int _, .int _, .ref _], _)) rfl (u_ rfl) ?_
            refine w_t (pc := 160) (e_s := (7, 1, 0, 0, 0, .null, [])) (y_s := (161, [some (.ref _), some (.int _), some (.int _), none, none], [.int (_ + _), .ref _], _)) rfl (u_ rfl) ?_
            refine w21 (pc := 161) (len_s := 3) rfl ?_
            refine w_t (pc := 164) (e_s := (3, 1, 0, 0, 0, .null, [])) (y_s := (165, [some (.ref _), some (.int _), some (.int _), none, none], [.ref _], _)) rfl (u_ rfl) ?_
            refine w20r (pc := 165) (len_s := 3) (q_s := 111) rfl (krq hk rfl) ?_
            refine w_t (pc := 168) (e_s := (1, 1, 2, 0, 0, .null, [])) (y_s := (169, [some (.ref _), some (.int _), some (.int _), none, none], [.int _, .ref _], _)) rfl (u_ rfl) ?_
            refine w22 (pc := 169) (len_s := 1) rfl (hk.1 111 0 6 rfl rfl) (fun c8 => ?_)
            replace t := t c8
            exact wrI (pc := 170) (len_s := 1) rfl hk t
  · replace t := t.2 c1
    refine w_t (pc := 7) (e_s := (0, 1, 0, 0, 0, .int 0, [])) (y_s := (8, [some (.ref _), none, none, none, none], [.int _], _)) rfl (u_ rfl) ?_
    exact wrI (pc := 8) (len_s := 1) rfl hk t
/-- ColdShodModel.one()I, from 32 on -/
theorem sg_175_32 {F : Nat} {x1 : Int32} {l2 l3 l4 : Option Value} {h : zH} {K : Int32 → zH → Prop} (hk : hKn h) (t : ((h.2.1 102 19).toInt = 6 → wF F 167 (0, [some (.ref 102)], [], h) (gI (fun v2 h2 => hKn h2 → K v2 h2))) ∧ (¬ (h.2.1 102 19).toInt = 6 → ((x1.toInt = 40 → wF F 169 (0, [some (.ref 102), none, none], [], (h.1, zup (zup h.2.1 102 19 ((h.2.1 102 19) + 1)) 102 16 ((h.2.1 102 16) + 1), h.2.2.1, h.2.2.2)) (gI (fun v4 h4 => hKn h4 → wF F 168 (0, [some (.ref 102), some (.int 41)], [], h4) (gI (fun v6 h6 => hKn h6 → (v6.toInt = 0 → wF F 167 (0, [some (.ref 102)], [], h6) (gI (fun v8 h8 => hKn h8 → K v8 h8))) ∧ (¬ v6.toInt = 0 → K v4 (h6.1, zup h6.2.1 102 19 ((h6.2.1 102 19) - 1), h6.2.2.1, h6.2.2.2))))))) ∧ (¬ x1.toInt = 40 → wF F 175 (0, [some (.ref 102), none, none, none, none], [], (h.1, zup (zup h.2.1 102 19 ((h.2.1 102 19) + 1)) 102 16 ((h.2.1 102 16) + 1), h.2.2.1, h.2.2.2)) (gI (fun v10 h10 => hKn h10 → (x1.toInt = 45 → K (-v10) (h10.1, zup h10.2.1 102 19 ((h10.2.1 102 19) - 1), h10.2.2.1, h10.2.2.2)) ∧ (¬ x1.toInt = 45 → ((v10.toInt = 0 → K 1 (h10.1, zup h10.2.1 102 19 ((h10.2.1 102 19) - 1), h10.2.2.1, h10.2.2.2)) ∧ (¬ v10.toInt = 0 → K 0 (h10.1, zup h10.2.1 102 19 ((h10.2.1 102 19) - 1), h10.2.2.1, h10.2.2.2)))))))))) : wF (F + 1) 175 (32, [some (.ref 102), some (.int x1), l2, l3, l4], [], h) (gI K) := by
  refine w_0 (pc := 32) (e_s := (3, 1, 0, 0, 0, .null, [])) (y_s := (33, [some (.ref _), some (.int _), _, _, _], [.ref _], _)) rfl (u_ rfl) ?_
  refine w20 (pc := 33) (len_s := 3) rfl ?_
  refine w_t (pc := 36) (e_s := (0, 2, 0, 0, 0, .int 6, [])) (y_s := (38, [some (.ref _), some (.int _), _, _, _], [.int _, .int _], _)) rfl (u_ rfl) ?_
  refine wi1 (pc := 38) (len_s := 3) (Y := 6) rfl rfl (by decide) (fun c1 => ?_) (fun c1 => ?_)
  · replace t := t.1 c1
    refine w_t (pc := 41) (e_s := (3, 1, 0, 0, 0, .null, [])) (y_s := (42, [some (.ref _), some (.int _), _, _, _], [.ref _], _)) rfl (u_ rfl) ?_
    refine wcI (pc := 42) (len_s := 3) rfl rfl (l := [some (.ref _)]) rfl (wmI t (fun v2 h2 hk t => ?_))
    replace t := t hk
    exact wrI (pc := 45) (len_s := 1) rfl hk t
  · replace t := t.2 c1
    refine w_t (pc := 46) (e_s := (3, 1, 0, 0, 0, .null, [])) (y_s := (47, [some (.ref _), some (.int _), _, _, _], [.ref _], _)) rfl (u_ rfl) ?_
    refine w_t (pc := 47) (e_s := (39, 1, 0, 0, 0, .null, [])) (y_s := (48, [some (.ref _), some (.int _), _, _, _], [.ref _, .ref _], _)) rfl (u_ rfl) ?_
    refine w20 (pc := 48) (len_s := 3) rfl ?_
    refine w_t (pc := 51) (e_s := (0, 1, 0, 0, 0, .int 1, [])) (y_s := (52, [some (.ref _), some (.int _), _, _, _], [.int _, .int _, .ref _], _)) rfl (u_ rfl) ?_
    refine w_t (pc := 52) (e_s := (7, 1, 0, 0, 0, .null, [])) (y_s := (53, [some (.ref _), some (.int _), _, _, _], [.int (_ + _), .ref _], _)) rfl (u_ rfl) ?_
    refine w21 (pc := 53) (len_s := 3) rfl ?_
    refine w_t (pc := 56) (e_s := (3, 1, 0, 0, 0, .null, [])) (y_s := (57, [some (.ref _), some (.int _), _, _, _], [.ref _], _)) rfl (u_ rfl) ?_
    refine w_t (pc := 57) (e_s := (39, 1, 0, 0, 0, .null, [])) (y_s := (58, [some (.ref _), some (.int _), _, _, _], [.ref _, .ref _], _)) rfl (u_ rfl) ?_
    refine w20 (pc := 58) (len_s := 3) rfl ?_
    refine w_t (pc := 61) (e_s := (0, 1, 0, 0, 0, .int 1, [])) (y_s := (62, [some (.ref _), some (.int _), _, _, _], [.int _, .int _, .ref _], _)) rfl (u_ rfl) ?_
    refine w_t (pc := 62) (e_s := (7, 1, 0, 0, 0, .null, [])) (y_s := (63, [some (.ref _), some (.int _), _, _, _], [.int (_ + _), .ref _], _)) rfl (u_ rfl) ?_
    refine w21 (pc := 63) (len_s := 3) rfl ?_
    refine w_t (pc := 66) (e_s := (1, 1, 1, 0, 0, .null, [])) (y_s := (67, [some (.ref _), some (.int _), _, _, _], [.int _], _)) rfl (u_ rfl) ?_
    refine w_t (pc := 67) (e_s := (0, 2, 0, 0, 0, .int 40, [])) (y_s := (69, [some (.ref _), some (.int _), _, _, _], [.int _, .int _], _)) rfl (u_ rfl) ?_
    refine wi1 (pc := 69) (len_s := 3) (Y := 40) rfl rfl (by decide) (fun c3 => ?_) (fun c3 => ?_)
    · replace t := t.1 c3
      refine w_t (pc := 72) (e_s := (3, 1, 0, 0, 0, .null, [])) (y_s := (73, [some (.ref _), some (.int _), _, _, _], [.ref _], _)) rfl (u_ rfl) ?_
      refine wcI (pc := 73) (len_s := 3) rfl rfl (l := [some (.ref _), none, none]) rfl (wmI t (fun v4 h4 hk t => ?_))
      replace t := t hk
      refine w_t (pc := 76) (e_s := (17, 3, 83, 0, 0, .null, [])) (y_s := (83, [some (.ref _), some (.int _), _, _, _], [.int _], _)) rfl (u_ rfl) ?_
      refine w_t (pc := 83) (e_s := (4, 1, 2, 0, 0, .null, [])) (y_s := (84, [some (.ref _), some (.int _), some (.int _), _, _], [], _)) rfl (u_ rfl) ?_
      refine w_t (pc := 84) (e_s := (1, 1, 1, 0, 0, .null, [])) (y_s := (85, [some (.ref _), some (.int _), some (.int _), _, _], [.int _], _)) rfl (u_ rfl) ?_
      refine w_t (pc := 85) (e_s := (0, 2, 0, 0, 0, .int 40, [])) (y_s := (87, [some (.ref _), some (.int _), some (.int _), _, _], [.int _, .int _], _)) rfl (u_ rfl) ?_
      refine wi1 (pc := 87) (len_s := 3) (Y := 40) rfl rfl (by decide) (fun c5 => ?_) (fun c5 => ?_)
      · skip
        refine w_t (pc := 90) (e_s := (3, 1, 0, 0, 0, .null, [])) (y_s := (91, [some (.ref _), some (.int _), some (.int _), _, _], [.ref _], _)) rfl (u_ rfl) ?_
        refine w_t (pc := 91) (e_s := (0, 2, 0, 0, 0, .int 41, [])) (y_s := (93, [some (.ref _), some (.int _), some (.int _), _, _], [.int _, .ref _], _)) rfl (u_ rfl) ?_
        refine wcI (pc := 93) (len_s := 3) rfl rfl (l := [some (.ref _), some (.int _)]) rfl (wmI t (fun v6 h6 hk t => ?_))
        replace t := t hk
        refine wq1 (pc := 96) (len_s := 3) rfl rfl (fun c7 => ?_) (fun c7 => ?_)
        · replace t := t.1 c7
          refine w_t (pc := 99) (e_s := (3, 1, 0, 0, 0, .null, [])) (y_s := (100, [some (.ref _), some (.int _), some (.int _), _, _], [.ref _], _)) rfl (u_ rfl) ?_
          refine wcI (pc := 100) (len_s := 3) rfl rfl (l := [some (.ref _)]) rfl (wmI t (fun v8 h8 hk t => ?_))
          replace t := t hk
          exact wrI (pc := 103) (len_s := 1) rfl hk t
        · replace t := t.2 c7
          refine w_t (pc := 104) (e_s := (3, 1, 0, 0, 0, .null, [])) (y_s := (105, [some (.ref _), some (.int _), some (.int _), _, _], [.ref _], _)) rfl (u_ rfl) ?_
          refine w_t (pc := 105) (e_s := (39, 1, 0, 0, 0, .null, [])) (y_s := (106, [some (.ref _), some (.int _), some (.int _), _, _], [.ref _, .ref _], _)) rfl (u_ rfl) ?_
          refine w20 (pc := 106) (len_s := 3) rfl ?_
          refine w_t (pc := 109) (e_s := (0, 1, 0, 0, 0, .int 1, [])) (y_s := (110, [some (.ref _), some (.int _), some (.int _), _, _], [.int _, .int _, .ref _], _)) rfl (u_ rfl) ?_
          refine w_t (pc := 110) (e_s := (7, 1, 0, 1, 0, .null, [])) (y_s := (111, [some (.ref _), some (.int _), some (.int _), _, _], [.int (_ - _), .ref _], _)) rfl (u_ rfl) ?_
          refine w21 (pc := 111) (len_s := 3) rfl ?_
          refine w_t (pc := 114) (e_s := (1, 1, 1, 0, 0, .null, [])) (y_s := (115, [some (.ref _), some (.int _), some (.int _), _, _], [.int _], _)) rfl (u_ rfl) ?_
          refine w_t (pc := 115) (e_s := (0, 2, 0, 0, 0, .int 40, [])) (y_s := (117, [some (.ref _), some (.int _), some (.int _), _, _], [.int _, .int _], _)) rfl (u_ rfl) ?_
          refine wi1 (pc := 117) (len_s := 3) (Y := 40) rfl rfl (by decide) (fun c9 => ?_) (fun c9 => ?_)
          · skip
            refine w_t (pc := 120) (e_s := (1, 1, 2, 0, 0, .null, [])) (y_s := (121, [some (.ref _), some (.int _), some (.int _), _, _], [.int _], _)) rfl (u_ rfl) ?_
            refine w_t (pc := 121) (e_s := (17, 3, 144, 0, 0, .null, [])) (y_s := (144, [some (.ref _), some (.int _), some (.int _), _, _], [.int _], _)) rfl (u_ rfl) ?_
            exact wrI (pc := 144) (len_s := 1) rfl hk t
          · exact absurd c3 c9
      · exact absurd c3 c5
    · replace t := t.2 c3
      refine w_t (pc := 79) (e_s := (3, 1, 0, 0, 0, .null, [])) (y_s := (80, [some (.ref _), some (.int _), _, _, _], [.ref _], _)) rfl (u_ rfl) ?_
      refine wcI (pc := 80) (len_s := 3) rfl rfl (l := [some (.ref _), none, none, none, none]) rfl (wmI t (fun v10 h10 hk t => ?_))
      replace t := t hk
      refine w_t (pc := 83) (e_s := (4, 1, 2, 0, 0, .null, [])) (y_s := (84, [some (.ref _), some (.int _), some (.int _), _, _], [], _)) rfl (u_ rfl) ?_
      refine w_t (pc := 84) (e_s := (1, 1, 1, 0, 0, .null, [])) (y_s := (85, [some (.ref _), some (.int _), some (.int _), _, _], [.int _], _)) rfl (u_ rfl) ?_
      refine w_t (pc := 85) (e_s := (0, 2, 0, 0, 0, .int 40, [])) (y_s := (87, [some (.ref _), some (.int _), some (.int _), _, _], [.int _, .int _], _)) rfl (u_ rfl) ?_
      refine wi1 (pc := 87) (len_s := 3) (Y := 40) rfl rfl (by decide) (fun c11 => ?_) (fun c11 => ?_)
      · exact absurd c11 c3
      · skip
        refine w_t (pc := 104) (e_s := (3, 1, 0, 0, 0, .null, [])) (y_s := (105, [some (.ref _), some (.int _), some (.int _), _, _], [.ref _], _)) rfl (u_ rfl) ?_
        refine w_t (pc := 105) (e_s := (39, 1, 0, 0, 0, .null, [])) (y_s := (106, [some (.ref _), some (.int _), some (.int _), _, _], [.ref _, .ref _], _)) rfl (u_ rfl) ?_
        refine w20 (pc := 106) (len_s := 3) rfl ?_
        refine w_t (pc := 109) (e_s := (0, 1, 0, 0, 0, .int 1, [])) (y_s := (110, [some (.ref _), some (.int _), some (.int _), _, _], [.int _, .int _, .ref _], _)) rfl (u_ rfl) ?_
        refine w_t (pc := 110) (e_s := (7, 1, 0, 1, 0, .null, [])) (y_s := (111, [some (.ref _), some (.int _), some (.int _), _, _], [.int (_ - _), .ref _], _)) rfl (u_ rfl) ?_
        refine w21 (pc := 111) (len_s := 3) rfl ?_
        refine w_t (pc := 114) (e_s := (1, 1, 1, 0, 0, .null, [])) (y_s := (115, [some (.ref _), some (.int _), some (.int _), _, _], [.int _], _)) rfl (u_ rfl) ?_
        refine w_t (pc := 115) (e_s := (0, 2, 0, 0, 0, .int 40, [])) (y_s := (117, [some (.ref _), some (.int _), some (.int _), _, _], [.int _, .int _], _)) rfl (u_ rfl) ?_
        refine wi1 (pc := 117) (len_s := 3) (Y := 40) rfl rfl (by decide) (fun c12 => ?_) (fun c12 => ?_)
        · exact absurd c12 c3
        · skip
          refine w_t (pc := 124) (e_s := (1, 1, 1, 0, 0, .null, [])) (y_s := (125, [some (.ref _), some (.int _), some (.int _), _, _], [.int _], _)) rfl (u_ rfl) ?_
          refine w_t (pc := 125) (e_s := (0, 2, 0, 0, 0, .int 45, [])) (y_s := (127, [some (.ref _), some (.int _), some (.int _), _, _], [.int _, .int _], _)) rfl (u_ rfl) ?_
          refine wi1 (pc := 127) (len_s := 3) (Y := 45) rfl rfl (by decide) (fun c13 => ?_) (fun c13 => ?_)
          · replace t := t.1 c13
            refine w_t (pc := 130) (e_s := (1, 1, 2, 0, 0, .null, [])) (y_s := (131, [some (.ref _), some (.int _), some (.int _), _, _], [.int _], _)) rfl (u_ rfl) ?_
            refine w_t (pc := 131) (e_s := (9, 1, 0, 0, 0, .null, [])) (y_s := (132, [some (.ref _), some (.int _), some (.int _), _, _], [.int (-_)], _)) rfl (u_ rfl) ?_
            refine w_t (pc := 132) (e_s := (17, 3, 144, 0, 0, .null, [])) (y_s := (144, [some (.ref _), some (.int _), some (.int _), _, _], [.int _], _)) rfl (u_ rfl) ?_
            exact wrI (pc := 144) (len_s := 1) rfl hk t
          · replace t := t.2 c13
            refine w_t (pc := 135) (e_s := (1, 1, 2, 0, 0, .null, [])) (y_s := (136, [some (.ref _), some (.int _), some (.int _), _, _], [.int _], _)) rfl (u_ rfl) ?_
            refine wq1 (pc := 136) (len_s := 3) rfl rfl (fun c14 => ?_) (fun c14 => ?_)
            · replace t := t.1 c14
              refine w_t (pc := 139) (e_s := (0, 1, 0, 0, 0, .int 1, [])) (y_s := (140, [some (.ref _), some (.int _), some (.int _), _, _], [.int _], _)) rfl (u_ rfl) ?_
              refine w_t (pc := 140) (e_s := (17, 3, 144, 0, 0, .null, [])) (y_s := (144, [some (.ref _), some (.int _), some (.int _), _, _], [.int _], _)) rfl (u_ rfl) ?_
              exact wrI (pc := 144) (len_s := 1) rfl hk t
            · replace t := t.2 c14
              refine w_t (pc := 143) (e_s := (0, 1, 0, 0, 0, .int 0, [])) (y_s := (144, [some (.ref _), some (.int _), some (.int _), _, _], [.int _], _)) rfl (u_ rfl) ?_
              exact wrI (pc := 144) (len_s := 1) rfl hk t
/-- ColdShodModel.one()I, from 176 on -/
theorem sg_175_176 {F : Nat} {x1 x2 x3 x4 : Int32} {h : zH} {K : Int32 → zH → Prop} (hk : hKn h) (t : (x4.toInt < 4 → wF F 166 (0, [some (.ref 102)], [], h) (gI (fun v2 h2 => hKn h2 → (v2.toInt < 48 → ((x4.toInt = 0 → wF F 167 (0, [some (.ref 102)], [], h2) (gI (fun v5 h5 => hKn h5 → K v5 h5))) ∧ (¬ x4.toInt = 0 → K x3 h2))) ∧ (¬ v2.toInt < 48 → wF F 166 (0, [some (.ref 102)], [], h2) (gI (fun v6 h6 => hKn h6 → (57 < v6.toInt → ((x4.toInt = 0 → wF F 167 (0, [some (.ref 102)], [], h6) (gI (fun v9 h9 => hKn h9 → K v9 h9))) ∧ (¬ x4.toInt = 0 → K x3 h6))) ∧ (¬ 57 < v6.toInt → wF F 166 (0, [some (.ref 102)], [], h6) (gI (fun v10 h10 => hKn h10 → wF F 175 (176, [some (.ref 102), some (.int x1), some (.int x2), some (.int (((10 * x3) + v10) - 48)), some (.int (x4 + 1))], [], (h10.1, zup h10.2.1 102 16 ((h10.2.1 102 16) + 1), h10.2.2.1, h10.2.2.2)) (gI K)))))))))) ∧ (¬ x4.toInt < 4 → ((x4.toInt = 0 → wF F 167 (0, [some (.ref 102)], [], h) (gI (fun v12 h12 => hKn h12 → K v12 h12))) ∧ (¬ x4.toInt = 0 → K x3 h)))) : wF (F + 1) 175 (176, [some (.ref 102), some (.int x1), some (.int x2), some (.int x3), some (.int x4)], [], h) (gI K) := by
  refine w_0 (pc := 176) (e_s := (1, 2, 4, 0, 0, .null, [])) (y_s := (178, [some (.ref _), some (.int _), some (.int _), some (.int _), some (.int _)], [.int _], _)) rfl (u_ rfl) ?_
  refine w_t (pc := 178) (e_s := (0, 1, 0, 0, 0, .int 4, [])) (y_s := (179, [some (.ref _), some (.int _), some (.int _), some (.int _), some (.int _)], [.int _, .int _], _)) rfl (u_ rfl) ?_
  refine wi3 (pc := 179) (len_s := 3) (Y := 4) rfl rfl (by decide) (fun c1 => ?_) (fun c1 => ?_)
  · replace t := t.1 c1
    refine w_t (pc := 182) (e_s := (3, 1, 0, 0, 0, .null, [])) (y_s := (183, [some (.ref _), some (.int _), some (.int _), some (.int _), some (.int _)], [.ref _], _)) rfl (u_ rfl) ?_
    refine wcI (pc := 183) (len_s := 3) rfl rfl (l := [some (.ref _)]) rfl (wmI t (fun v2 h2 hk t => ?_))
    replace t := t hk
    refine w_t (pc := 186) (e_s := (0, 2, 0, 0, 0, .int 48, [])) (y_s := (188, [some (.ref _), some (.int _), some (.int _), some (.int _), some (.int _)], [.int _, .int _], _)) rfl (u_ rfl) ?_
    refine wi2 (pc := 188) (len_s := 3) (Y := 48) rfl rfl (by decide) (fun c3 => ?_) (fun c3 => ?_)
    · replace t := t.1 c3
      refine w_t (pc := 229) (e_s := (1, 2, 4, 0, 0, .null, [])) (y_s := (231, [some (.ref _), some (.int _), some (.int _), some (.int _), some (.int _)], [.int _], _)) rfl (u_ rfl) ?_
      refine wq1 (pc := 231) (len_s := 3) rfl rfl (fun c4 => ?_) (fun c4 => ?_)
      · replace t := t.1 c4
        refine w_t (pc := 234) (e_s := (3, 1, 0, 0, 0, .null, [])) (y_s := (235, [some (.ref _), some (.int _), some (.int _), some (.int _), some (.int _)], [.ref _], _)) rfl (u_ rfl) ?_
        refine wcI (pc := 235) (len_s := 3) rfl rfl (l := [some (.ref _)]) rfl (wmI t (fun v5 h5 hk t => ?_))
        replace t := t hk
        refine w_t (pc := 238) (e_s := (17, 3, 242, 0, 0, .null, [])) (y_s := (242, [some (.ref _), some (.int _), some (.int _), some (.int _), some (.int _)], [.int _], _)) rfl (u_ rfl) ?_
        exact wrI (pc := 242) (len_s := 1) rfl hk t
      · replace t := t.2 c4
        refine w_t (pc := 241) (e_s := (1, 1, 3, 0, 0, .null, [])) (y_s := (242, [some (.ref _), some (.int _), some (.int _), some (.int _), some (.int _)], [.int _], _)) rfl (u_ rfl) ?_
        exact wrI (pc := 242) (len_s := 1) rfl hk t
    · replace t := t.2 c3
      refine w_t (pc := 191) (e_s := (3, 1, 0, 0, 0, .null, [])) (y_s := (192, [some (.ref _), some (.int _), some (.int _), some (.int _), some (.int _)], [.ref _], _)) rfl (u_ rfl) ?_
      refine wcI (pc := 192) (len_s := 3) rfl rfl (l := [some (.ref _)]) rfl (wmI t (fun v6 h6 hk t => ?_))
      replace t := t hk
      refine w_t (pc := 195) (e_s := (0, 2, 0, 0, 0, .int 57, [])) (y_s := (197, [some (.ref _), some (.int _), some (.int _), some (.int _), some (.int _)], [.int _, .int _], _)) rfl (u_ rfl) ?_
      refine wi4 (pc := 197) (len_s := 3) (Y := 57) rfl rfl (by decide) (fun c7 => ?_) (fun c7 => ?_)
      · replace t := t.1 c7
        refine w_t (pc := 229) (e_s := (1, 2, 4, 0, 0, .null, [])) (y_s := (231, [some (.ref _), some (.int _), some (.int _), some (.int _), some (.int _)], [.int _], _)) rfl (u_ rfl) ?_
        refine wq1 (pc := 231) (len_s := 3) rfl rfl (fun c8 => ?_) (fun c8 => ?_)
        · replace t := t.1 c8
          refine w_t (pc := 234) (e_s := (3, 1, 0, 0, 0, .null, [])) (y_s := (235, [some (.ref _), some (.int _), some (.int _), some (.int _), some (.int _)], [.ref _], _)) rfl (u_ rfl) ?_
          refine wcI (pc := 235) (len_s := 3) rfl rfl (l := [some (.ref _)]) rfl (wmI t (fun v9 h9 hk t => ?_))
          replace t := t hk
          refine w_t (pc := 238) (e_s := (17, 3, 242, 0, 0, .null, [])) (y_s := (242, [some (.ref _), some (.int _), some (.int _), some (.int _), some (.int _)], [.int _], _)) rfl (u_ rfl) ?_
          exact wrI (pc := 242) (len_s := 1) rfl hk t
        · replace t := t.2 c8
          refine w_t (pc := 241) (e_s := (1, 1, 3, 0, 0, .null, [])) (y_s := (242, [some (.ref _), some (.int _), some (.int _), some (.int _), some (.int _)], [.int _], _)) rfl (u_ rfl) ?_
          exact wrI (pc := 242) (len_s := 1) rfl hk t
      · replace t := t.2 c7
        refine w_t (pc := 200) (e_s := (0, 2, 0, 0, 0, .int 10, [])) (y_s := (202, [some (.ref _), some (.int _), some (.int _), some (.int _), some (.int _)], [.int _], _)) rfl (u_ rfl) ?_
        refine w_t (pc := 202) (e_s := (1, 1, 3, 0, 0, .null, [])) (y_s := (203, [some (.ref _), some (.int _), some (.int _), some (.int _), some (.int _)], [.int _, .int _], _)) rfl (u_ rfl) ?_
        refine w_t (pc := 203) (e_s := (7, 1, 0, 2, 0, .null, [])) (y_s := (204, [some (.ref _), some (.int _), some (.int _), some (.int _), some (.int _)], [.int (_ * _)], _)) rfl (u_ rfl) ?_
        refine w_t (pc := 204) (e_s := (3, 1, 0, 0, 0, .null, [])) (y_s := (205, [some (.ref _), some (.int _), some (.int _), some (.int _), some (.int _)], [.ref _, .int _], _)) rfl (u_ rfl) ?_
        refine wcI (pc := 205) (len_s := 3) rfl rfl (l := [some (.ref _)]) rfl (wmI t (fun v10 h10 hk t => ?_))
        replace t := t hk
        refine w_t (pc := 208) (e_s := (7, 1, 0, 0, 0, .null, [])) (y_s := (209, [some (.ref _), some (.int _), some (.int _), some (.int _), some (.int _)], [.int (_ + _)], _)) rfl (u_ rfl) ?_
        refine w_t (pc := 209) (e_s := (0, 2, 0, 0, 0, .int 48, [])) (y_s := (211, [some (.ref _), some (.int _), some (.int _), some (.int _), some (.int _)], [.int _, .int _], _)) rfl (u_ rfl) ?_
        refine w_t (pc := 211) (e_s := (7, 1, 0, 1, 0, .null, [])) (y_s := (212, [some (.ref _), some (.int _), some (.int _), some (.int _), some (.int _)], [.int (_ - _)], _)) rfl (u_ rfl) ?_
        refine w_t (pc := 212) (e_s := (4, 1, 3, 0, 0, .null, [])) (y_s := (213, [some (.ref _), some (.int _), some (.int _), some (.int _), some (.int _)], [], _)) rfl (u_ rfl) ?_
        refine w_t (pc := 213) (e_s := (19, 3, 4, 0, 0, .int 1, [])) (y_s := (216, [some (.ref _), some (.int _), some (.int _), some (.int _), some (.int _)], [], _)) rfl (u_ rfl) ?_
        refine w_t (pc := 216) (e_s := (3, 1, 0, 0, 0, .null, [])) (y_s := (217, [some (.ref _), some (.int _), some (.int _), some (.int _), some (.int _)], [.ref _], _)) rfl (u_ rfl) ?_
        refine w_t (pc := 217) (e_s := (39, 1, 0, 0, 0, .null, [])) (y_s := (218, [some (.ref _), some (.int _), some (.int _), some (.int _), some (.int _)], [.ref _, .ref _], _)) rfl (u_ rfl) ?_
        refine w20 (pc := 218) (len_s := 3) rfl ?_
        refine w_t (pc := 221) (e_s := (0, 1, 0, 0, 0, .int 1, [])) (y_s := (222, [some (.ref _), some (.int _), some (.int _), some (.int _), some (.int _)], [.int _, .int _, .ref _], _)) rfl (u_ rfl) ?_
        refine w_t (pc := 222) (e_s := (7, 1, 0, 0, 0, .null, [])) (y_s := (223, [some (.ref _), some (.int _), some (.int _), some (.int _), some (.int _)], [.int (_ + _), .ref _], _)) rfl (u_ rfl) ?_
        refine w21 (pc := 223) (len_s := 3) rfl ?_
        refine w_t (pc := 226) (e_s := (17, 3, 176, 0, 0, .null, [])) (y_s := (176, [some (.ref _), some (.int _), some (.int _), some (.int _), some (.int _)], [], _)) rfl (u_ rfl) ?_
        exact t
  · replace t := t.2 c1
    refine w_t (pc := 229) (e_s := (1, 2, 4, 0, 0, .null, [])) (y_s := (231, [some (.ref _), some (.int _), some (.int _), some (.int _), some (.int _)], [.int _], _)) rfl (u_ rfl) ?_
    refine wq1 (pc := 231) (len_s := 3) rfl rfl (fun c11 => ?_) (fun c11 => ?_)
    · replace t := t.1 c11
      refine w_t (pc := 234) (e_s := (3, 1, 0, 0, 0, .null, [])) (y_s := (235, [some (.ref _), some (.int _), some (.int _), some (.int _), some (.int _)], [.ref _], _)) rfl (u_ rfl) ?_
      refine wcI (pc := 235) (len_s := 3) rfl rfl (l := [some (.ref _)]) rfl (wmI t (fun v12 h12 hk t => ?_))
      replace t := t hk
      refine w_t (pc := 238) (e_s := (17, 3, 242, 0, 0, .null, [])) (y_s := (242, [some (.ref _), some (.int _), some (.int _), some (.int _), some (.int _)], [.int _], _)) rfl (u_ rfl) ?_
      exact wrI (pc := 242) (len_s := 1) rfl hk t
    · replace t := t.2 c11
      refine w_t (pc := 241) (e_s := (1, 1, 3, 0, 0, .null, [])) (y_s := (242, [some (.ref _), some (.int _), some (.int _), some (.int _), some (.int _)], [.int _], _)) rfl (u_ rfl) ?_
      exact wrI (pc := 242) (len_s := 1) rfl hk t
/-- ColdShodModel.workOut(II)I, from 0 on -/
theorem sg_176_0 {F : Nat} {x1 x2 : Int32} {h : zH} {K : Int32 → zH → Prop} (hk : hKn h) (t : wF F 176 (33, [some (.ref 102), some (.int x1), some (.int x2), some (.int 0), some (.int 0), some (.int 1), none, none], [], (h.1, zup (zup (zup (zup (zup h.2.1 102 15 x1) 102 16 0) 102 17 x2) 102 18 (-1)) 102 19 0, h.2.2.1, h.2.2.2)) (gI K)) : wF (F + 1) 176 (0, [some (.ref 102), some (.int x1), some (.int x2), none, none, none, none, none], [], h) (gI K) := by
  refine w_0 (pc := 0) (e_s := (3, 1, 0, 0, 0, .null, [])) (y_s := (1, [some (.ref _), some (.int _), some (.int _), none, none, none, none, none], [.ref _], _)) rfl (u_ rfl) ?_
  refine w_t (pc := 1) (e_s := (1, 1, 1, 0, 0, .null, [])) (y_s := (2, [some (.ref _), some (.int _), some (.int _), none, none, none, none, none], [.int _, .ref _], _)) rfl (u_ rfl) ?_
  refine w21 (pc := 2) (len_s := 3) rfl ?_
  refine w_t (pc := 5) (e_s := (3, 1, 0, 0, 0, .null, [])) (y_s := (6, [some (.ref _), some (.int _), some (.int _), none, none, none, none, none], [.ref _], _)) rfl (u_ rfl) ?_
  refine w_t (pc := 6) (e_s := (0, 1, 0, 0, 0, .int 0, [])) (y_s := (7, [some (.ref _), some (.int _), some (.int _), none, none, none, none, none], [.int _, .ref _], _)) rfl (u_ rfl) ?_
  refine w21 (pc := 7) (len_s := 3) rfl ?_
  refine w_t (pc := 10) (e_s := (3, 1, 0, 0, 0, .null, [])) (y_s := (11, [some (.ref _), some (.int _), some (.int _), none, none, none, none, none], [.ref _], _)) rfl (u_ rfl) ?_
  refine w_t (pc := 11) (e_s := (1, 1, 2, 0, 0, .null, [])) (y_s := (12, [some (.ref _), some (.int _), some (.int _), none, none, none, none, none], [.int _, .ref _], _)) rfl (u_ rfl) ?_
  refine w21 (pc := 12) (len_s := 3) rfl ?_
  refine w_t (pc := 15) (e_s := (3, 1, 0, 0, 0, .null, [])) (y_s := (16, [some (.ref _), some (.int _), some (.int _), none, none, none, none, none], [.ref _], _)) rfl (u_ rfl) ?_
  refine w_t (pc := 16) (e_s := (0, 1, 0, 0, 0, .int (-1), [])) (y_s := (17, [some (.ref _), some (.int _), some (.int _), none, none, none, none, none], [.int _, .ref _], _)) rfl (u_ rfl) ?_
  refine w21 (pc := 17) (len_s := 3) rfl ?_
  refine w_t (pc := 20) (e_s := (3, 1, 0, 0, 0, .null, [])) (y_s := (21, [some (.ref _), some (.int _), some (.int _), none, none, none, none, none], [.ref _], _)) rfl (u_ rfl) ?_
  refine w_t (pc := 21) (e_s := (0, 1, 0, 0, 0, .int 0, [])) (y_s := (22, [some (.ref _), some (.int _), some (.int _), none, none, none, none, none], [.int _, .ref _], _)) rfl (u_ rfl) ?_
  refine w21 (pc := 22) (len_s := 3) rfl ?_
  refine w_t (pc := 25) (e_s := (0, 1, 0, 0, 0, .int 0, [])) (y_s := (26, [some (.ref _), some (.int _), some (.int _), none, none, none, none, none], [.int _], _)) rfl (u_ rfl) ?_
  refine w_t (pc := 26) (e_s := (4, 1, 3, 0, 0, .null, [])) (y_s := (27, [some (.ref _), some (.int _), some (.int _), some (.int _), none, none, none, none], [], _)) rfl (u_ rfl) ?_
  refine w_t (pc := 27) (e_s := (0, 1, 0, 0, 0, .int 0, [])) (y_s := (28, [some (.ref _), some (.int _), some (.int _), some (.int _), none, none, none, none], [.int _], _)) rfl (u_ rfl) ?_
  refine w_t (pc := 28) (e_s := (4, 2, 4, 0, 0, .null, [])) (y_s := (30, [some (.ref _), some (.int _), some (.int _), some (.int _), some (.int _), none, none, none], [], _)) rfl (u_ rfl) ?_
  refine w_t (pc := 30) (e_s := (0, 1, 0, 0, 0, .int 1, [])) (y_s := (31, [some (.ref _), some (.int _), some (.int _), some (.int _), some (.int _), none, none, none], [.int _], _)) rfl (u_ rfl) ?_
  refine w_t (pc := 31) (e_s := (4, 2, 5, 0, 0, .null, [])) (y_s := (33, [some (.ref _), some (.int _), some (.int _), some (.int _), some (.int _), some (.int _), none, none], [], _)) rfl (u_ rfl) ?_
  exact t
/-- ColdShodModel.workOut(II)I, from 33 on -/
theorem sg_176_33 {F : Nat} {x1 x2 x3 x4 x5 : Int32} {l6 l7 : Option Value} {h : zH} {K : Int32 → zH → Prop} (hk : hKn h) (t : (x5.toInt = 0 → (((h.2.1 102 18).toInt < 0 → (((h.2.1 102 16).toInt < (h.2.1 102 17).toInt → wF F 167 (0, [some (.ref 102)], [], h) (gI (fun v4 h4 => hKn h4 → K v4 h4))) ∧ (¬ (h.2.1 102 16).toInt < (h.2.1 102 17).toInt → K x4 h))) ∧ (¬ (h.2.1 102 18).toInt < 0 → K x4 h))) ∧ (¬ x5.toInt = 0 → wF F 169 (0, [some (.ref 102), none, none], [], h) (gI (fun v5 h5 => hKn h5 → wF F 168 (0, [some (.ref 102), some (.int 63)], [], h5) (gI (fun v6 h6 => hKn h6 → (v6.toInt = 0 → wF F 176 (74, [some (.ref 102), some (.int x1), some (.int x2), some (.int x3), some (.int x4), some (.int x5), some (.int v5), some (.int 1)], [], h6) (gI K)) ∧ (¬ v6.toInt = 0 → ((v5.toInt = 0 → wF F 169 (0, [some (.ref 102), none, none], [], h6) (gI (fun v9 h9 => hKn h9 → wF F 176 (74, [some (.ref 102), some (.int x1), some (.int x2), some (.int x3), some (.int x4), some (.int x5), some (.int v9), some (.int 0)], [], h9) (gI K)))) ∧ (¬ v5.toInt = 0 → wF F 169 (0, [some (.ref 102), none, none], [], h6) (gI (fun v10 h10 => hKn h10 → wF F 176 (74, [some (.ref 102), some (.int x1), some (.int x2), some (.int x3), some (.int x4), some (.int x5), some (.int v10), some (.int 1)], [], h10) (gI K)))))))))))) : wF (F + 1) 176 (33, [some (.ref 102), some (.int x1), some (.int x2), some (.int x3), some (.int x4), some (.int x5), l6, l7], [], h) (gI K) := by
  refine w_0 (pc := 33) (e_s := (1, 2, 5, 0, 0, .null, [])) (y_s := (35, [some (.ref _), some (.int _), some (.int _), some (.int _), some (.int _), some (.int _), _, _], [.int _], _)) rfl (u_ rfl) ?_
  refine wq0 (pc := 35) (len_s := 3) rfl rfl (fun c1 => ?_) (fun c1 => ?_)
  · replace t := t.1 c1
    refine w_t (pc := 107) (e_s := (3, 1, 0, 0, 0, .null, [])) (y_s := (108, [some (.ref _), some (.int _), some (.int _), some (.int _), some (.int _), some (.int _), _, _], [.ref _], _)) rfl (u_ rfl) ?_
    refine w20 (pc := 108) (len_s := 3) rfl ?_
    refine wq3 (pc := 111) (len_s := 3) rfl rfl (fun c2 => ?_) (fun c2 => ?_)
    · replace t := t.1 c2
      refine w_t (pc := 114) (e_s := (3, 1, 0, 0, 0, .null, [])) (y_s := (115, [some (.ref _), some (.int _), some (.int _), some (.int _), some (.int _), some (.int _), _, _], [.ref _], _)) rfl (u_ rfl) ?_
      refine w20 (pc := 115) (len_s := 3) rfl ?_
      refine w_t (pc := 118) (e_s := (3, 1, 0, 0, 0, .null, [])) (y_s := (119, [some (.ref _), some (.int _), some (.int _), some (.int _), some (.int _), some (.int _), _, _], [.ref _, .int _], _)) rfl (u_ rfl) ?_
      refine w20 (pc := 119) (len_s := 3) rfl ?_
      refine wi3 (pc := 122) (len_s := 3) rfl rfl rfl (fun c3 => ?_) (fun c3 => ?_)
      · replace t := t.1 c3
        refine w_t (pc := 125) (e_s := (3, 1, 0, 0, 0, .null, [])) (y_s := (126, [some (.ref _), some (.int _), some (.int _), some (.int _), some (.int _), some (.int _), _, _], [.ref _], _)) rfl (u_ rfl) ?_
        refine wcI (pc := 126) (len_s := 3) rfl rfl (l := [some (.ref _)]) rfl (wmI t (fun v4 h4 hk t => ?_))
        replace t := t hk
        exact wrI (pc := 129) (len_s := 1) rfl hk t
      · replace t := t.2 c3
        refine w_t (pc := 130) (e_s := (1, 2, 4, 0, 0, .null, [])) (y_s := (132, [some (.ref _), some (.int _), some (.int _), some (.int _), some (.int _), some (.int _), _, _], [.int _], _)) rfl (u_ rfl) ?_
        exact wrI (pc := 132) (len_s := 1) rfl hk t
    · replace t := t.2 c2
      refine w_t (pc := 130) (e_s := (1, 2, 4, 0, 0, .null, [])) (y_s := (132, [some (.ref _), some (.int _), some (.int _), some (.int _), some (.int _), some (.int _), _, _], [.int _], _)) rfl (u_ rfl) ?_
      exact wrI (pc := 132) (len_s := 1) rfl hk t
  · replace t := t.2 c1
    refine w_t (pc := 38) (e_s := (3, 1, 0, 0, 0, .null, [])) (y_s := (39, [some (.ref _), some (.int _), some (.int _), some (.int _), some (.int _), some (.int _), _, _], [.ref _], _)) rfl (u_ rfl) ?_
    refine wcI (pc := 39) (len_s := 3) rfl rfl (l := [some (.ref _), none, none]) rfl (wmI t (fun v5 h5 hk t => ?_))
    replace t := t hk
    refine w_t (pc := 42) (e_s := (4, 2, 6, 0, 0, .null, [])) (y_s := (44, [some (.ref _), some (.int _), some (.int _), some (.int _), some (.int _), some (.int _), some (.int _), _], [], _)) rfl (u_ rfl) ?_
    refine w_t (pc := 44) (e_s := (0, 1, 0, 0, 0, .int 1, [])) (y_s := (45, [some (.ref _), some (.int _), some (.int _), some (.int _), some (.int _), some (.int _), some (.int _), _], [.int _], _)) rfl (u_ rfl) ?_
    refine w_t (pc := 45) (e_s := (4, 2, 7, 0, 0, .null, [])) (y_s := (47, [some (.ref _), some (.int _), some (.int _), some (.int _), some (.int _), some (.int _), some (.int _), some (.int _)], [], _)) rfl (u_ rfl) ?_
    refine w_t (pc := 47) (e_s := (3, 1, 0, 0, 0, .null, [])) (y_s := (48, [some (.ref _), some (.int _), some (.int _), some (.int _), some (.int _), some (.int _), some (.int _), some (.int _)], [.ref _], _)) rfl (u_ rfl) ?_
    refine w_t (pc := 48) (e_s := (0, 2, 0, 0, 0, .int 63, [])) (y_s := (50, [some (.ref _), some (.int _), some (.int _), some (.int _), some (.int _), some (.int _), some (.int _), some (.int _)], [.int _, .ref _], _)) rfl (u_ rfl) ?_
    refine wcI (pc := 50) (len_s := 3) rfl rfl (l := [some (.ref _), some (.int _)]) rfl (wmI t (fun v6 h6 hk t => ?_))
    replace t := t hk
    refine wq0 (pc := 53) (len_s := 3) rfl rfl (fun c7 => ?_) (fun c7 => ?_)
    · replace t := t.1 c7
      exact t
    · replace t := t.2 c7
      refine w_t (pc := 56) (e_s := (1, 2, 6, 0, 0, .null, [])) (y_s := (58, [some (.ref _), some (.int _), some (.int _), some (.int _), some (.int _), some (.int _), some (.int _), some (.int _)], [.int _], _)) rfl (u_ rfl) ?_
      refine wq0 (pc := 58) (len_s := 3) rfl rfl (fun c8 => ?_) (fun c8 => ?_)
      · replace t := t.1 c8
        refine w_t (pc := 65) (e_s := (0, 1, 0, 0, 0, .int 0, [])) (y_s := (66, [some (.ref _), some (.int _), some (.int _), some (.int _), some (.int _), some (.int _), some (.int _), some (.int _)], [.int _], _)) rfl (u_ rfl) ?_
        refine w_t (pc := 66) (e_s := (4, 2, 7, 0, 0, .null, [])) (y_s := (68, [some (.ref _), some (.int _), some (.int _), some (.int _), some (.int _), some (.int _), some (.int _), some (.int _)], [], _)) rfl (u_ rfl) ?_
        refine w_t (pc := 68) (e_s := (3, 1, 0, 0, 0, .null, [])) (y_s := (69, [some (.ref _), some (.int _), some (.int _), some (.int _), some (.int _), some (.int _), some (.int _), some (.int _)], [.ref _], _)) rfl (u_ rfl) ?_
        refine wcI (pc := 69) (len_s := 3) rfl rfl (l := [some (.ref _), none, none]) rfl (wmI t (fun v9 h9 hk t => ?_))
        replace t := t hk
        refine w_t (pc := 72) (e_s := (4, 2, 6, 0, 0, .null, [])) (y_s := (74, [some (.ref _), some (.int _), some (.int _), some (.int _), some (.int _), some (.int _), some (.int _), some (.int _)], [], _)) rfl (u_ rfl) ?_
        exact t
      · replace t := t.2 c8
        refine w_t (pc := 61) (e_s := (0, 1, 0, 0, 0, .int 1, [])) (y_s := (62, [some (.ref _), some (.int _), some (.int _), some (.int _), some (.int _), some (.int _), some (.int _), some (.int _)], [.int _], _)) rfl (u_ rfl) ?_
        refine w_t (pc := 62) (e_s := (17, 3, 66, 0, 0, .null, [])) (y_s := (66, [some (.ref _), some (.int _), some (.int _), some (.int _), some (.int _), some (.int _), some (.int _), some (.int _)], [.int _], _)) rfl (u_ rfl) ?_
        refine w_t (pc := 66) (e_s := (4, 2, 7, 0, 0, .null, [])) (y_s := (68, [some (.ref _), some (.int _), some (.int _), some (.int _), some (.int _), some (.int _), some (.int _), some (.int _)], [], _)) rfl (u_ rfl) ?_
        refine w_t (pc := 68) (e_s := (3, 1, 0, 0, 0, .null, [])) (y_s := (69, [some (.ref _), some (.int _), some (.int _), some (.int _), some (.int _), some (.int _), some (.int _), some (.int _)], [.ref _], _)) rfl (u_ rfl) ?_
        refine wcI (pc := 69) (len_s := 3) rfl rfl (l := [some (.ref _), none, none]) rfl (wmI t (fun v10 h10 hk t => ?_))
        replace t := t hk
        refine w_t (pc := 72) (e_s := (4, 2, 6, 0, 0, .null, [])) (y_s := (74, [some (.ref _), some (.int _), some (.int _), some (.int _), some (.int _), some (.int _), some (.int _), some (.int _)], [], _)) rfl (u_ rfl) ?_
        exact t
/-- ColdShodModel.workOut(II)I, from 74 on -/
theorem sg_176_74 {F : Nat} {x1 x2 x3 x4 x5 x6 x7 : Int32} {h : zH} {K : Int32 → zH → Prop} (hk : hKn h) (t : ((h.2.1 102 18).toInt < 0 → ((x7.toInt = 0 → wF F 168 (0, [some (.ref 102), some (.int 59)], [], h) (gI (fun v3 h3 => hKn h3 → wF F 176 (33, [some (.ref 102), some (.int x1), some (.int x2), some (.int x3), some (.int x4), some (.int v3), some (.int x6), some (.int x7)], [], h3) (gI K)))) ∧ (¬ x7.toInt = 0 → ((x3.toInt = 0 → wF F 168 (0, [some (.ref 102), some (.int 59)], [], h) (gI (fun v5 h5 => hKn h5 → wF F 176 (33, [some (.ref 102), some (.int x1), some (.int x2), some (.int 1), some (.int x6), some (.int v5), some (.int x6), some (.int x7)], [], h5) (gI K)))) ∧ (¬ x3.toInt = 0 → wF F 168 (0, [some (.ref 102), some (.int 59)], [], h) (gI (fun v6 h6 => hKn h6 → wF F 176 (33, [some (.ref 102), some (.int x1), some (.int x2), some (.int x3), some (.int x4), some (.int v6), some (.int x6), some (.int x7)], [], h6) (gI K)))))))) ∧ (¬ (h.2.1 102 18).toInt < 0 → wF F 168 (0, [some (.ref 102), some (.int 59)], [], h) (gI (fun v7 h7 => hKn h7 → wF F 176 (33, [some (.ref 102), some (.int x1), some (.int x2), some (.int x3), some (.int x4), some (.int v7), some (.int x6), some (.int x7)], [], h7) (gI K))))) : wF (F + 1) 176 (74, [some (.ref 102), some (.int x1), some (.int x2), some (.int x3), some (.int x4), some (.int x5), some (.int x6), some (.int x7)], [], h) (gI K) := by
  refine w_0 (pc := 74) (e_s := (3, 1, 0, 0, 0, .null, [])) (y_s := (75, [some (.ref _), some (.int _), some (.int _), some (.int _), some (.int _), some (.int _), some (.int _), some (.int _)], [.ref _], _)) rfl (u_ rfl) ?_
  refine w20 (pc := 75) (len_s := 3) rfl ?_
  refine wq3 (pc := 78) (len_s := 3) rfl rfl (fun c1 => ?_) (fun c1 => ?_)
  · replace t := t.1 c1
    refine w_t (pc := 81) (e_s := (1, 2, 7, 0, 0, .null, [])) (y_s := (83, [some (.ref _), some (.int _), some (.int _), some (.int _), some (.int _), some (.int _), some (.int _), some (.int _)], [.int _], _)) rfl (u_ rfl) ?_
    refine wq0 (pc := 83) (len_s := 3) rfl rfl (fun c2 => ?_) (fun c2 => ?_)
    · replace t := t.1 c2
      refine w_t (pc := 96) (e_s := (3, 1, 0, 0, 0, .null, [])) (y_s := (97, [some (.ref _), some (.int _), some (.int _), some (.int _), some (.int _), some (.int _), some (.int _), some (.int _)], [.ref _], _)) rfl (u_ rfl) ?_
      refine w_t (pc := 97) (e_s := (0, 2, 0, 0, 0, .int 59, [])) (y_s := (99, [some (.ref _), some (.int _), some (.int _), some (.int _), some (.int _), some (.int _), some (.int _), some (.int _)], [.int _, .ref _], _)) rfl (u_ rfl) ?_
      refine wcI (pc := 99) (len_s := 3) rfl rfl (l := [some (.ref _), some (.int _)]) rfl (wmI t (fun v3 h3 hk t => ?_))
      replace t := t hk
      refine w_t (pc := 102) (e_s := (4, 2, 5, 0, 0, .null, [])) (y_s := (104, [some (.ref _), some (.int _), some (.int _), some (.int _), some (.int _), some (.int _), some (.int _), some (.int _)], [], _)) rfl (u_ rfl) ?_
      refine w_t (pc := 104) (e_s := (17, 3, 33, 0, 0, .null, [])) (y_s := (33, [some (.ref _), some (.int _), some (.int _), some (.int _), some (.int _), some (.int _), some (.int _), some (.int _)], [], _)) rfl (u_ rfl) ?_
      exact t
    · replace t := t.2 c2
      refine w_t (pc := 86) (e_s := (1, 1, 3, 0, 0, .null, [])) (y_s := (87, [some (.ref _), some (.int _), some (.int _), some (.int _), some (.int _), some (.int _), some (.int _), some (.int _)], [.int _], _)) rfl (u_ rfl) ?_
      refine wq1 (pc := 87) (len_s := 3) rfl rfl (fun c4 => ?_) (fun c4 => ?_)
      · replace t := t.1 c4
        refine w_t (pc := 90) (e_s := (0, 1, 0, 0, 0, .int 1, [])) (y_s := (91, [some (.ref _), some (.int _), some (.int _), some (.int _), some (.int _), some (.int _), some (.int _), some (.int _)], [.int _], _)) rfl (u_ rfl) ?_
        refine w_t (pc := 91) (e_s := (4, 1, 3, 0, 0, .null, [])) (y_s := (92, [some (.ref _), some (.int _), some (.int _), some (.int _), some (.int _), some (.int _), some (.int _), some (.int _)], [], _)) rfl (u_ rfl) ?_
        refine w_t (pc := 92) (e_s := (1, 2, 6, 0, 0, .null, [])) (y_s := (94, [some (.ref _), some (.int _), some (.int _), some (.int _), some (.int _), some (.int _), some (.int _), some (.int _)], [.int _], _)) rfl (u_ rfl) ?_
        refine w_t (pc := 94) (e_s := (4, 2, 4, 0, 0, .null, [])) (y_s := (96, [some (.ref _), some (.int _), some (.int _), some (.int _), some (.int _), some (.int _), some (.int _), some (.int _)], [], _)) rfl (u_ rfl) ?_
        refine w_t (pc := 96) (e_s := (3, 1, 0, 0, 0, .null, [])) (y_s := (97, [some (.ref _), some (.int _), some (.int _), some (.int _), some (.int _), some (.int _), some (.int _), some (.int _)], [.ref _], _)) rfl (u_ rfl) ?_
        refine w_t (pc := 97) (e_s := (0, 2, 0, 0, 0, .int 59, [])) (y_s := (99, [some (.ref _), some (.int _), some (.int _), some (.int _), some (.int _), some (.int _), some (.int _), some (.int _)], [.int _, .ref _], _)) rfl (u_ rfl) ?_
        refine wcI (pc := 99) (len_s := 3) rfl rfl (l := [some (.ref _), some (.int _)]) rfl (wmI t (fun v5 h5 hk t => ?_))
        replace t := t hk
        refine w_t (pc := 102) (e_s := (4, 2, 5, 0, 0, .null, [])) (y_s := (104, [some (.ref _), some (.int _), some (.int _), some (.int _), some (.int _), some (.int _), some (.int _), some (.int _)], [], _)) rfl (u_ rfl) ?_
        refine w_t (pc := 104) (e_s := (17, 3, 33, 0, 0, .null, [])) (y_s := (33, [some (.ref _), some (.int _), some (.int _), some (.int _), some (.int _), some (.int _), some (.int _), some (.int _)], [], _)) rfl (u_ rfl) ?_
        exact t
      · replace t := t.2 c4
        refine w_t (pc := 96) (e_s := (3, 1, 0, 0, 0, .null, [])) (y_s := (97, [some (.ref _), some (.int _), some (.int _), some (.int _), some (.int _), some (.int _), some (.int _), some (.int _)], [.ref _], _)) rfl (u_ rfl) ?_
        refine w_t (pc := 97) (e_s := (0, 2, 0, 0, 0, .int 59, [])) (y_s := (99, [some (.ref _), some (.int _), some (.int _), some (.int _), some (.int _), some (.int _), some (.int _), some (.int _)], [.int _, .ref _], _)) rfl (u_ rfl) ?_
        refine wcI (pc := 99) (len_s := 3) rfl rfl (l := [some (.ref _), some (.int _)]) rfl (wmI t (fun v6 h6 hk t => ?_))
        replace t := t hk
        refine w_t (pc := 102) (e_s := (4, 2, 5, 0, 0, .null, [])) (y_s := (104, [some (.ref _), some (.int _), some (.int _), some (.int _), some (.int _), some (.int _), some (.int _), some (.int _)], [], _)) rfl (u_ rfl) ?_
        refine w_t (pc := 104) (e_s := (17, 3, 33, 0, 0, .null, [])) (y_s := (33, [some (.ref _), some (.int _), some (.int _), some (.int _), some (.int _), some (.int _), some (.int _), some (.int _)], [], _)) rfl (u_ rfl) ?_
        exact t
  · replace t := t.2 c1
    refine w_t (pc := 96) (e_s := (3, 1, 0, 0, 0, .null, [])) (y_s := (97, [some (.ref _), some (.int _), some (.int _), some (.int _), some (.int _), some (.int _), some (.int _), some (.int _)], [.ref _], _)) rfl (u_ rfl) ?_
    refine w_t (pc := 97) (e_s := (0, 2, 0, 0, 0, .int 59, [])) (y_s := (99, [some (.ref _), some (.int _), some (.int _), some (.int _), some (.int _), some (.int _), some (.int _), some (.int _)], [.int _, .ref _], _)) rfl (u_ rfl) ?_
    refine wcI (pc := 99) (len_s := 3) rfl rfl (l := [some (.ref _), some (.int _)]) rfl (wmI t (fun v7 h7 hk t => ?_))
    replace t := t hk
    refine w_t (pc := 102) (e_s := (4, 2, 5, 0, 0, .null, [])) (y_s := (104, [some (.ref _), some (.int _), some (.int _), some (.int _), some (.int _), some (.int _), some (.int _), some (.int _)], [], _)) rfl (u_ rfl) ?_
    refine w_t (pc := 104) (e_s := (17, 3, 33, 0, 0, .null, [])) (y_s := (33, [some (.ref _), some (.int _), some (.int _), some (.int _), some (.int _), some (.int _), some (.int _), some (.int _)], [], _)) rfl (u_ rfl) ?_
    exact t
/-- ColdShodModel.law()I, from 0 on -/
theorem sg_177_0 {F : Nat}  {h : zH} {K : Int32 → zH → Prop} (hk : hKn h) (t : wF F 176 (0, [some (.ref 102), some (.int (-1)), some (.int (h.2.1 102 12)), none, none, none, none, none], [], h) (gI (fun v1 h1 => hKn h1 → ((h1.2.1 102 18).toInt < 0 → wF F 177 (37, [some (.ref 102), some (.int v1), some (.int (h1.2.1 102 12)), some (.int 0)], [], (h1.1, zup h1.2.1 102 12 0, h1.2.2.1, h1.2.2.2)) (gI K)) ∧ (¬ (h1.2.1 102 18).toInt < 0 → K ((-100) - (h1.2.1 102 18)) (h1.1, zup h1.2.1 102 12 0, h1.2.2.1, h1.2.2.2))))) : wF (F + 1) 177 (0, [some (.ref 102), none, none, none], [], h) (gI K) := by
  refine w_0 (pc := 0) (e_s := (3, 1, 0, 0, 0, .null, [])) (y_s := (1, [some (.ref _), none, none, none], [.ref _], _)) rfl (u_ rfl) ?_
  refine w_t (pc := 1) (e_s := (0, 1, 0, 0, 0, .int (-1), [])) (y_s := (2, [some (.ref _), none, none, none], [.int _, .ref _], _)) rfl (u_ rfl) ?_
  refine w_t (pc := 2) (e_s := (3, 1, 0, 0, 0, .null, [])) (y_s := (3, [some (.ref _), none, none, none], [.ref _, .int _, .ref _], _)) rfl (u_ rfl) ?_
  refine w20 (pc := 3) (len_s := 3) rfl ?_
  refine wcI (pc := 6) (len_s := 3) rfl rfl (l := [some (.ref _), some (.int _), some (.int _), none, none, none, none, none]) rfl (wmI t (fun v1 h1 hk t => ?_))
  replace t := t hk
  refine w_t (pc := 9) (e_s := (4, 1, 1, 0, 0, .null, [])) (y_s := (10, [some (.ref _), some (.int _), none, none], [], _)) rfl (u_ rfl) ?_
  refine w_t (pc := 10) (e_s := (3, 1, 0, 0, 0, .null, [])) (y_s := (11, [some (.ref _), some (.int _), none, none], [.ref _], _)) rfl (u_ rfl) ?_
  refine w20 (pc := 11) (len_s := 3) rfl ?_
  refine w_t (pc := 14) (e_s := (4, 1, 2, 0, 0, .null, [])) (y_s := (15, [some (.ref _), some (.int _), some (.int _), none], [], _)) rfl (u_ rfl) ?_
  refine w_t (pc := 15) (e_s := (3, 1, 0, 0, 0, .null, [])) (y_s := (16, [some (.ref _), some (.int _), some (.int _), none], [.ref _], _)) rfl (u_ rfl) ?_
  refine w_t (pc := 16) (e_s := (0, 1, 0, 0, 0, .int 0, [])) (y_s := (17, [some (.ref _), some (.int _), some (.int _), none], [.int _, .ref _], _)) rfl (u_ rfl) ?_
  refine w21 (pc := 17) (len_s := 3) rfl ?_
  refine w_t (pc := 20) (e_s := (3, 1, 0, 0, 0, .null, [])) (y_s := (21, [some (.ref _), some (.int _), some (.int _), none], [.ref _], _)) rfl (u_ rfl) ?_
  refine w20 (pc := 21) (len_s := 3) rfl ?_
  refine wq2 (pc := 24) (len_s := 3) rfl rfl (fun c2 => ?_) (fun c2 => ?_)
  · replace t := t.1 c2
    refine w_t (pc := 35) (e_s := (0, 1, 0, 0, 0, .int 0, [])) (y_s := (36, [some (.ref _), some (.int _), some (.int _), none], [.int _], _)) rfl (u_ rfl) ?_
    refine w_t (pc := 36) (e_s := (4, 1, 3, 0, 0, .null, [])) (y_s := (37, [some (.ref _), some (.int _), some (.int _), some (.int _)], [], _)) rfl (u_ rfl) ?_
    exact t
  · replace t := t.2 c2
    refine w_t (pc := 27) (e_s := (0, 2, 0, 0, 0, .int (-100), [])) (y_s := (29, [some (.ref _), some (.int _), some (.int _), none], [.int _], _)) rfl (u_ rfl) ?_
    refine w_t (pc := 29) (e_s := (3, 1, 0, 0, 0, .null, [])) (y_s := (30, [some (.ref _), some (.int _), some (.int _), none], [.ref _, .int _], _)) rfl (u_ rfl) ?_
    refine w20 (pc := 30) (len_s := 3) rfl ?_
    refine w_t (pc := 33) (e_s := (7, 1, 0, 1, 0, .null, [])) (y_s := (34, [some (.ref _), some (.int _), some (.int _), none], [.int (_ - _)], _)) rfl (u_ rfl) ?_
    exact wrI (pc := 34) (len_s := 1) rfl hk t
/-- ColdShodModel.law()I, from 37 on -/
theorem sg_177_37 {F : Nat} {x1 x2 x3 : Int32} {h : zH} {K : Int32 → zH → Prop} (hk : hKn h) (t : (x3.toInt < x2.toInt → (zix x3 < 120 → wF F 177 (37, [some (.ref 102), some (.int x1), some (.int x2), some (.int (x3 + 1))], [], (h.1, zup h.2.1 110 (zix x3) (h.2.1 109 (zix x3)), h.2.2.1, h.2.2.2)) (gI K))) ∧ (¬ x3.toInt < x2.toInt → K 1 (h.1, zup h.2.1 102 14 x2, h.2.2.1, h.2.2.2))) : wF (F + 1) 177 (37, [some (.ref 102), some (.int x1), some (.int x2), some (.int x3)], [], h) (gI K) := by
  refine w_0 (pc := 37) (e_s := (1, 1, 3, 0, 0, .null, [])) (y_s := (38, [some (.ref _), some (.int _), some (.int _), some (.int _)], [.int _], _)) rfl (u_ rfl) ?_
  refine w_t (pc := 38) (e_s := (1, 1, 2, 0, 0, .null, [])) (y_s := (39, [some (.ref _), some (.int _), some (.int _), some (.int _)], [.int _, .int _], _)) rfl (u_ rfl) ?_
  refine wi3 (pc := 39) (len_s := 3) rfl rfl rfl (fun c1 => ?_) (fun c1 => ?_)
  · replace t := t.1 c1
    refine w_t (pc := 42) (e_s := (3, 1, 0, 0, 0, .null, [])) (y_s := (43, [some (.ref _), some (.int _), some (.int _), some (.int _)], [.ref _], _)) rfl (u_ rfl) ?_
    refine w20r (pc := 43) (len_s := 3) (q_s := 110) rfl (krq hk rfl) ?_
    refine w_t (pc := 46) (e_s := (1, 1, 3, 0, 0, .null, [])) (y_s := (47, [some (.ref _), some (.int _), some (.int _), some (.int _)], [.int _, .ref _], _)) rfl (u_ rfl) ?_
    refine w_t (pc := 47) (e_s := (3, 1, 0, 0, 0, .null, [])) (y_s := (48, [some (.ref _), some (.int _), some (.int _), some (.int _)], [.ref _, .int _, .ref _], _)) rfl (u_ rfl) ?_
    refine w20r (pc := 48) (len_s := 3) (q_s := 109) rfl (krq hk rfl) ?_
    refine w_t (pc := 51) (e_s := (1, 1, 3, 0, 0, .null, [])) (y_s := (52, [some (.ref _), some (.int _), some (.int _), some (.int _)], [.int _, .ref _, .int _, .ref _], _)) rfl (u_ rfl) ?_
    refine w22 (pc := 52) (len_s := 1) rfl (hk.1 109 0 120 rfl rfl) (fun c2 => ?_)
    replace t := t c2
    refine w25 (pc := 53) (len_s := 1) rfl (hk.1 110 0 120 rfl rfl) (fun c3 => ?_)
    refine w_t (pc := 54) (e_s := (19, 3, 3, 0, 0, .int 1, [])) (y_s := (57, [some (.ref _), some (.int _), some (.int _), some (.int _)], [], _)) rfl (u_ rfl) ?_
    refine w_t (pc := 57) (e_s := (17, 3, 37, 0, 0, .null, [])) (y_s := (37, [some (.ref _), some (.int _), some (.int _), some (.int _)], [], _)) rfl (u_ rfl) ?_
    exact t
  · replace t := t.2 c1
    refine w_t (pc := 60) (e_s := (3, 1, 0, 0, 0, .null, [])) (y_s := (61, [some (.ref _), some (.int _), some (.int _), some (.int _)], [.ref _], _)) rfl (u_ rfl) ?_
    refine w_t (pc := 61) (e_s := (1, 1, 2, 0, 0, .null, [])) (y_s := (62, [some (.ref _), some (.int _), some (.int _), some (.int _)], [.int _, .ref _], _)) rfl (u_ rfl) ?_
    refine w21 (pc := 62) (len_s := 3) rfl ?_
    refine w_t (pc := 65) (e_s := (0, 1, 0, 0, 0, .int 1, [])) (y_s := (66, [some (.ref _), some (.int _), some (.int _), some (.int _)], [.int _], _)) rfl (u_ rfl) ?_
    exact wrI (pc := 66) (len_s := 1) rfl hk t
