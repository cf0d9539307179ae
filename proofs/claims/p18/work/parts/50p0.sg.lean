/-! What ended runs of the shelves' methods give: printed by a program (wip/fun/sg.py). -/
/-- ColdShod.body(I)I, from 0 on -/
theorem sg_125_0 {F : Nat} {x1 : Int32} {h : zH} {K : Int32 → zH → Prop} (hk : hKn h) (t : (x1.toInt < 0 → K (-1) h) ∧ (¬ x1.toInt < 0 → ((x1.toInt < 8 → (((h.2.1 47 1).toInt < 50 → (zix (h.2.1 47 1) < 50 → K (h.2.1 47 1) (h.1, zup (zup h.2.1 48 (zix (h.2.1 47 1)) x1) 47 1 ((h.2.1 47 1) + 1), h.2.2.1, h.2.2.2))) ∧ (¬ (h.2.1 47 1).toInt < 50 → K (-3) h))) ∧ (¬ x1.toInt < 8 → K (-1) h)))) : wF (F + 1) 125 (0, [some (.ref 6), some (.int x1)], [], h) (gI K) := by
  refine w_0 (pc := 0) (e_s := (1, 1, 1, 0, 0, .null, [])) (y_s := (1, [some (.ref _), some (.int _)], [.int _], _)) rfl (u_ rfl) ?_
  refine wq2 (pc := 1) (len_s := 3) rfl rfl (fun c1 => ?_) (fun c1 => ?_)
  · replace t := t.1 c1
    refine w_t (pc := 10) (e_s := (0, 1, 0, 0, 0, .int (-1), [])) (y_s := (11, [some (.ref _), some (.int _)], [.int _], _)) rfl (u_ rfl) ?_
    exact wrI (pc := 11) (len_s := 1) rfl hk t
  · replace t := t.2 c1
    refine w_t (pc := 4) (e_s := (1, 1, 1, 0, 0, .null, [])) (y_s := (5, [some (.ref _), some (.int _)], [.int _], _)) rfl (u_ rfl) ?_
    refine w_t (pc := 5) (e_s := (0, 2, 0, 0, 0, .int 8, [])) (y_s := (7, [some (.ref _), some (.int _)], [.int _, .int _], _)) rfl (u_ rfl) ?_
    refine wi2 (pc := 7) (len_s := 3) (Y := 8) rfl rfl (by decide) (fun c2 => ?_) (fun c2 => ?_)
    · replace t := t.1 c2
      refine w_t (pc := 12) (e_s := (3, 1, 0, 0, 0, .null, [])) (y_s := (13, [some (.ref _), some (.int _)], [.ref _], _)) rfl (u_ rfl) ?_
      refine w20r (pc := 13) (len_s := 3) (q_s := 47) rfl (krq hk rfl) ?_
      refine w_t (pc := 16) (e_s := (1, 1, 1, 0, 0, .null, [])) (y_s := (17, [some (.ref _), some (.int _)], [.int _, .ref _], _)) rfl (u_ rfl) ?_
      refine wcI (pc := 17) (len_s := 3) rfl rfl (l := [some (.ref _), some (.int _)]) rfl ?_
      refine w_t (pc := 0) (e_s := (3, 1, 0, 0, 0, .null, [])) (y_s := (1, [some (.ref _), some (.int _)], [.ref _], _)) rfl (u_ rfl) ?_
      refine w20 (pc := 1) (len_s := 3) rfl ?_
      refine w_t (pc := 4) (e_s := (0, 2, 0, 0, 0, .int 50, [])) (y_s := (6, [some (.ref _), some (.int _)], [.int _, .int _], _)) rfl (u_ rfl) ?_
      refine wi2 (pc := 6) (len_s := 3) (Y := 50) rfl rfl (by decide) (fun c3 => ?_) (fun c3 => ?_)
      · replace t := t.1 c3
        refine w_t (pc := 12) (e_s := (3, 1, 0, 0, 0, .null, [])) (y_s := (13, [some (.ref _), some (.int _)], [.ref _], _)) rfl (u_ rfl) ?_
        refine w20r (pc := 13) (len_s := 3) (q_s := 48) rfl (krq hk rfl) ?_
        refine w_t (pc := 16) (e_s := (3, 1, 0, 0, 0, .null, [])) (y_s := (17, [some (.ref _), some (.int _)], [.ref _, .ref _], _)) rfl (u_ rfl) ?_
        refine w20 (pc := 17) (len_s := 3) rfl ?_
        refine w_t (pc := 20) (e_s := (1, 1, 1, 0, 0, .null, [])) (y_s := (21, [some (.ref _), some (.int _)], [.int _, .int _, .ref _], _)) rfl (u_ rfl) ?_
        refine w25 (pc := 21) (len_s := 1) rfl (hk.1 48 0 50 rfl rfl) (fun c4 => ?_)
        replace t := t c4
        refine w_t (pc := 22) (e_s := (3, 1, 0, 0, 0, .null, [])) (y_s := (23, [some (.ref _), some (.int _)], [.ref _], _)) rfl (u_ rfl) ?_
        refine w_t (pc := 23) (e_s := (39, 1, 0, 0, 0, .null, [])) (y_s := (24, [some (.ref _), some (.int _)], [.ref _, .ref _], _)) rfl (u_ rfl) ?_
        refine w20 (pc := 24) (len_s := 3) rfl ?_
        refine w_t (pc := 27) (e_s := (40, 1, 0, 0, 0, .null, [])) (y_s := (28, [some (.ref _), some (.int _)], [.int _, .ref _, .int _], _)) rfl (u_ rfl) ?_
        refine w_t (pc := 28) (e_s := (0, 1, 0, 0, 0, .int 1, [])) (y_s := (29, [some (.ref _), some (.int _)], [.int _, .int _, .ref _, .int _], _)) rfl (u_ rfl) ?_
        refine w_t (pc := 29) (e_s := (7, 1, 0, 0, 0, .null, [])) (y_s := (30, [some (.ref _), some (.int _)], [.int (_ + _), .ref _, .int _], _)) rfl (u_ rfl) ?_
        refine w21 (pc := 30) (len_s := 3) rfl ?_
        refine wrI (pc := 33) (len_s := 1) rfl hk ?_
        show wF _ 125 (20, [some (.ref _), some (.int _)], [.int _], _) _
        exact wrI (pc := 20) (len_s := 1) rfl hk t
      · replace t := t.2 c3
        refine w_t (pc := 9) (e_s := (0, 2, 0, 0, 0, .int (-3), [])) (y_s := (11, [some (.ref _), some (.int _)], [.int _], _)) rfl (u_ rfl) ?_
        refine wrI (pc := 11) (len_s := 1) rfl hk ?_
        show wF _ 125 (20, [some (.ref _), some (.int _)], [.int _], _) _
        exact wrI (pc := 20) (len_s := 1) rfl hk t
    · replace t := t.2 c2
      refine w_t (pc := 10) (e_s := (0, 1, 0, 0, 0, .int (-1), [])) (y_s := (11, [some (.ref _), some (.int _)], [.int _], _)) rfl (u_ rfl) ?_
      exact wrI (pc := 11) (len_s := 1) rfl hk t
/-- ColdShodModel.body(I)I, from 0 on -/
theorem sg_219_0 {F : Nat} {x1 : Int32} {h : zH} {K : Int32 → zH → Prop} (hk : hKn h) (t : (x1.toInt < 0 → K (-1) h) ∧ (¬ x1.toInt < 0 → ((7 < x1.toInt → K (-1) h) ∧ (¬ 7 < x1.toInt → (((h.2.1 102 39).toInt = 50 → K (-3) h) ∧ (¬ (h.2.1 102 39).toInt = 50 → (zix (h.2.1 102 39) < 50 → K (((h.2.1 102 39) + 1) - 1) (h.1, zup (zup h.2.1 122 (zix (h.2.1 102 39)) x1) 102 39 ((h.2.1 102 39) + 1), h.2.2.1, h.2.2.2)))))))) : wF (F + 1) 219 (0, [some (.ref 102), some (.int x1)], [], h) (gI K) := by
  refine w_0 (pc := 0) (e_s := (1, 1, 1, 0, 0, .null, [])) (y_s := (1, [some (.ref _), some (.int _)], [.int _], _)) rfl (u_ rfl) ?_
  refine w_t (pc := 1) (e_s := (10, 1, 0, 0, 0, .null, [])) (y_s := (2, [some (.ref _), some (.int _)], [.long (Int32.toInt64 _)], _)) rfl (u_ rfl) ?_
  refine w_t (pc := 2) (e_s := (0, 1, 0, 0, 0, .long 0, [])) (y_s := (3, [some (.ref _), some (.int _)], [.long _, .long _], _)) rfl (u_ rfl) ?_
  refine w_t (pc := 3) (e_s := (0, 3, 0, 0, 0, .long 7, [(0, 1062)])) (y_s := (6, [some (.ref _), some (.int _)], [.long _, .long _, .long _], _)) rfl (u_ rfl) ?_
  refine wcI (pc := 6) (len_s := 3) rfl rfl (l := [some (.long _), none, some (.long _), none, some (.long _), none]) rfl ?_
  refine w_t (pc := 0) (e_s := (2, 1, 0, 0, 0, .null, [])) (y_s := (1, [some (.long _), none, some (.long _), none, some (.long _), none], [.long _], _)) rfl (u_ rfl) ?_
  refine w_t (pc := 1) (e_s := (2, 1, 2, 0, 0, .null, [])) (y_s := (2, [some (.long _), none, some (.long _), none, some (.long _), none], [.long _, .long _], _)) rfl (u_ rfl) ?_
  refine w_t (pc := 2) (e_s := (14, 1, 0, 0, 0, .null, [])) (y_s := (3, [some (.long _), none, some (.long _), none, some (.long _), none], [.int (lg_cmp _ _)], _)) rfl (u_ rfl) ?_
  refine wl2 (pc := 3) (len_s := 3) (Y := 0) rfl (Int32.toInt_toInt64 _) (by decide) (fun c1 => ?_) (fun c1 => ?_)
  · replace t := t.1 c1
    refine w_t (pc := 17) (e_s := (0, 1, 0, 0, 0, .int 0, [])) (y_s := (18, [some (.long _), none, some (.long _), none, some (.long _), none], [.int _], _)) rfl (u_ rfl) ?_
    refine wrI (pc := 18) (len_s := 1) rfl hk ?_
    show wF _ 219 (9, [some (.ref _), some (.int _)], [.int _], _) _
    refine w_t (pc := 9) (e_s := (15, 3, 14, 1, 0, .null, [])) (y_s := (12, [some (.ref _), some (.int _)], [], _)) rfl (u_ rfl) ?_
    refine w_t (pc := 12) (e_s := (0, 1, 0, 0, 0, .int (-1), [])) (y_s := (13, [some (.ref _), some (.int _)], [.int _], _)) rfl (u_ rfl) ?_
    exact wrI (pc := 13) (len_s := 1) rfl hk t
  · replace t := t.2 c1
    refine w_t (pc := 6) (e_s := (2, 1, 0, 0, 0, .null, [])) (y_s := (7, [some (.long _), none, some (.long _), none, some (.long _), none], [.long _], _)) rfl (u_ rfl) ?_
    refine w_t (pc := 7) (e_s := (2, 2, 4, 0, 0, .null, [])) (y_s := (9, [some (.long _), none, some (.long _), none, some (.long _), none], [.long _, .long _], _)) rfl (u_ rfl) ?_
    refine w_t (pc := 9) (e_s := (14, 1, 0, 0, 0, .null, [])) (y_s := (10, [some (.long _), none, some (.long _), none, some (.long _), none], [.int (lg_cmp _ _)], _)) rfl (u_ rfl) ?_
    refine wl4 (pc := 10) (len_s := 3) (Y := 7) rfl (Int32.toInt_toInt64 _) (by decide) (fun c2 => ?_) (fun c2 => ?_)
    · replace t := t.1 c2
      refine w_t (pc := 17) (e_s := (0, 1, 0, 0, 0, .int 0, [])) (y_s := (18, [some (.long _), none, some (.long _), none, some (.long _), none], [.int _], _)) rfl (u_ rfl) ?_
      refine wrI (pc := 18) (len_s := 1) rfl hk ?_
      show wF _ 219 (9, [some (.ref _), some (.int _)], [.int _], _) _
      refine w_t (pc := 9) (e_s := (15, 3, 14, 1, 0, .null, [])) (y_s := (12, [some (.ref _), some (.int _)], [], _)) rfl (u_ rfl) ?_
      refine w_t (pc := 12) (e_s := (0, 1, 0, 0, 0, .int (-1), [])) (y_s := (13, [some (.ref _), some (.int _)], [.int _], _)) rfl (u_ rfl) ?_
      exact wrI (pc := 13) (len_s := 1) rfl hk t
    · replace t := t.2 c2
      refine w_t (pc := 13) (e_s := (0, 1, 0, 0, 0, .int 1, [])) (y_s := (14, [some (.long _), none, some (.long _), none, some (.long _), none], [.int _], _)) rfl (u_ rfl) ?_
      refine w_t (pc := 14) (e_s := (17, 3, 18, 0, 0, .null, [])) (y_s := (18, [some (.long _), none, some (.long _), none, some (.long _), none], [.int _], _)) rfl (u_ rfl) ?_
      refine wrI (pc := 18) (len_s := 1) rfl hk ?_
      show wF _ 219 (9, [some (.ref _), some (.int _)], [.int _], _) _
      refine w_t (pc := 9) (e_s := (15, 3, 14, 1, 0, .null, [])) (y_s := (14, [some (.ref _), some (.int _)], [], _)) rfl (u_ rfl) ?_
      refine w_t (pc := 14) (e_s := (3, 1, 0, 0, 0, .null, [])) (y_s := (15, [some (.ref _), some (.int _)], [.ref _], _)) rfl (u_ rfl) ?_
      refine w20 (pc := 15) (len_s := 3) rfl ?_
      refine w_t (pc := 18) (e_s := (0, 2, 0, 0, 0, .int 50, [])) (y_s := (20, [some (.ref _), some (.int _)], [.int _, .int _], _)) rfl (u_ rfl) ?_
      refine wi1 (pc := 20) (len_s := 3) (Y := 50) rfl rfl (by decide) (fun c3 => ?_) (fun c3 => ?_)
      · replace t := t.1 c3
        refine w_t (pc := 23) (e_s := (0, 2, 0, 0, 0, .int (-3), [])) (y_s := (25, [some (.ref _), some (.int _)], [.int _], _)) rfl (u_ rfl) ?_
        exact wrI (pc := 25) (len_s := 1) rfl hk t
      · replace t := t.2 c3
        refine w_t (pc := 26) (e_s := (3, 1, 0, 0, 0, .null, [])) (y_s := (27, [some (.ref _), some (.int _)], [.ref _], _)) rfl (u_ rfl) ?_
        refine w20r (pc := 27) (len_s := 3) (q_s := 122) rfl (krq hk rfl) ?_
        refine w_t (pc := 30) (e_s := (3, 1, 0, 0, 0, .null, [])) (y_s := (31, [some (.ref _), some (.int _)], [.ref _, .ref _], _)) rfl (u_ rfl) ?_
        refine w20 (pc := 31) (len_s := 3) rfl ?_
        refine w_t (pc := 34) (e_s := (1, 1, 1, 0, 0, .null, [])) (y_s := (35, [some (.ref _), some (.int _)], [.int _, .int _, .ref _], _)) rfl (u_ rfl) ?_
        refine w25 (pc := 35) (len_s := 1) rfl (hk.1 122 0 50 rfl rfl) (fun c4 => ?_)
        replace t := t c4
        refine w_t (pc := 36) (e_s := (3, 1, 0, 0, 0, .null, [])) (y_s := (37, [some (.ref _), some (.int _)], [.ref _], _)) rfl (u_ rfl) ?_
        refine w_t (pc := 37) (e_s := (39, 1, 0, 0, 0, .null, [])) (y_s := (38, [some (.ref _), some (.int _)], [.ref _, .ref _], _)) rfl (u_ rfl) ?_
        refine w20 (pc := 38) (len_s := 3) rfl ?_
        refine w_t (pc := 41) (e_s := (0, 1, 0, 0, 0, .int 1, [])) (y_s := (42, [some (.ref _), some (.int _)], [.int _, .int _, .ref _], _)) rfl (u_ rfl) ?_
        refine w_t (pc := 42) (e_s := (7, 1, 0, 0, 0, .null, [])) (y_s := (43, [some (.ref _), some (.int _)], [.int (_ + _), .ref _], _)) rfl (u_ rfl) ?_
        refine w21 (pc := 43) (len_s := 3) rfl ?_
        refine w_t (pc := 46) (e_s := (3, 1, 0, 0, 0, .null, [])) (y_s := (47, [some (.ref _), some (.int _)], [.ref _], _)) rfl (u_ rfl) ?_
        refine w20 (pc := 47) (len_s := 3) rfl ?_
        refine w_t (pc := 50) (e_s := (0, 1, 0, 0, 0, .int 1, [])) (y_s := (51, [some (.ref _), some (.int _)], [.int _, .int _], _)) rfl (u_ rfl) ?_
        refine w_t (pc := 51) (e_s := (7, 1, 0, 1, 0, .null, [])) (y_s := (52, [some (.ref _), some (.int _)], [.int (_ - _)], _)) rfl (u_ rfl) ?_
        exact wrI (pc := 52) (len_s := 1) rfl hk t
/-- ColdShod.keep(II)I, from 0 on -/
theorem sg_128_0 {F : Nat} {x1 : Int32} {x2 : Int32} {h : zH} {K : Int32 → zH → Prop} (hk : hKn h) (t : (x1.toInt < 0 → K (-1) h) ∧ (¬ x1.toInt < 0 → ((x1.toInt < 6 → ((x2.toInt = -1 → (zix x1 < 6 → K 1 (h.1, zup h.2.1 (76 + 2 * (zix x1)) 0 0, h.2.2.1, h.2.2.2))) ∧ (¬ x2.toInt = -1 → ((x2.toInt < 0 → K (-1) h) ∧ (¬ x2.toInt < 0 → ((x2.toInt < (h.2.1 47 1).toInt → (zix x1 < 6 → K 1 (h.1, zup (zup h.2.1 (76 + 2 * (zix x1)) 0 1) (76 + 2 * (zix x1)) 1 x2, h.2.2.1, h.2.2.2))) ∧ (¬ x2.toInt < (h.2.1 47 1).toInt → K (-1) h))))))) ∧ (¬ x1.toInt < 6 → K (-1) h)))) : wF (F + 1) 128 (0, [some (.ref 6), some (.int x1), some (.int x2)], [], h) (gI K) := by
  refine w_0 (pc := 0) (e_s := (1, 1, 1, 0, 0, .null, [])) (y_s := (1, [some (.ref _), some (.int _), some (.int _)], [.int _], _)) rfl (u_ rfl) ?_
  refine wcI (pc := 1) (len_s := 3) rfl rfl (l := [some (.int _)]) rfl ?_
  refine w_t (pc := 0) (e_s := (1, 1, 0, 0, 0, .null, [])) (y_s := (1, [some (.int _)], [.int _], _)) rfl (u_ rfl) ?_
  refine wq2 (pc := 1) (len_s := 3) rfl rfl (fun c1 => ?_) (fun c1 => ?_)
  · replace t := t.1 c1
    refine w_t (pc := 14) (e_s := (0, 1, 0, 0, 0, .int 0, [])) (y_s := (15, [some (.int _)], [.int _], _)) rfl (u_ rfl) ?_
    refine wrI (pc := 15) (len_s := 1) rfl hk ?_
    show wF _ 128 (4, [some (.ref _), some (.int _), some (.int _)], [.int _], _) _
    refine w_t (pc := 4) (e_s := (15, 3, 23, 0, 0, .null, [])) (y_s := (23, [some (.ref _), some (.int _), some (.int _)], [], _)) rfl (u_ rfl) ?_
    refine w_t (pc := 23) (e_s := (0, 1, 0, 0, 0, .int (-1), [])) (y_s := (24, [some (.ref _), some (.int _), some (.int _)], [.int _], _)) rfl (u_ rfl) ?_
    exact wrI (pc := 24) (len_s := 1) rfl hk t
  · replace t := t.2 c1
    refine w_t (pc := 4) (e_s := (1, 1, 0, 0, 0, .null, [])) (y_s := (5, [some (.int _)], [.int _], _)) rfl (u_ rfl) ?_
    refine w_t (pc := 5) (e_s := (0, 2, 0, 0, 0, .int 6, [])) (y_s := (7, [some (.int _)], [.int _, .int _], _)) rfl (u_ rfl) ?_
    refine wi3 (pc := 7) (len_s := 3) (Y := 6) rfl rfl (by decide) (fun c2 => ?_) (fun c2 => ?_)
    · replace t := t.1 c2
      refine w_t (pc := 10) (e_s := (0, 1, 0, 0, 0, .int 1, [])) (y_s := (11, [some (.int _)], [.int _], _)) rfl (u_ rfl) ?_
      refine w_t (pc := 11) (e_s := (17, 3, 15, 0, 0, .null, [])) (y_s := (15, [some (.int _)], [.int _], _)) rfl (u_ rfl) ?_
      refine wrI (pc := 15) (len_s := 1) rfl hk ?_
      show wF _ 128 (4, [some (.ref _), some (.int _), some (.int _)], [.int _], _) _
      refine w_t (pc := 4) (e_s := (15, 3, 23, 0, 0, .null, [])) (y_s := (7, [some (.ref _), some (.int _), some (.int _)], [], _)) rfl (u_ rfl) ?_
      refine w_t (pc := 7) (e_s := (1, 1, 2, 0, 0, .null, [])) (y_s := (8, [some (.ref _), some (.int _), some (.int _)], [.int _], _)) rfl (u_ rfl) ?_
      refine w_t (pc := 8) (e_s := (0, 1, 0, 0, 0, .int (-1), [])) (y_s := (9, [some (.ref _), some (.int _), some (.int _)], [.int _, .int _], _)) rfl (u_ rfl) ?_
      refine wi0 (pc := 9) (len_s := 3) (Y := -1) rfl rfl (by decide) (fun c3 => ?_) (fun c3 => ?_)
      · replace t := t.1 c3
        refine w_t (pc := 25) (e_s := (1, 1, 2, 0, 0, .null, [])) (y_s := (26, [some (.ref _), some (.int _), some (.int _)], [.int _], _)) rfl (u_ rfl) ?_
        refine w_t (pc := 26) (e_s := (0, 1, 0, 0, 0, .int (-1), [])) (y_s := (27, [some (.ref _), some (.int _), some (.int _)], [.int _, .int _], _)) rfl (u_ rfl) ?_
        refine wi1 (pc := 27) (len_s := 3) (Y := -1) rfl rfl (by decide) (fun c4 => ?_) (fun c4 => ?_)
        · skip
          refine w_t (pc := 30) (e_s := (3, 1, 0, 0, 0, .null, [])) (y_s := (31, [some (.ref _), some (.int _), some (.int _)], [.ref _], _)) rfl (u_ rfl) ?_
          refine w20r (pc := 31) (len_s := 3) (q_s := 71) rfl (krq hk rfl) ?_
          refine w_t (pc := 34) (e_s := (1, 1, 1, 0, 0, .null, [])) (y_s := (35, [some (.ref _), some (.int _), some (.int _)], [.int _, .ref _], _)) rfl (u_ rfl) ?_
          refine w24 (g_s := fun j_ => 76 + 2 * j_) (pc := 35) (len_s := 1) hk rfl (hk.1 71 4 6 rfl rfl) kg71 (fun c5 => ?_)
          replace t := t c5
          refine w_t (pc := 36) (e_s := (0, 1, 0, 0, 0, .int 0, [])) (y_s := (37, [some (.ref _), some (.int _), some (.int _)], [.int _, .ref _], _)) rfl (u_ rfl) ?_
          refine w21 (pc := 37) (len_s := 3) rfl ?_
          refine w_t (pc := 40) (e_s := (17, 3, 53, 0, 0, .null, [])) (y_s := (53, [some (.ref _), some (.int _), some (.int _)], [], _)) rfl (u_ rfl) ?_
          refine w_t (pc := 53) (e_s := (0, 1, 0, 0, 0, .int 1, [])) (y_s := (54, [some (.ref _), some (.int _), some (.int _)], [.int _], _)) rfl (u_ rfl) ?_
          exact wrI (pc := 54) (len_s := 1) rfl hk t
        · exact absurd c3 c4
      · replace t := t.2 c3
        refine w_t (pc := 12) (e_s := (3, 1, 0, 0, 0, .null, [])) (y_s := (13, [some (.ref _), some (.int _), some (.int _)], [.ref _], _)) rfl (u_ rfl) ?_
        refine w20r (pc := 13) (len_s := 3) (q_s := 47) rfl (krq hk rfl) ?_
        refine w_t (pc := 16) (e_s := (1, 1, 2, 0, 0, .null, [])) (y_s := (17, [some (.ref _), some (.int _), some (.int _)], [.int _, .ref _], _)) rfl (u_ rfl) ?_
        refine wcI (pc := 17) (len_s := 3) rfl rfl (l := [some (.ref _), some (.int _)]) rfl ?_
        refine w_t (pc := 0) (e_s := (1, 1, 1, 0, 0, .null, [])) (y_s := (1, [some (.ref _), some (.int _)], [.int _], _)) rfl (u_ rfl) ?_
        refine wq2 (pc := 1) (len_s := 3) rfl rfl (fun c6 => ?_) (fun c6 => ?_)
        · replace t := t.1 c6
          refine w_t (pc := 16) (e_s := (0, 1, 0, 0, 0, .int 0, [])) (y_s := (17, [some (.ref _), some (.int _)], [.int _], _)) rfl (u_ rfl) ?_
          refine wrI (pc := 17) (len_s := 1) rfl hk ?_
          show wF _ 128 (20, [some (.ref _), some (.int _), some (.int _)], [.int _], _) _
          refine w_t (pc := 20) (e_s := (15, 3, 25, 1, 0, .null, [])) (y_s := (23, [some (.ref _), some (.int _), some (.int _)], [], _)) rfl (u_ rfl) ?_
          refine w_t (pc := 23) (e_s := (0, 1, 0, 0, 0, .int (-1), [])) (y_s := (24, [some (.ref _), some (.int _), some (.int _)], [.int _], _)) rfl (u_ rfl) ?_
          exact wrI (pc := 24) (len_s := 1) rfl hk t
        · replace t := t.2 c6
          refine w_t (pc := 4) (e_s := (1, 1, 1, 0, 0, .null, [])) (y_s := (5, [some (.ref _), some (.int _)], [.int _], _)) rfl (u_ rfl) ?_
          refine w_t (pc := 5) (e_s := (3, 1, 0, 0, 0, .null, [])) (y_s := (6, [some (.ref _), some (.int _)], [.ref _, .int _], _)) rfl (u_ rfl) ?_
          refine w20 (pc := 6) (len_s := 3) rfl ?_
          refine wi3 (pc := 9) (len_s := 3) rfl rfl rfl (fun c7 => ?_) (fun c7 => ?_)
          · replace t := t.1 c7
            refine w_t (pc := 12) (e_s := (0, 1, 0, 0, 0, .int 1, [])) (y_s := (13, [some (.ref _), some (.int _)], [.int _], _)) rfl (u_ rfl) ?_
            refine w_t (pc := 13) (e_s := (17, 3, 17, 0, 0, .null, [])) (y_s := (17, [some (.ref _), some (.int _)], [.int _], _)) rfl (u_ rfl) ?_
            refine wrI (pc := 17) (len_s := 1) rfl hk ?_
            show wF _ 128 (20, [some (.ref _), some (.int _), some (.int _)], [.int _], _) _
            refine w_t (pc := 20) (e_s := (15, 3, 25, 1, 0, .null, [])) (y_s := (25, [some (.ref _), some (.int _), some (.int _)], [], _)) rfl (u_ rfl) ?_
            refine w_t (pc := 25) (e_s := (1, 1, 2, 0, 0, .null, [])) (y_s := (26, [some (.ref _), some (.int _), some (.int _)], [.int _], _)) rfl (u_ rfl) ?_
            refine w_t (pc := 26) (e_s := (0, 1, 0, 0, 0, .int (-1), [])) (y_s := (27, [some (.ref _), some (.int _), some (.int _)], [.int _, .int _], _)) rfl (u_ rfl) ?_
            refine wi1 (pc := 27) (len_s := 3) (Y := -1) rfl rfl (by decide) (fun c8 => ?_) (fun c8 => ?_)
            · exact absurd c8 c3
            · skip
              refine w_t (pc := 43) (e_s := (3, 1, 0, 0, 0, .null, [])) (y_s := (44, [some (.ref _), some (.int _), some (.int _)], [.ref _], _)) rfl (u_ rfl) ?_
              refine w20r (pc := 44) (len_s := 3) (q_s := 71) rfl (krq hk rfl) ?_
              refine w_t (pc := 47) (e_s := (1, 1, 1, 0, 0, .null, [])) (y_s := (48, [some (.ref _), some (.int _), some (.int _)], [.int _, .ref _], _)) rfl (u_ rfl) ?_
              refine w24 (g_s := fun j_ => 76 + 2 * j_) (pc := 48) (len_s := 1) hk rfl (hk.1 71 4 6 rfl rfl) kg71 (fun c9 => ?_)
              replace t := t c9
              refine w_t (pc := 49) (e_s := (1, 1, 2, 0, 0, .null, [])) (y_s := (50, [some (.ref _), some (.int _), some (.int _)], [.int _, .ref _], _)) rfl (u_ rfl) ?_
              refine wcV (pc := 50) (len_s := 3) rfl rfl (l := [some (.ref _), some (.int _)]) rfl ?_
              refine w_t (pc := 0) (e_s := (3, 1, 0, 0, 0, .null, [])) (y_s := (1, [some (.ref _), some (.int _)], [.ref _], _)) rfl (u_ rfl) ?_
              refine w_t (pc := 1) (e_s := (0, 1, 0, 0, 0, .int 1, [])) (y_s := (2, [some (.ref _), some (.int _)], [.int _, .ref _], _)) rfl (u_ rfl) ?_
              refine w21 (pc := 2) (len_s := 3) rfl ?_
              refine w_t (pc := 5) (e_s := (3, 1, 0, 0, 0, .null, [])) (y_s := (6, [some (.ref _), some (.int _)], [.ref _], _)) rfl (u_ rfl) ?_
              refine w_t (pc := 6) (e_s := (1, 1, 1, 0, 0, .null, [])) (y_s := (7, [some (.ref _), some (.int _)], [.int _, .ref _], _)) rfl (u_ rfl) ?_
              refine w21 (pc := 7) (len_s := 3) rfl ?_
              refine wrV (pc := 10) (len_s := 1) rfl hk ?_
              show wF _ 128 (53, [some (.ref _), some (.int _), some (.int _)], [], _) _
              refine w_t (pc := 53) (e_s := (0, 1, 0, 0, 0, .int 1, [])) (y_s := (54, [some (.ref _), some (.int _), some (.int _)], [.int _], _)) rfl (u_ rfl) ?_
              exact wrI (pc := 54) (len_s := 1) rfl hk t
          · replace t := t.2 c7
            refine w_t (pc := 16) (e_s := (0, 1, 0, 0, 0, .int 0, [])) (y_s := (17, [some (.ref _), some (.int _)], [.int _], _)) rfl (u_ rfl) ?_
            refine wrI (pc := 17) (len_s := 1) rfl hk ?_
            show wF _ 128 (20, [some (.ref _), some (.int _), some (.int _)], [.int _], _) _
            refine w_t (pc := 20) (e_s := (15, 3, 25, 1, 0, .null, [])) (y_s := (23, [some (.ref _), some (.int _), some (.int _)], [], _)) rfl (u_ rfl) ?_
            refine w_t (pc := 23) (e_s := (0, 1, 0, 0, 0, .int (-1), [])) (y_s := (24, [some (.ref _), some (.int _), some (.int _)], [.int _], _)) rfl (u_ rfl) ?_
            exact wrI (pc := 24) (len_s := 1) rfl hk t
    · replace t := t.2 c2
      refine w_t (pc := 14) (e_s := (0, 1, 0, 0, 0, .int 0, [])) (y_s := (15, [some (.int _)], [.int _], _)) rfl (u_ rfl) ?_
      refine wrI (pc := 15) (len_s := 1) rfl hk ?_
      show wF _ 128 (4, [some (.ref _), some (.int _), some (.int _)], [.int _], _) _
      refine w_t (pc := 4) (e_s := (15, 3, 23, 0, 0, .null, [])) (y_s := (23, [some (.ref _), some (.int _), some (.int _)], [], _)) rfl (u_ rfl) ?_
      refine w_t (pc := 23) (e_s := (0, 1, 0, 0, 0, .int (-1), [])) (y_s := (24, [some (.ref _), some (.int _), some (.int _)], [.int _], _)) rfl (u_ rfl) ?_
      exact wrI (pc := 24) (len_s := 1) rfl hk t
/-- ColdShodModel.keep(II)I, from 0 on -/
theorem sg_229_0 {F : Nat} {x1 : Int32} {x2 : Int32} {h : zH} {K : Int32 → zH → Prop} (hk : hKn h) (t : (x1.toInt < 0 → K (-1) h) ∧ (¬ x1.toInt < 0 → ((5 < x1.toInt → K (-1) h) ∧ (¬ 5 < x1.toInt → ((x2.toInt = -1 → (zix x1 < 6 → K 1 (h.1, zup (zup h.2.1 124 (zix x1) x2) 125 (zix x1) 0, h.2.2.1, h.2.2.2))) ∧ (¬ x2.toInt = -1 → ((x2.toInt < 0 → K (-1) h) ∧ (¬ x2.toInt < 0 → ((((h.2.1 102 39) - 1).toInt < x2.toInt → K (-1) h) ∧ (¬ ((h.2.1 102 39) - 1).toInt < x2.toInt → (zix x1 < 6 → K 1 (h.1, zup (zup h.2.1 124 (zix x1) x2) 125 (zix x1) 0, h.2.2.1, h.2.2.2)))))))))))) : wF (F + 1) 229 (0, [some (.ref 102), some (.int x1), some (.int x2)], [], h) (gI K) := by
  refine w_0 (pc := 0) (e_s := (1, 1, 1, 0, 0, .null, [])) (y_s := (1, [some (.ref _), some (.int _), some (.int _)], [.int _], _)) rfl (u_ rfl) ?_
  refine wcI (pc := 1) (len_s := 3) rfl rfl (l := [some (.int _)]) rfl ?_
  refine w_t (pc := 0) (e_s := (1, 1, 0, 0, 0, .null, [])) (y_s := (1, [some (.int _)], [.int _], _)) rfl (u_ rfl) ?_
  refine w_t (pc := 1) (e_s := (10, 1, 0, 0, 0, .null, [])) (y_s := (2, [some (.int _)], [.long (Int32.toInt64 _)], _)) rfl (u_ rfl) ?_
  refine w_t (pc := 2) (e_s := (0, 1, 0, 0, 0, .long 0, [])) (y_s := (3, [some (.int _)], [.long _, .long _], _)) rfl (u_ rfl) ?_
  refine w_t (pc := 3) (e_s := (0, 3, 0, 0, 0, .long 5, [(0, 1063)])) (y_s := (6, [some (.int _)], [.long _, .long _, .long _], _)) rfl (u_ rfl) ?_
  refine wcI (pc := 6) (len_s := 3) rfl rfl (l := [some (.long _), none, some (.long _), none, some (.long _), none]) rfl ?_
  refine w_t (pc := 0) (e_s := (2, 1, 0, 0, 0, .null, [])) (y_s := (1, [some (.long _), none, some (.long _), none, some (.long _), none], [.long _], _)) rfl (u_ rfl) ?_
  refine w_t (pc := 1) (e_s := (2, 1, 2, 0, 0, .null, [])) (y_s := (2, [some (.long _), none, some (.long _), none, some (.long _), none], [.long _, .long _], _)) rfl (u_ rfl) ?_
  refine w_t (pc := 2) (e_s := (14, 1, 0, 0, 0, .null, [])) (y_s := (3, [some (.long _), none, some (.long _), none, some (.long _), none], [.int (lg_cmp _ _)], _)) rfl (u_ rfl) ?_
  refine wl2 (pc := 3) (len_s := 3) (Y := 0) rfl (Int32.toInt_toInt64 _) (by decide) (fun c1 => ?_) (fun c1 => ?_)
  · replace t := t.1 c1
    refine w_t (pc := 17) (e_s := (0, 1, 0, 0, 0, .int 0, [])) (y_s := (18, [some (.long _), none, some (.long _), none, some (.long _), none], [.int _], _)) rfl (u_ rfl) ?_
    refine wrI (pc := 18) (len_s := 1) rfl hk ?_
    show wF _ 228 (9, [some (.int _)], [.int _], _) _
    refine wrI (pc := 9) (len_s := 1) rfl hk ?_
    show wF _ 229 (4, [some (.ref _), some (.int _), some (.int _)], [.int _], _) _
    refine w_t (pc := 4) (e_s := (15, 3, 20, 0, 0, .null, [])) (y_s := (20, [some (.ref _), some (.int _), some (.int _)], [], _)) rfl (u_ rfl) ?_
    refine w_t (pc := 20) (e_s := (0, 1, 0, 0, 0, .int (-1), [])) (y_s := (21, [some (.ref _), some (.int _), some (.int _)], [.int _], _)) rfl (u_ rfl) ?_
    exact wrI (pc := 21) (len_s := 1) rfl hk t
  · replace t := t.2 c1
    refine w_t (pc := 6) (e_s := (2, 1, 0, 0, 0, .null, [])) (y_s := (7, [some (.long _), none, some (.long _), none, some (.long _), none], [.long _], _)) rfl (u_ rfl) ?_
    refine w_t (pc := 7) (e_s := (2, 2, 4, 0, 0, .null, [])) (y_s := (9, [some (.long _), none, some (.long _), none, some (.long _), none], [.long _, .long _], _)) rfl (u_ rfl) ?_
    refine w_t (pc := 9) (e_s := (14, 1, 0, 0, 0, .null, [])) (y_s := (10, [some (.long _), none, some (.long _), none, some (.long _), none], [.int (lg_cmp _ _)], _)) rfl (u_ rfl) ?_
    refine wl4 (pc := 10) (len_s := 3) (Y := 5) rfl (Int32.toInt_toInt64 _) (by decide) (fun c2 => ?_) (fun c2 => ?_)
    · replace t := t.1 c2
      refine w_t (pc := 17) (e_s := (0, 1, 0, 0, 0, .int 0, [])) (y_s := (18, [some (.long _), none, some (.long _), none, some (.long _), none], [.int _], _)) rfl (u_ rfl) ?_
      refine wrI (pc := 18) (len_s := 1) rfl hk ?_
      show wF _ 228 (9, [some (.int _)], [.int _], _) _
      refine wrI (pc := 9) (len_s := 1) rfl hk ?_
      show wF _ 229 (4, [some (.ref _), some (.int _), some (.int _)], [.int _], _) _
      refine w_t (pc := 4) (e_s := (15, 3, 20, 0, 0, .null, [])) (y_s := (20, [some (.ref _), some (.int _), some (.int _)], [], _)) rfl (u_ rfl) ?_
      refine w_t (pc := 20) (e_s := (0, 1, 0, 0, 0, .int (-1), [])) (y_s := (21, [some (.ref _), some (.int _), some (.int _)], [.int _], _)) rfl (u_ rfl) ?_
      exact wrI (pc := 21) (len_s := 1) rfl hk t
    · replace t := t.2 c2
      refine w_t (pc := 13) (e_s := (0, 1, 0, 0, 0, .int 1, [])) (y_s := (14, [some (.long _), none, some (.long _), none, some (.long _), none], [.int _], _)) rfl (u_ rfl) ?_
      refine w_t (pc := 14) (e_s := (17, 3, 18, 0, 0, .null, [])) (y_s := (18, [some (.long _), none, some (.long _), none, some (.long _), none], [.int _], _)) rfl (u_ rfl) ?_
      refine wrI (pc := 18) (len_s := 1) rfl hk ?_
      show wF _ 228 (9, [some (.int _)], [.int _], _) _
      refine wrI (pc := 9) (len_s := 1) rfl hk ?_
      show wF _ 229 (4, [some (.ref _), some (.int _), some (.int _)], [.int _], _) _
      refine w_t (pc := 4) (e_s := (15, 3, 20, 0, 0, .null, [])) (y_s := (7, [some (.ref _), some (.int _), some (.int _)], [], _)) rfl (u_ rfl) ?_
      refine w_t (pc := 7) (e_s := (1, 1, 2, 0, 0, .null, [])) (y_s := (8, [some (.ref _), some (.int _), some (.int _)], [.int _], _)) rfl (u_ rfl) ?_
      refine w_t (pc := 8) (e_s := (0, 1, 0, 0, 0, .int (-1), [])) (y_s := (9, [some (.ref _), some (.int _), some (.int _)], [.int _, .int _], _)) rfl (u_ rfl) ?_
      refine wi0 (pc := 9) (len_s := 3) (Y := -1) rfl rfl (by decide) (fun c3 => ?_) (fun c3 => ?_)
      · replace t := t.1 c3
        refine w_t (pc := 22) (e_s := (3, 1, 0, 0, 0, .null, [])) (y_s := (23, [some (.ref _), some (.int _), some (.int _)], [.ref _], _)) rfl (u_ rfl) ?_
        refine w20r (pc := 23) (len_s := 3) (q_s := 124) rfl (krq hk rfl) ?_
        refine w_t (pc := 26) (e_s := (1, 1, 1, 0, 0, .null, [])) (y_s := (27, [some (.ref _), some (.int _), some (.int _)], [.int _, .ref _], _)) rfl (u_ rfl) ?_
        refine w_t (pc := 27) (e_s := (1, 1, 2, 0, 0, .null, [])) (y_s := (28, [some (.ref _), some (.int _), some (.int _)], [.int _, .int _, .ref _], _)) rfl (u_ rfl) ?_
        refine w25 (pc := 28) (len_s := 1) rfl (hk.1 124 0 6 rfl rfl) (fun c4 => ?_)
        replace t := t c4
        refine w_t (pc := 29) (e_s := (3, 1, 0, 0, 0, .null, [])) (y_s := (30, [some (.ref _), some (.int _), some (.int _)], [.ref _], _)) rfl (u_ rfl) ?_
        refine w20r (pc := 30) (len_s := 3) (q_s := 125) rfl (krq hk rfl) ?_
        refine w_t (pc := 33) (e_s := (1, 1, 1, 0, 0, .null, [])) (y_s := (34, [some (.ref _), some (.int _), some (.int _)], [.int _, .ref _], _)) rfl (u_ rfl) ?_
        refine w_t (pc := 34) (e_s := (0, 1, 0, 0, 0, .int 0, [])) (y_s := (35, [some (.ref _), some (.int _), some (.int _)], [.int _, .int _, .ref _], _)) rfl (u_ rfl) ?_
        refine w25 (pc := 35) (len_s := 1) rfl (hk.1 125 0 6 rfl rfl) (fun c5 => ?_)
        refine w_t (pc := 36) (e_s := (0, 1, 0, 0, 0, .int 1, [])) (y_s := (37, [some (.ref _), some (.int _), some (.int _)], [.int _], _)) rfl (u_ rfl) ?_
        exact wrI (pc := 37) (len_s := 1) rfl hk t
      · replace t := t.2 c3
        refine w_t (pc := 12) (e_s := (3, 1, 0, 0, 0, .null, [])) (y_s := (13, [some (.ref _), some (.int _), some (.int _)], [.ref _], _)) rfl (u_ rfl) ?_
        refine w_t (pc := 13) (e_s := (1, 1, 2, 0, 0, .null, [])) (y_s := (14, [some (.ref _), some (.int _), some (.int _)], [.int _, .ref _], _)) rfl (u_ rfl) ?_
        refine wcI (pc := 14) (len_s := 3) rfl rfl (l := [some (.ref _), some (.int _)]) rfl ?_
        refine w_t (pc := 0) (e_s := (1, 1, 1, 0, 0, .null, [])) (y_s := (1, [some (.ref _), some (.int _)], [.int _], _)) rfl (u_ rfl) ?_
        refine w_t (pc := 1) (e_s := (10, 1, 0, 0, 0, .null, [])) (y_s := (2, [some (.ref _), some (.int _)], [.long (Int32.toInt64 _)], _)) rfl (u_ rfl) ?_
        refine w_t (pc := 2) (e_s := (0, 1, 0, 0, 0, .long 0, [])) (y_s := (3, [some (.ref _), some (.int _)], [.long _, .long _], _)) rfl (u_ rfl) ?_
        refine w_t (pc := 3) (e_s := (3, 1, 0, 0, 0, .null, [])) (y_s := (4, [some (.ref _), some (.int _)], [.ref _, .long _, .long _], _)) rfl (u_ rfl) ?_
        refine w20 (pc := 4) (len_s := 3) rfl ?_
        refine w_t (pc := 7) (e_s := (0, 1, 0, 0, 0, .int 1, [])) (y_s := (8, [some (.ref _), some (.int _)], [.int _, .int _, .long _, .long _], _)) rfl (u_ rfl) ?_
        refine w_t (pc := 8) (e_s := (7, 1, 0, 1, 0, .null, [])) (y_s := (9, [some (.ref _), some (.int _)], [.int (_ - _), .long _, .long _], _)) rfl (u_ rfl) ?_
        refine w_t (pc := 9) (e_s := (10, 1, 0, 0, 0, .null, [])) (y_s := (10, [some (.ref _), some (.int _)], [.long (Int32.toInt64 _), .long _, .long _], _)) rfl (u_ rfl) ?_
        refine wcI (pc := 10) (len_s := 3) rfl rfl (l := [some (.long _), none, some (.long _), none, some (.long _), none]) rfl ?_
        refine w_t (pc := 0) (e_s := (2, 1, 0, 0, 0, .null, [])) (y_s := (1, [some (.long _), none, some (.long _), none, some (.long _), none], [.long _], _)) rfl (u_ rfl) ?_
        refine w_t (pc := 1) (e_s := (2, 1, 2, 0, 0, .null, [])) (y_s := (2, [some (.long _), none, some (.long _), none, some (.long _), none], [.long _, .long _], _)) rfl (u_ rfl) ?_
        refine w_t (pc := 2) (e_s := (14, 1, 0, 0, 0, .null, [])) (y_s := (3, [some (.long _), none, some (.long _), none, some (.long _), none], [.int (lg_cmp _ _)], _)) rfl (u_ rfl) ?_
        refine wl2 (pc := 3) (len_s := 3) (Y := 0) rfl (Int32.toInt_toInt64 _) (by decide) (fun c6 => ?_) (fun c6 => ?_)
        · replace t := t.1 c6
          refine w_t (pc := 17) (e_s := (0, 1, 0, 0, 0, .int 0, [])) (y_s := (18, [some (.long _), none, some (.long _), none, some (.long _), none], [.int _], _)) rfl (u_ rfl) ?_
          refine wrI (pc := 18) (len_s := 1) rfl hk ?_
          show wF _ 217 (13, [some (.ref _), some (.int _)], [.int _], _) _
          refine wrI (pc := 13) (len_s := 1) rfl hk ?_
          show wF _ 229 (17, [some (.ref _), some (.int _), some (.int _)], [.int _], _) _
          refine w_t (pc := 17) (e_s := (15, 3, 22, 1, 0, .null, [])) (y_s := (20, [some (.ref _), some (.int _), some (.int _)], [], _)) rfl (u_ rfl) ?_
          refine w_t (pc := 20) (e_s := (0, 1, 0, 0, 0, .int (-1), [])) (y_s := (21, [some (.ref _), some (.int _), some (.int _)], [.int _], _)) rfl (u_ rfl) ?_
          exact wrI (pc := 21) (len_s := 1) rfl hk t
        · replace t := t.2 c6
          refine w_t (pc := 6) (e_s := (2, 1, 0, 0, 0, .null, [])) (y_s := (7, [some (.long _), none, some (.long _), none, some (.long _), none], [.long _], _)) rfl (u_ rfl) ?_
          refine w_t (pc := 7) (e_s := (2, 2, 4, 0, 0, .null, [])) (y_s := (9, [some (.long _), none, some (.long _), none, some (.long _), none], [.long _, .long _], _)) rfl (u_ rfl) ?_
          refine w_t (pc := 9) (e_s := (14, 1, 0, 0, 0, .null, [])) (y_s := (10, [some (.long _), none, some (.long _), none, some (.long _), none], [.int (lg_cmp _ _)], _)) rfl (u_ rfl) ?_
          refine wl4 (pc := 10) (len_s := 3) rfl (Int32.toInt_toInt64 _) (Int32.toInt_toInt64 _) (fun c7 => ?_) (fun c7 => ?_)
          · replace t := t.1 c7
            refine w_t (pc := 17) (e_s := (0, 1, 0, 0, 0, .int 0, [])) (y_s := (18, [some (.long _), none, some (.long _), none, some (.long _), none], [.int _], _)) rfl (u_ rfl) ?_
            refine wrI (pc := 18) (len_s := 1) rfl hk ?_
            show wF _ 217 (13, [some (.ref _), some (.int _)], [.int _], _) _
            refine wrI (pc := 13) (len_s := 1) rfl hk ?_
            show wF _ 229 (17, [some (.ref _), some (.int _), some (.int _)], [.int _], _) _
            refine w_t (pc := 17) (e_s := (15, 3, 22, 1, 0, .null, [])) (y_s := (20, [some (.ref _), some (.int _), some (.int _)], [], _)) rfl (u_ rfl) ?_
            refine w_t (pc := 20) (e_s := (0, 1, 0, 0, 0, .int (-1), [])) (y_s := (21, [some (.ref _), some (.int _), some (.int _)], [.int _], _)) rfl (u_ rfl) ?_
            exact wrI (pc := 21) (len_s := 1) rfl hk t
          · replace t := t.2 c7
            refine w_t (pc := 13) (e_s := (0, 1, 0, 0, 0, .int 1, [])) (y_s := (14, [some (.long _), none, some (.long _), none, some (.long _), none], [.int _], _)) rfl (u_ rfl) ?_
            refine w_t (pc := 14) (e_s := (17, 3, 18, 0, 0, .null, [])) (y_s := (18, [some (.long _), none, some (.long _), none, some (.long _), none], [.int _], _)) rfl (u_ rfl) ?_
            refine wrI (pc := 18) (len_s := 1) rfl hk ?_
            show wF _ 217 (13, [some (.ref _), some (.int _)], [.int _], _) _
            refine wrI (pc := 13) (len_s := 1) rfl hk ?_
            show wF _ 229 (17, [some (.ref _), some (.int _), some (.int _)], [.int _], _) _
            refine w_t (pc := 17) (e_s := (15, 3, 22, 1, 0, .null, [])) (y_s := (22, [some (.ref _), some (.int _), some (.int _)], [], _)) rfl (u_ rfl) ?_
            refine w_t (pc := 22) (e_s := (3, 1, 0, 0, 0, .null, [])) (y_s := (23, [some (.ref _), some (.int _), some (.int _)], [.ref _], _)) rfl (u_ rfl) ?_
            refine w20r (pc := 23) (len_s := 3) (q_s := 124) rfl (krq hk rfl) ?_
            refine w_t (pc := 26) (e_s := (1, 1, 1, 0, 0, .null, [])) (y_s := (27, [some (.ref _), some (.int _), some (.int _)], [.int _, .ref _], _)) rfl (u_ rfl) ?_
            refine w_t (pc := 27) (e_s := (1, 1, 2, 0, 0, .null, [])) (y_s := (28, [some (.ref _), some (.int _), some (.int _)], [.int _, .int _, .ref _], _)) rfl (u_ rfl) ?_
            refine w25 (pc := 28) (len_s := 1) rfl (hk.1 124 0 6 rfl rfl) (fun c8 => ?_)
            replace t := t c8
            refine w_t (pc := 29) (e_s := (3, 1, 0, 0, 0, .null, [])) (y_s := (30, [some (.ref _), some (.int _), some (.int _)], [.ref _], _)) rfl (u_ rfl) ?_
            refine w20r (pc := 30) (len_s := 3) (q_s := 125) rfl (krq hk rfl) ?_
            refine w_t (pc := 33) (e_s := (1, 1, 1, 0, 0, .null, [])) (y_s := (34, [some (.ref _), some (.int _), some (.int _)], [.int _, .ref _], _)) rfl (u_ rfl) ?_
            refine w_t (pc := 34) (e_s := (0, 1, 0, 0, 0, .int 0, [])) (y_s := (35, [some (.ref _), some (.int _), some (.int _)], [.int _, .int _, .ref _], _)) rfl (u_ rfl) ?_
            refine w25 (pc := 35) (len_s := 1) rfl (hk.1 125 0 6 rfl rfl) (fun c9 => ?_)
            refine w_t (pc := 36) (e_s := (0, 1, 0, 0, 0, .int 1, [])) (y_s := (37, [some (.ref _), some (.int _), some (.int _)], [.int _], _)) rfl (u_ rfl) ?_
            exact wrI (pc := 37) (len_s := 1) rfl hk t
/-- ColdShod.element(II)J, from 0 on -/
theorem sg_131_0 {F : Nat} {x1 : Int32} {x2 : Int32} {h : zH} {K : Int64 → zH → Prop} (hk : hKn h) (t : (x1.toInt < 0 → K (-9223372036854775808) h) ∧ (¬ x1.toInt < 0 → ((x1.toInt < 6 → (zix x1 < 6 → ((h.2.1 (76 + 2 * (zix x1)) 0).toInt = 0 → K (-9223372036854775808) h) ∧ (¬ (h.2.1 (76 + 2 * (zix x1)) 0).toInt = 0 → (((h.2.1 (76 + 2 * (zix x1)) 0).toInt = 2 → ((x2.toInt < 0 → K (-9223372036854775808) h) ∧ (¬ x2.toInt < 0 → ((x2.toInt < (h.2.1 (76 + 2 * (zix x1)) 3).toInt → (zix x2 < 60 → K (h.2.2.1 (76 + 2 * (zix x1) + 1) (zix x2)) h)) ∧ (¬ x2.toInt < (h.2.1 (76 + 2 * (zix x1)) 3).toInt → K (-9223372036854775808) h))))) ∧ (¬ (h.2.1 (76 + 2 * (zix x1)) 0).toInt = 2 → K (-9223372036854775808) h))))) ∧ (¬ x1.toInt < 6 → K (-9223372036854775808) h)))) : wF (F + 1) 131 (0, [some (.ref 6), some (.int x1), some (.int x2)], [], h) (gJ K) := by
  refine w_0 (pc := 0) (e_s := (3, 1, 0, 0, 0, .null, [])) (y_s := (1, [some (.ref _), some (.int _), some (.int _)], [.ref _], _)) rfl (u_ rfl) ?_
  refine w_t (pc := 1) (e_s := (1, 1, 1, 0, 0, .null, [])) (y_s := (2, [some (.ref _), some (.int _), some (.int _)], [.int _, .ref _], _)) rfl (u_ rfl) ?_
  refine w_t (pc := 2) (e_s := (1, 1, 2, 0, 0, .null, [])) (y_s := (3, [some (.ref _), some (.int _), some (.int _)], [.int _, .int _, .ref _], _)) rfl (u_ rfl) ?_
  refine wcI (pc := 3) (len_s := 3) rfl rfl (l := [some (.ref _), some (.int _), some (.int _)]) rfl ?_
  refine w_t (pc := 0) (e_s := (1, 1, 1, 0, 0, .null, [])) (y_s := (1, [some (.ref _), some (.int _), some (.int _)], [.int _], _)) rfl (u_ rfl) ?_
  refine wcI (pc := 1) (len_s := 3) rfl rfl (l := [some (.int _)]) rfl ?_
  refine w_t (pc := 0) (e_s := (1, 1, 0, 0, 0, .null, [])) (y_s := (1, [some (.int _)], [.int _], _)) rfl (u_ rfl) ?_
  refine wq2 (pc := 1) (len_s := 3) rfl rfl (fun c1 => ?_) (fun c1 => ?_)
  · replace t := t.1 c1
    refine w_t (pc := 14) (e_s := (0, 1, 0, 0, 0, .int 0, [])) (y_s := (15, [some (.int _)], [.int _], _)) rfl (u_ rfl) ?_
    refine wrI (pc := 15) (len_s := 1) rfl hk ?_
    show wF _ 142 (4, [some (.ref _), some (.int _), some (.int _)], [.int _], _) _
    refine w_t (pc := 4) (e_s := (15, 3, 9, 1, 0, .null, [])) (y_s := (7, [some (.ref _), some (.int _), some (.int _)], [], _)) rfl (u_ rfl) ?_
    refine w_t (pc := 7) (e_s := (0, 1, 0, 0, 0, .int (-1), [])) (y_s := (8, [some (.ref _), some (.int _), some (.int _)], [.int _], _)) rfl (u_ rfl) ?_
    refine wrI (pc := 8) (len_s := 1) rfl hk ?_
    show wF _ 131 (6, [some (.ref _), some (.int _), some (.int _)], [.int _], _) _
    refine w_t (pc := 6) (e_s := (15, 3, 15, 0, 0, .null, [])) (y_s := (9, [some (.ref _), some (.int _), some (.int _)], [], _)) rfl (u_ rfl) ?_
    refine w_t (pc := 9) (e_s := (0, 3, 0, 0, 0, .long (-9223372036854775808), [(0, 1020)])) (y_s := (12, [some (.ref _), some (.int _), some (.int _)], [.long _], _)) rfl (u_ rfl) ?_
    refine w_t (pc := 12) (e_s := (17, 3, 26, 0, 0, .null, [])) (y_s := (26, [some (.ref _), some (.int _), some (.int _)], [.long _], _)) rfl (u_ rfl) ?_
    exact wrJ (pc := 26) (len_s := 1) rfl hk t
  · replace t := t.2 c1
    refine w_t (pc := 4) (e_s := (1, 1, 0, 0, 0, .null, [])) (y_s := (5, [some (.int _)], [.int _], _)) rfl (u_ rfl) ?_
    refine w_t (pc := 5) (e_s := (0, 2, 0, 0, 0, .int 6, [])) (y_s := (7, [some (.int _)], [.int _, .int _], _)) rfl (u_ rfl) ?_
    refine wi3 (pc := 7) (len_s := 3) (Y := 6) rfl rfl (by decide) (fun c2 => ?_) (fun c2 => ?_)
    · replace t := t.1 c2
      refine w_t (pc := 10) (e_s := (0, 1, 0, 0, 0, .int 1, [])) (y_s := (11, [some (.int _)], [.int _], _)) rfl (u_ rfl) ?_
      refine w_t (pc := 11) (e_s := (17, 3, 15, 0, 0, .null, [])) (y_s := (15, [some (.int _)], [.int _], _)) rfl (u_ rfl) ?_
      refine wrI (pc := 15) (len_s := 1) rfl hk ?_
      show wF _ 142 (4, [some (.ref _), some (.int _), some (.int _)], [.int _], _) _
      refine w_t (pc := 4) (e_s := (15, 3, 9, 1, 0, .null, [])) (y_s := (9, [some (.ref _), some (.int _), some (.int _)], [], _)) rfl (u_ rfl) ?_
      refine w_t (pc := 9) (e_s := (3, 1, 0, 0, 0, .null, [])) (y_s := (10, [some (.ref _), some (.int _), some (.int _)], [.ref _], _)) rfl (u_ rfl) ?_
      refine w20r (pc := 10) (len_s := 3) (q_s := 71) rfl (krq hk rfl) ?_
      refine w_t (pc := 13) (e_s := (1, 1, 1, 0, 0, .null, [])) (y_s := (14, [some (.ref _), some (.int _), some (.int _)], [.int _, .ref _], _)) rfl (u_ rfl) ?_
      refine w24 (g_s := fun j_ => 76 + 2 * j_) (pc := 14) (len_s := 1) hk rfl (hk.1 71 4 6 rfl rfl) kg71 (fun c3 => ?_)
      replace t := t c3
      refine w20 (pc := 15) (len_s := 3) rfl ?_
      refine wq1 (pc := 18) (len_s := 3) rfl rfl (fun c4 => ?_) (fun c4 => ?_)
      · replace t := t.1 c4
        refine w_t (pc := 21) (e_s := (0, 2, 0, 0, 0, .int (-11), [])) (y_s := (23, [some (.ref _), some (.int _), some (.int _)], [.int _], _)) rfl (u_ rfl) ?_
        refine wrI (pc := 23) (len_s := 1) rfl hk ?_
        show wF _ 131 (6, [some (.ref _), some (.int _), some (.int _)], [.int _], _) _
        refine w_t (pc := 6) (e_s := (15, 3, 15, 0, 0, .null, [])) (y_s := (9, [some (.ref _), some (.int _), some (.int _)], [], _)) rfl (u_ rfl) ?_
        refine w_t (pc := 9) (e_s := (0, 3, 0, 0, 0, .long (-9223372036854775808), [(0, 1020)])) (y_s := (12, [some (.ref _), some (.int _), some (.int _)], [.long _], _)) rfl (u_ rfl) ?_
        refine w_t (pc := 12) (e_s := (17, 3, 26, 0, 0, .null, [])) (y_s := (26, [some (.ref _), some (.int _), some (.int _)], [.long _], _)) rfl (u_ rfl) ?_
        exact wrJ (pc := 26) (len_s := 1) rfl hk t
      · replace t := t.2 c4
        refine w_t (pc := 24) (e_s := (3, 1, 0, 0, 0, .null, [])) (y_s := (25, [some (.ref _), some (.int _), some (.int _)], [.ref _], _)) rfl (u_ rfl) ?_
        refine w20r (pc := 25) (len_s := 3) (q_s := 71) rfl (krq hk rfl) ?_
        refine w_t (pc := 28) (e_s := (1, 1, 1, 0, 0, .null, [])) (y_s := (29, [some (.ref _), some (.int _), some (.int _)], [.int _, .ref _], _)) rfl (u_ rfl) ?_
        refine w24 (g_s := fun j_ => 76 + 2 * j_) (pc := 29) (len_s := 1) hk rfl (hk.1 71 4 6 rfl rfl) kg71 (fun c5 => ?_)
        refine w20 (pc := 30) (len_s := 3) rfl ?_
        refine w_t (pc := 33) (e_s := (0, 1, 0, 0, 0, .int 2, [])) (y_s := (34, [some (.ref _), some (.int _), some (.int _)], [.int _, .int _], _)) rfl (u_ rfl) ?_
        refine wi0 (pc := 34) (len_s := 3) (Y := 2) rfl rfl (by decide) (fun c6 => ?_) (fun c6 => ?_)
        · replace t := t.1 c6
          refine w_t (pc := 40) (e_s := (1, 1, 2, 0, 0, .null, [])) (y_s := (41, [some (.ref _), some (.int _), some (.int _)], [.int _], _)) rfl (u_ rfl) ?_
          refine wq2 (pc := 41) (len_s := 3) rfl rfl (fun c7 => ?_) (fun c7 => ?_)
          · replace t := t.1 c7
            refine w_t (pc := 57) (e_s := (0, 2, 0, 0, 0, .int (-13), [])) (y_s := (59, [some (.ref _), some (.int _), some (.int _)], [.int _], _)) rfl (u_ rfl) ?_
            refine w_t (pc := 59) (e_s := (17, 3, 63, 0, 0, .null, [])) (y_s := (63, [some (.ref _), some (.int _), some (.int _)], [.int _], _)) rfl (u_ rfl) ?_
            refine wrI (pc := 63) (len_s := 1) rfl hk ?_
            show wF _ 131 (6, [some (.ref _), some (.int _), some (.int _)], [.int _], _) _
            refine w_t (pc := 6) (e_s := (15, 3, 15, 0, 0, .null, [])) (y_s := (9, [some (.ref _), some (.int _), some (.int _)], [], _)) rfl (u_ rfl) ?_
            refine w_t (pc := 9) (e_s := (0, 3, 0, 0, 0, .long (-9223372036854775808), [(0, 1020)])) (y_s := (12, [some (.ref _), some (.int _), some (.int _)], [.long _], _)) rfl (u_ rfl) ?_
            refine w_t (pc := 12) (e_s := (17, 3, 26, 0, 0, .null, [])) (y_s := (26, [some (.ref _), some (.int _), some (.int _)], [.long _], _)) rfl (u_ rfl) ?_
            exact wrJ (pc := 26) (len_s := 1) rfl hk t
          · replace t := t.2 c7
            refine w_t (pc := 44) (e_s := (1, 1, 2, 0, 0, .null, [])) (y_s := (45, [some (.ref _), some (.int _), some (.int _)], [.int _], _)) rfl (u_ rfl) ?_
            refine w_t (pc := 45) (e_s := (3, 1, 0, 0, 0, .null, [])) (y_s := (46, [some (.ref _), some (.int _), some (.int _)], [.ref _, .int _], _)) rfl (u_ rfl) ?_
            refine w20r (pc := 46) (len_s := 3) (q_s := 71) rfl (krq hk rfl) ?_
            refine w_t (pc := 49) (e_s := (1, 1, 1, 0, 0, .null, [])) (y_s := (50, [some (.ref _), some (.int _), some (.int _)], [.int _, .ref _, .int _], _)) rfl (u_ rfl) ?_
            refine w24 (g_s := fun j_ => 76 + 2 * j_) (pc := 50) (len_s := 1) hk rfl (hk.1 71 4 6 rfl rfl) kg71 (fun c8 => ?_)
            refine w20 (pc := 51) (len_s := 3) rfl ?_
            refine wi2 (pc := 54) (len_s := 3) rfl rfl rfl (fun c9 => ?_) (fun c9 => ?_)
            · replace t := t.1 c9
              refine w_t (pc := 62) (e_s := (0, 1, 0, 0, 0, .int 0, [])) (y_s := (63, [some (.ref _), some (.int _), some (.int _)], [.int _], _)) rfl (u_ rfl) ?_
              refine wrI (pc := 63) (len_s := 1) rfl hk ?_
              show wF _ 131 (6, [some (.ref _), some (.int _), some (.int _)], [.int _], _) _
              refine w_t (pc := 6) (e_s := (15, 3, 15, 0, 0, .null, [])) (y_s := (15, [some (.ref _), some (.int _), some (.int _)], [], _)) rfl (u_ rfl) ?_
              refine w_t (pc := 15) (e_s := (3, 1, 0, 0, 0, .null, [])) (y_s := (16, [some (.ref _), some (.int _), some (.int _)], [.ref _], _)) rfl (u_ rfl) ?_
              refine w20r (pc := 16) (len_s := 3) (q_s := 71) rfl (krq hk rfl) ?_
              refine w_t (pc := 19) (e_s := (1, 1, 1, 0, 0, .null, [])) (y_s := (20, [some (.ref _), some (.int _), some (.int _)], [.int _, .ref _], _)) rfl (u_ rfl) ?_
              refine w24 (g_s := fun j_ => 76 + 2 * j_) (pc := 20) (len_s := 1) hk rfl (hk.1 71 4 6 rfl rfl) kg71 (fun c10 => ?_)
              refine w20r (pc := 21) (len_s := 3) (q_s := 76 + 2 * (zix x1) + 1) rfl (kshc hk c10) ?_
              refine w_t (pc := 24) (e_s := (1, 1, 2, 0, 0, .null, [])) (y_s := (25, [some (.ref _), some (.int _), some (.int _)], [.int _, .ref _], _)) rfl (u_ rfl) ?_
              refine w23 (pc := 25) (len_s := 1) rfl (kshz hk c10) (fun c11 => ?_)
              replace t := t c11
              exact wrJ (pc := 26) (len_s := 1) rfl hk t
            · replace t := t.2 c9
              refine w_t (pc := 57) (e_s := (0, 2, 0, 0, 0, .int (-13), [])) (y_s := (59, [some (.ref _), some (.int _), some (.int _)], [.int _], _)) rfl (u_ rfl) ?_
              refine w_t (pc := 59) (e_s := (17, 3, 63, 0, 0, .null, [])) (y_s := (63, [some (.ref _), some (.int _), some (.int _)], [.int _], _)) rfl (u_ rfl) ?_
              refine wrI (pc := 63) (len_s := 1) rfl hk ?_
              show wF _ 131 (6, [some (.ref _), some (.int _), some (.int _)], [.int _], _) _
              refine w_t (pc := 6) (e_s := (15, 3, 15, 0, 0, .null, [])) (y_s := (9, [some (.ref _), some (.int _), some (.int _)], [], _)) rfl (u_ rfl) ?_
              refine w_t (pc := 9) (e_s := (0, 3, 0, 0, 0, .long (-9223372036854775808), [(0, 1020)])) (y_s := (12, [some (.ref _), some (.int _), some (.int _)], [.long _], _)) rfl (u_ rfl) ?_
              refine w_t (pc := 12) (e_s := (17, 3, 26, 0, 0, .null, [])) (y_s := (26, [some (.ref _), some (.int _), some (.int _)], [.long _], _)) rfl (u_ rfl) ?_
              exact wrJ (pc := 26) (len_s := 1) rfl hk t
        · replace t := t.2 c6
          refine w_t (pc := 37) (e_s := (0, 2, 0, 0, 0, .int (-12), [])) (y_s := (39, [some (.ref _), some (.int _), some (.int _)], [.int _], _)) rfl (u_ rfl) ?_
          refine wrI (pc := 39) (len_s := 1) rfl hk ?_
          show wF _ 131 (6, [some (.ref _), some (.int _), some (.int _)], [.int _], _) _
          refine w_t (pc := 6) (e_s := (15, 3, 15, 0, 0, .null, [])) (y_s := (9, [some (.ref _), some (.int _), some (.int _)], [], _)) rfl (u_ rfl) ?_
          refine w_t (pc := 9) (e_s := (0, 3, 0, 0, 0, .long (-9223372036854775808), [(0, 1020)])) (y_s := (12, [some (.ref _), some (.int _), some (.int _)], [.long _], _)) rfl (u_ rfl) ?_
          refine w_t (pc := 12) (e_s := (17, 3, 26, 0, 0, .null, [])) (y_s := (26, [some (.ref _), some (.int _), some (.int _)], [.long _], _)) rfl (u_ rfl) ?_
          exact wrJ (pc := 26) (len_s := 1) rfl hk t
    · replace t := t.2 c2
      refine w_t (pc := 14) (e_s := (0, 1, 0, 0, 0, .int 0, [])) (y_s := (15, [some (.int _)], [.int _], _)) rfl (u_ rfl) ?_
      refine wrI (pc := 15) (len_s := 1) rfl hk ?_
      show wF _ 142 (4, [some (.ref _), some (.int _), some (.int _)], [.int _], _) _
      refine w_t (pc := 4) (e_s := (15, 3, 9, 1, 0, .null, [])) (y_s := (7, [some (.ref _), some (.int _), some (.int _)], [], _)) rfl (u_ rfl) ?_
      refine w_t (pc := 7) (e_s := (0, 1, 0, 0, 0, .int (-1), [])) (y_s := (8, [some (.ref _), some (.int _), some (.int _)], [.int _], _)) rfl (u_ rfl) ?_
      refine wrI (pc := 8) (len_s := 1) rfl hk ?_
      show wF _ 131 (6, [some (.ref _), some (.int _), some (.int _)], [.int _], _) _
      refine w_t (pc := 6) (e_s := (15, 3, 15, 0, 0, .null, [])) (y_s := (9, [some (.ref _), some (.int _), some (.int _)], [], _)) rfl (u_ rfl) ?_
      refine w_t (pc := 9) (e_s := (0, 3, 0, 0, 0, .long (-9223372036854775808), [(0, 1020)])) (y_s := (12, [some (.ref _), some (.int _), some (.int _)], [.long _], _)) rfl (u_ rfl) ?_
      refine w_t (pc := 12) (e_s := (17, 3, 26, 0, 0, .null, [])) (y_s := (26, [some (.ref _), some (.int _), some (.int _)], [.long _], _)) rfl (u_ rfl) ?_
      exact wrJ (pc := 26) (len_s := 1) rfl hk t
/-- ColdShodModel.element(II)J, from 0 on -/
theorem sg_234_0 {F : Nat} {x1 : Int32} {x2 : Int32} {h : zH} {K : Int64 → zH → Prop} (hk : hKn h) (t : (x1.toInt < 0 → K (-9223372036854775808) h) ∧ (¬ x1.toInt < 0 → ((5 < x1.toInt → K (-9223372036854775808) h) ∧ (¬ 5 < x1.toInt → (zix x1 < 6 → ((h.2.1 124 (zix x1)).toInt < 0 → K (-9223372036854775808) h) ∧ (¬ (h.2.1 124 (zix x1)).toInt < 0 → (((h.2.1 124 (zix x1)).toInt < 50 → K (-9223372036854775808) h) ∧ (¬ (h.2.1 124 (zix x1)).toInt < 50 → ((x2.toInt < 0 → K (-9223372036854775808) h) ∧ (¬ x2.toInt < 0 → ((x2.toInt < (h.2.1 125 (zix x1)).toInt → (zix ((60 * x1) + x2) < 360 → K (h.2.2.1 126 (zix ((60 * x1) + x2))) h)) ∧ (¬ x2.toInt < (h.2.1 125 (zix x1)).toInt → K (-9223372036854775808) h)))))))))))) : wF (F + 1) 234 (0, [some (.ref 102), some (.int x1), some (.int x2)], [], h) (gJ K) := by
  refine w_0 (pc := 0) (e_s := (3, 1, 0, 0, 0, .null, [])) (y_s := (1, [some (.ref _), some (.int _), some (.int _)], [.ref _], _)) rfl (u_ rfl) ?_
  refine w_t (pc := 1) (e_s := (1, 1, 1, 0, 0, .null, [])) (y_s := (2, [some (.ref _), some (.int _), some (.int _)], [.int _, .ref _], _)) rfl (u_ rfl) ?_
  refine w_t (pc := 2) (e_s := (1, 1, 2, 0, 0, .null, [])) (y_s := (3, [some (.ref _), some (.int _), some (.int _)], [.int _, .int _, .ref _], _)) rfl (u_ rfl) ?_
  refine wcI (pc := 3) (len_s := 3) rfl rfl (l := [some (.ref _), some (.int _), some (.int _)]) rfl ?_
  refine w_t (pc := 0) (e_s := (1, 1, 1, 0, 0, .null, [])) (y_s := (1, [some (.ref _), some (.int _), some (.int _)], [.int _], _)) rfl (u_ rfl) ?_
  refine wcI (pc := 1) (len_s := 3) rfl rfl (l := [some (.int _)]) rfl ?_
  refine w_t (pc := 0) (e_s := (1, 1, 0, 0, 0, .null, [])) (y_s := (1, [some (.int _)], [.int _], _)) rfl (u_ rfl) ?_
  refine w_t (pc := 1) (e_s := (10, 1, 0, 0, 0, .null, [])) (y_s := (2, [some (.int _)], [.long (Int32.toInt64 _)], _)) rfl (u_ rfl) ?_
  refine w_t (pc := 2) (e_s := (0, 1, 0, 0, 0, .long 0, [])) (y_s := (3, [some (.int _)], [.long _, .long _], _)) rfl (u_ rfl) ?_
  refine w_t (pc := 3) (e_s := (0, 3, 0, 0, 0, .long 5, [(0, 1063)])) (y_s := (6, [some (.int _)], [.long _, .long _, .long _], _)) rfl (u_ rfl) ?_
  refine wcI (pc := 6) (len_s := 3) rfl rfl (l := [some (.long _), none, some (.long _), none, some (.long _), none]) rfl ?_
  refine w_t (pc := 0) (e_s := (2, 1, 0, 0, 0, .null, [])) (y_s := (1, [some (.long _), none, some (.long _), none, some (.long _), none], [.long _], _)) rfl (u_ rfl) ?_
  refine w_t (pc := 1) (e_s := (2, 1, 2, 0, 0, .null, [])) (y_s := (2, [some (.long _), none, some (.long _), none, some (.long _), none], [.long _, .long _], _)) rfl (u_ rfl) ?_
  refine w_t (pc := 2) (e_s := (14, 1, 0, 0, 0, .null, [])) (y_s := (3, [some (.long _), none, some (.long _), none, some (.long _), none], [.int (lg_cmp _ _)], _)) rfl (u_ rfl) ?_
  refine wl2 (pc := 3) (len_s := 3) (Y := 0) rfl (Int32.toInt_toInt64 _) (by decide) (fun c1 => ?_) (fun c1 => ?_)
  · replace t := t.1 c1
    refine w_t (pc := 17) (e_s := (0, 1, 0, 0, 0, .int 0, [])) (y_s := (18, [some (.long _), none, some (.long _), none, some (.long _), none], [.int _], _)) rfl (u_ rfl) ?_
    refine wrI (pc := 18) (len_s := 1) rfl hk ?_
    show wF _ 228 (9, [some (.int _)], [.int _], _) _
    refine wrI (pc := 9) (len_s := 1) rfl hk ?_
    show wF _ 231 (4, [some (.ref _), some (.int _), some (.int _)], [.int _], _) _
    refine w_t (pc := 4) (e_s := (15, 3, 9, 1, 0, .null, [])) (y_s := (7, [some (.ref _), some (.int _), some (.int _)], [], _)) rfl (u_ rfl) ?_
    refine w_t (pc := 7) (e_s := (0, 1, 0, 0, 0, .int (-1), [])) (y_s := (8, [some (.ref _), some (.int _), some (.int _)], [.int _], _)) rfl (u_ rfl) ?_
    refine wrI (pc := 8) (len_s := 1) rfl hk ?_
    show wF _ 234 (6, [some (.ref _), some (.int _), some (.int _)], [.int _], _) _
    refine w_t (pc := 6) (e_s := (15, 3, 15, 0, 0, .null, [])) (y_s := (9, [some (.ref _), some (.int _), some (.int _)], [], _)) rfl (u_ rfl) ?_
    refine w_t (pc := 9) (e_s := (0, 3, 0, 0, 0, .long (-9223372036854775808), [(0, 1149)])) (y_s := (12, [some (.ref _), some (.int _), some (.int _)], [.long _], _)) rfl (u_ rfl) ?_
    refine w_t (pc := 12) (e_s := (17, 3, 26, 0, 0, .null, [])) (y_s := (26, [some (.ref _), some (.int _), some (.int _)], [.long _], _)) rfl (u_ rfl) ?_
    exact wrJ (pc := 26) (len_s := 1) rfl hk t
  · replace t := t.2 c1
    refine w_t (pc := 6) (e_s := (2, 1, 0, 0, 0, .null, [])) (y_s := (7, [some (.long _), none, some (.long _), none, some (.long _), none], [.long _], _)) rfl (u_ rfl) ?_
    refine w_t (pc := 7) (e_s := (2, 2, 4, 0, 0, .null, [])) (y_s := (9, [some (.long _), none, some (.long _), none, some (.long _), none], [.long _, .long _], _)) rfl (u_ rfl) ?_
    refine w_t (pc := 9) (e_s := (14, 1, 0, 0, 0, .null, [])) (y_s := (10, [some (.long _), none, some (.long _), none, some (.long _), none], [.int (lg_cmp _ _)], _)) rfl (u_ rfl) ?_
    refine wl4 (pc := 10) (len_s := 3) (Y := 5) rfl (Int32.toInt_toInt64 _) (by decide) (fun c2 => ?_) (fun c2 => ?_)
    · replace t := t.1 c2
      refine w_t (pc := 17) (e_s := (0, 1, 0, 0, 0, .int 0, [])) (y_s := (18, [some (.long _), none, some (.long _), none, some (.long _), none], [.int _], _)) rfl (u_ rfl) ?_
      refine wrI (pc := 18) (len_s := 1) rfl hk ?_
      show wF _ 228 (9, [some (.int _)], [.int _], _) _
      refine wrI (pc := 9) (len_s := 1) rfl hk ?_
      show wF _ 231 (4, [some (.ref _), some (.int _), some (.int _)], [.int _], _) _
      refine w_t (pc := 4) (e_s := (15, 3, 9, 1, 0, .null, [])) (y_s := (7, [some (.ref _), some (.int _), some (.int _)], [], _)) rfl (u_ rfl) ?_
      refine w_t (pc := 7) (e_s := (0, 1, 0, 0, 0, .int (-1), [])) (y_s := (8, [some (.ref _), some (.int _), some (.int _)], [.int _], _)) rfl (u_ rfl) ?_
      refine wrI (pc := 8) (len_s := 1) rfl hk ?_
      show wF _ 234 (6, [some (.ref _), some (.int _), some (.int _)], [.int _], _) _
      refine w_t (pc := 6) (e_s := (15, 3, 15, 0, 0, .null, [])) (y_s := (9, [some (.ref _), some (.int _), some (.int _)], [], _)) rfl (u_ rfl) ?_
      refine w_t (pc := 9) (e_s := (0, 3, 0, 0, 0, .long (-9223372036854775808), [(0, 1149)])) (y_s := (12, [some (.ref _), some (.int _), some (.int _)], [.long _], _)) rfl (u_ rfl) ?_
      refine w_t (pc := 12) (e_s := (17, 3, 26, 0, 0, .null, [])) (y_s := (26, [some (.ref _), some (.int _), some (.int _)], [.long _], _)) rfl (u_ rfl) ?_
      exact wrJ (pc := 26) (len_s := 1) rfl hk t
    · replace t := t.2 c2
      refine w_t (pc := 13) (e_s := (0, 1, 0, 0, 0, .int 1, [])) (y_s := (14, [some (.long _), none, some (.long _), none, some (.long _), none], [.int _], _)) rfl (u_ rfl) ?_
      refine w_t (pc := 14) (e_s := (17, 3, 18, 0, 0, .null, [])) (y_s := (18, [some (.long _), none, some (.long _), none, some (.long _), none], [.int _], _)) rfl (u_ rfl) ?_
      refine wrI (pc := 18) (len_s := 1) rfl hk ?_
      show wF _ 228 (9, [some (.int _)], [.int _], _) _
      refine wrI (pc := 9) (len_s := 1) rfl hk ?_
      show wF _ 231 (4, [some (.ref _), some (.int _), some (.int _)], [.int _], _) _
      refine w_t (pc := 4) (e_s := (15, 3, 9, 1, 0, .null, [])) (y_s := (9, [some (.ref _), some (.int _), some (.int _)], [], _)) rfl (u_ rfl) ?_
      refine w_t (pc := 9) (e_s := (3, 1, 0, 0, 0, .null, [])) (y_s := (10, [some (.ref _), some (.int _), some (.int _)], [.ref _], _)) rfl (u_ rfl) ?_
      refine w20r (pc := 10) (len_s := 3) (q_s := 124) rfl (krq hk rfl) ?_
      refine w_t (pc := 13) (e_s := (1, 1, 1, 0, 0, .null, [])) (y_s := (14, [some (.ref _), some (.int _), some (.int _)], [.int _, .ref _], _)) rfl (u_ rfl) ?_
      refine w22 (pc := 14) (len_s := 1) rfl (hk.1 124 0 6 rfl rfl) (fun c3 => ?_)
      replace t := t c3
      refine wq3 (pc := 15) (len_s := 3) rfl rfl (fun c4 => ?_) (fun c4 => ?_)
      · replace t := t.1 c4
        refine w_t (pc := 18) (e_s := (0, 2, 0, 0, 0, .int (-11), [])) (y_s := (20, [some (.ref _), some (.int _), some (.int _)], [.int _], _)) rfl (u_ rfl) ?_
        refine wrI (pc := 20) (len_s := 1) rfl hk ?_
        show wF _ 234 (6, [some (.ref _), some (.int _), some (.int _)], [.int _], _) _
        refine w_t (pc := 6) (e_s := (15, 3, 15, 0, 0, .null, [])) (y_s := (9, [some (.ref _), some (.int _), some (.int _)], [], _)) rfl (u_ rfl) ?_
        refine w_t (pc := 9) (e_s := (0, 3, 0, 0, 0, .long (-9223372036854775808), [(0, 1149)])) (y_s := (12, [some (.ref _), some (.int _), some (.int _)], [.long _], _)) rfl (u_ rfl) ?_
        refine w_t (pc := 12) (e_s := (17, 3, 26, 0, 0, .null, [])) (y_s := (26, [some (.ref _), some (.int _), some (.int _)], [.long _], _)) rfl (u_ rfl) ?_
        exact wrJ (pc := 26) (len_s := 1) rfl hk t
      · replace t := t.2 c4
        refine w_t (pc := 21) (e_s := (3, 1, 0, 0, 0, .null, [])) (y_s := (22, [some (.ref _), some (.int _), some (.int _)], [.ref _], _)) rfl (u_ rfl) ?_
        refine w20r (pc := 22) (len_s := 3) (q_s := 124) rfl (krq hk rfl) ?_
        refine w_t (pc := 25) (e_s := (1, 1, 1, 0, 0, .null, [])) (y_s := (26, [some (.ref _), some (.int _), some (.int _)], [.int _, .ref _], _)) rfl (u_ rfl) ?_
        refine w22 (pc := 26) (len_s := 1) rfl (hk.1 124 0 6 rfl rfl) (fun c5 => ?_)
        refine w_t (pc := 27) (e_s := (0, 2, 0, 0, 0, .int 50, [])) (y_s := (29, [some (.ref _), some (.int _), some (.int _)], [.int _, .int _], _)) rfl (u_ rfl) ?_
        refine wi3 (pc := 29) (len_s := 3) (Y := 50) rfl rfl (by decide) (fun c6 => ?_) (fun c6 => ?_)
        · replace t := t.1 c6
          refine w_t (pc := 32) (e_s := (0, 2, 0, 0, 0, .int (-12), [])) (y_s := (34, [some (.ref _), some (.int _), some (.int _)], [.int _], _)) rfl (u_ rfl) ?_
          refine wrI (pc := 34) (len_s := 1) rfl hk ?_
          show wF _ 234 (6, [some (.ref _), some (.int _), some (.int _)], [.int _], _) _
          refine w_t (pc := 6) (e_s := (15, 3, 15, 0, 0, .null, [])) (y_s := (9, [some (.ref _), some (.int _), some (.int _)], [], _)) rfl (u_ rfl) ?_
          refine w_t (pc := 9) (e_s := (0, 3, 0, 0, 0, .long (-9223372036854775808), [(0, 1149)])) (y_s := (12, [some (.ref _), some (.int _), some (.int _)], [.long _], _)) rfl (u_ rfl) ?_
          refine w_t (pc := 12) (e_s := (17, 3, 26, 0, 0, .null, [])) (y_s := (26, [some (.ref _), some (.int _), some (.int _)], [.long _], _)) rfl (u_ rfl) ?_
          exact wrJ (pc := 26) (len_s := 1) rfl hk t
        · replace t := t.2 c6
          refine w_t (pc := 35) (e_s := (1, 1, 2, 0, 0, .null, [])) (y_s := (36, [some (.ref _), some (.int _), some (.int _)], [.int _], _)) rfl (u_ rfl) ?_
          refine wq2 (pc := 36) (len_s := 3) rfl rfl (fun c7 => ?_) (fun c7 => ?_)
          · replace t := t.1 c7
            refine w_t (pc := 53) (e_s := (0, 2, 0, 0, 0, .int (-13), [])) (y_s := (55, [some (.ref _), some (.int _), some (.int _)], [.int _], _)) rfl (u_ rfl) ?_
            refine wrI (pc := 55) (len_s := 1) rfl hk ?_
            show wF _ 234 (6, [some (.ref _), some (.int _), some (.int _)], [.int _], _) _
            refine w_t (pc := 6) (e_s := (15, 3, 15, 0, 0, .null, [])) (y_s := (9, [some (.ref _), some (.int _), some (.int _)], [], _)) rfl (u_ rfl) ?_
            refine w_t (pc := 9) (e_s := (0, 3, 0, 0, 0, .long (-9223372036854775808), [(0, 1149)])) (y_s := (12, [some (.ref _), some (.int _), some (.int _)], [.long _], _)) rfl (u_ rfl) ?_
            refine w_t (pc := 12) (e_s := (17, 3, 26, 0, 0, .null, [])) (y_s := (26, [some (.ref _), some (.int _), some (.int _)], [.long _], _)) rfl (u_ rfl) ?_
            exact wrJ (pc := 26) (len_s := 1) rfl hk t
          · replace t := t.2 c7
            refine w_t (pc := 39) (e_s := (1, 1, 2, 0, 0, .null, [])) (y_s := (40, [some (.ref _), some (.int _), some (.int _)], [.int _], _)) rfl (u_ rfl) ?_
            refine w_t (pc := 40) (e_s := (3, 1, 0, 0, 0, .null, [])) (y_s := (41, [some (.ref _), some (.int _), some (.int _)], [.ref _, .int _], _)) rfl (u_ rfl) ?_
            refine w20r (pc := 41) (len_s := 3) (q_s := 125) rfl (krq hk rfl) ?_
            refine w_t (pc := 44) (e_s := (1, 1, 1, 0, 0, .null, [])) (y_s := (45, [some (.ref _), some (.int _), some (.int _)], [.int _, .ref _, .int _], _)) rfl (u_ rfl) ?_
            refine w22 (pc := 45) (len_s := 1) rfl (hk.1 125 0 6 rfl rfl) (fun c8 => ?_)
            refine wi3 (pc := 46) (len_s := 3) rfl rfl rfl (fun c9 => ?_) (fun c9 => ?_)
            · replace t := t.1 c9
              refine w_t (pc := 49) (e_s := (0, 1, 0, 0, 0, .int 0, [])) (y_s := (50, [some (.ref _), some (.int _), some (.int _)], [.int _], _)) rfl (u_ rfl) ?_
              refine w_t (pc := 50) (e_s := (17, 3, 55, 0, 0, .null, [])) (y_s := (55, [some (.ref _), some (.int _), some (.int _)], [.int _], _)) rfl (u_ rfl) ?_
              refine wrI (pc := 55) (len_s := 1) rfl hk ?_
              show wF _ 234 (6, [some (.ref _), some (.int _), some (.int _)], [.int _], _) _
              refine w_t (pc := 6) (e_s := (15, 3, 15, 0, 0, .null, [])) (y_s := (15, [some (.ref _), some (.int _), some (.int _)], [], _)) rfl (u_ rfl) ?_
              refine w_t (pc := 15) (e_s := (3, 1, 0, 0, 0, .null, [])) (y_s := (16, [some (.ref _), some (.int _), some (.int _)], [.ref _], _)) rfl (u_ rfl) ?_
              refine w20r (pc := 16) (len_s := 3) (q_s := 126) rfl (krq hk rfl) ?_
              refine w_t (pc := 19) (e_s := (0, 2, 0, 0, 0, .int 60, [])) (y_s := (21, [some (.ref _), some (.int _), some (.int _)], [.int _, .ref _], _)) rfl (u_ rfl) ?_
              refine w_t (pc := 21) (e_s := (1, 1, 1, 0, 0, .null, [])) (y_s := (22, [some (.ref _), some (.int _), some (.int _)], [.int _, .int _, .ref _], _)) rfl (u_ rfl) ?_
              refine w_t (pc := 22) (e_s := (7, 1, 0, 2, 0, .null, [])) (y_s := (23, [some (.ref _), some (.int _), some (.int _)], [.int (_ * _), .ref _], _)) rfl (u_ rfl) ?_
              refine w_t (pc := 23) (e_s := (1, 1, 2, 0, 0, .null, [])) (y_s := (24, [some (.ref _), some (.int _), some (.int _)], [.int _, .int _, .ref _], _)) rfl (u_ rfl) ?_
              refine w_t (pc := 24) (e_s := (7, 1, 0, 0, 0, .null, [])) (y_s := (25, [some (.ref _), some (.int _), some (.int _)], [.int (_ + _), .ref _], _)) rfl (u_ rfl) ?_
              refine w23 (pc := 25) (len_s := 1) rfl (hk.1 126 1 360 rfl rfl) (fun c10 => ?_)
              replace t := t c10
              exact wrJ (pc := 26) (len_s := 1) rfl hk t
            · replace t := t.2 c9
              refine w_t (pc := 53) (e_s := (0, 2, 0, 0, 0, .int (-13), [])) (y_s := (55, [some (.ref _), some (.int _), some (.int _)], [.int _], _)) rfl (u_ rfl) ?_
              refine wrI (pc := 55) (len_s := 1) rfl hk ?_
              show wF _ 234 (6, [some (.ref _), some (.int _), some (.int _)], [.int _], _) _
              refine w_t (pc := 6) (e_s := (15, 3, 15, 0, 0, .null, [])) (y_s := (9, [some (.ref _), some (.int _), some (.int _)], [], _)) rfl (u_ rfl) ?_
              refine w_t (pc := 9) (e_s := (0, 3, 0, 0, 0, .long (-9223372036854775808), [(0, 1149)])) (y_s := (12, [some (.ref _), some (.int _), some (.int _)], [.long _], _)) rfl (u_ rfl) ?_
              refine w_t (pc := 12) (e_s := (17, 3, 26, 0, 0, .null, [])) (y_s := (26, [some (.ref _), some (.int _), some (.int _)], [.long _], _)) rfl (u_ rfl) ?_
              exact wrJ (pc := 26) (len_s := 1) rfl hk t
/-- ColdShod.put(IIJ)I, from 0 on -/
theorem sg_130_0 {F : Nat} {x1 : Int32} {x2 : Int32} {y3 : Int64} {h : zH} {K : Int32 → zH → Prop} (hk : hKn h) (t : (x1.toInt < 0 → K (-1) h) ∧ (¬ x1.toInt < 0 → ((x1.toInt < 6 → (zix x1 < 6 → ((h.2.1 (76 + 2 * (zix x1)) 0).toInt = 0 → K (-11) h) ∧ (¬ (h.2.1 (76 + 2 * (zix x1)) 0).toInt = 0 → (((h.2.1 (76 + 2 * (zix x1)) 0).toInt = 2 → ((x2.toInt < 0 → K (-13) h) ∧ (¬ x2.toInt < 0 → ((x2.toInt < (h.2.1 (76 + 2 * (zix x1)) 3).toInt → (((h.2.1 (76 + 2 * (zix x1)) 2).toInt = 0 → (zix x2 < 60 → K 1 (h.1, h.2.1, zup h.2.2.1 (76 + 2 * (zix x1) + 1) (zix x2) y3.toInt32.toInt8.toInt32.toInt64, h.2.2.2))) ∧ (¬ (h.2.1 (76 + 2 * (zix x1)) 2).toInt = 0 → ((h.2.1 (76 + 2 * (zix x1)) 2).toInt = 1 → (zix x2 < 60 → K 1 (h.1, h.2.1, zup h.2.2.1 (76 + 2 * (zix x1) + 1) (zix x2) y3.toInt32.toInt16.toInt32.toInt64, h.2.2.2))) ∧ (¬ (h.2.1 (76 + 2 * (zix x1)) 2).toInt = 1 → ((h.2.1 (76 + 2 * (zix x1)) 2).toInt = 2 → (zix x2 < 60 → K 1 (h.1, h.2.1, zup h.2.2.1 (76 + 2 * (zix x1) + 1) (zix x2) y3.toInt32.toInt64, h.2.2.2))) ∧ (¬ (h.2.1 (76 + 2 * (zix x1)) 2).toInt = 2 → ((h.2.1 (76 + 2 * (zix x1)) 2).toInt = 3 → (zix x2 < 60 → K 1 (h.1, h.2.1, zup h.2.2.1 (76 + 2 * (zix x1) + 1) (zix x2) y3, h.2.2.2))) ∧ (¬ (h.2.1 (76 + 2 * (zix x1)) 2).toInt = 3 → ((h.2.1 (76 + 2 * (zix x1)) 2).toInt = 4 → ((y3.toInt = 0 → (zix x2 < 60 → K 1 (h.1, h.2.1, zup h.2.2.1 (76 + 2 * (zix x1) + 1) (zix x2) 0, h.2.2.2))) ∧ (¬ y3.toInt = 0 → (zix x2 < 60 → K 1 (h.1, h.2.1, zup h.2.2.1 (76 + 2 * (zix x1) + 1) (zix x2) 1, h.2.2.2))))) ∧ (¬ (h.2.1 (76 + 2 * (zix x1)) 2).toInt = 4 → (zix x2 < 60 → K 1 (h.1, h.2.1, zup h.2.2.1 (76 + 2 * (zix x1) + 1) (zix x2) y3, h.2.2.2))))))))) ∧ (¬ x2.toInt < (h.2.1 (76 + 2 * (zix x1)) 3).toInt → K (-13) h))))) ∧ (¬ (h.2.1 (76 + 2 * (zix x1)) 0).toInt = 2 → K (-12) h))))) ∧ (¬ x1.toInt < 6 → K (-1) h)))) : wF (F + 1) 130 (0, [some (.ref 6), some (.int x1), some (.int x2), some (.long y3), none, none], [], h) (gI K) := by
  refine w_0 (pc := 0) (e_s := (3, 1, 0, 0, 0, .null, [])) (y_s := (1, [some (.ref _), some (.int _), some (.int _), some (.long _), none, none], [.ref _], _)) rfl (u_ rfl) ?_
  refine w_t (pc := 1) (e_s := (1, 1, 1, 0, 0, .null, [])) (y_s := (2, [some (.ref _), some (.int _), some (.int _), some (.long _), none, none], [.int _, .ref _], _)) rfl (u_ rfl) ?_
  refine w_t (pc := 2) (e_s := (1, 1, 2, 0, 0, .null, [])) (y_s := (3, [some (.ref _), some (.int _), some (.int _), some (.long _), none, none], [.int _, .int _, .ref _], _)) rfl (u_ rfl) ?_
  refine wcI (pc := 3) (len_s := 3) rfl rfl (l := [some (.ref _), some (.int _), some (.int _)]) rfl ?_
  refine w_t (pc := 0) (e_s := (1, 1, 1, 0, 0, .null, [])) (y_s := (1, [some (.ref _), some (.int _), some (.int _)], [.int _], _)) rfl (u_ rfl) ?_
  refine wcI (pc := 1) (len_s := 3) rfl rfl (l := [some (.int _)]) rfl ?_
  refine w_t (pc := 0) (e_s := (1, 1, 0, 0, 0, .null, [])) (y_s := (1, [some (.int _)], [.int _], _)) rfl (u_ rfl) ?_
  refine wq2 (pc := 1) (len_s := 3) rfl rfl (fun c1 => ?_) (fun c1 => ?_)
  · replace t := t.1 c1
    refine w_t (pc := 14) (e_s := (0, 1, 0, 0, 0, .int 0, [])) (y_s := (15, [some (.int _)], [.int _], _)) rfl (u_ rfl) ?_
    refine wrI (pc := 15) (len_s := 1) rfl hk ?_
    show wF _ 142 (4, [some (.ref _), some (.int _), some (.int _)], [.int _], _) _
    refine w_t (pc := 4) (e_s := (15, 3, 9, 1, 0, .null, [])) (y_s := (7, [some (.ref _), some (.int _), some (.int _)], [], _)) rfl (u_ rfl) ?_
    refine w_t (pc := 7) (e_s := (0, 1, 0, 0, 0, .int (-1), [])) (y_s := (8, [some (.ref _), some (.int _), some (.int _)], [.int _], _)) rfl (u_ rfl) ?_
    refine wrI (pc := 8) (len_s := 1) rfl hk ?_
    show wF _ 130 (6, [some (.ref _), some (.int _), some (.int _), some (.long _), none, none], [.int _], _) _
    refine w_t (pc := 6) (e_s := (4, 2, 5, 0, 0, .null, [])) (y_s := (8, [some (.ref _), some (.int _), some (.int _), some (.long _), none, some (.int _)], [], _)) rfl (u_ rfl) ?_
    refine w_t (pc := 8) (e_s := (1, 2, 5, 0, 0, .null, [])) (y_s := (10, [some (.ref _), some (.int _), some (.int _), some (.long _), none, some (.int _)], [.int _], _)) rfl (u_ rfl) ?_
    refine w_t (pc := 10) (e_s := (15, 3, 16, 0, 0, .null, [])) (y_s := (13, [some (.ref _), some (.int _), some (.int _), some (.long _), none, some (.int _)], [], _)) rfl (u_ rfl) ?_
    refine w_t (pc := 13) (e_s := (1, 2, 5, 0, 0, .null, [])) (y_s := (15, [some (.ref _), some (.int _), some (.int _), some (.long _), none, some (.int _)], [.int _], _)) rfl (u_ rfl) ?_
    exact wrI (pc := 15) (len_s := 1) rfl hk t
  · replace t := t.2 c1
    refine w_t (pc := 4) (e_s := (1, 1, 0, 0, 0, .null, [])) (y_s := (5, [some (.int _)], [.int _], _)) rfl (u_ rfl) ?_
    refine w_t (pc := 5) (e_s := (0, 2, 0, 0, 0, .int 6, [])) (y_s := (7, [some (.int _)], [.int _, .int _], _)) rfl (u_ rfl) ?_
    refine wi3 (pc := 7) (len_s := 3) (Y := 6) rfl rfl (by decide) (fun c2 => ?_) (fun c2 => ?_)
    · replace t := t.1 c2
      refine w_t (pc := 10) (e_s := (0, 1, 0, 0, 0, .int 1, [])) (y_s := (11, [some (.int _)], [.int _], _)) rfl (u_ rfl) ?_
      refine w_t (pc := 11) (e_s := (17, 3, 15, 0, 0, .null, [])) (y_s := (15, [some (.int _)], [.int _], _)) rfl (u_ rfl) ?_
      refine wrI (pc := 15) (len_s := 1) rfl hk ?_
      show wF _ 142 (4, [some (.ref _), some (.int _), some (.int _)], [.int _], _) _
      refine w_t (pc := 4) (e_s := (15, 3, 9, 1, 0, .null, [])) (y_s := (9, [some (.ref _), some (.int _), some (.int _)], [], _)) rfl (u_ rfl) ?_
      refine w_t (pc := 9) (e_s := (3, 1, 0, 0, 0, .null, [])) (y_s := (10, [some (.ref _), some (.int _), some (.int _)], [.ref _], _)) rfl (u_ rfl) ?_
      refine w20r (pc := 10) (len_s := 3) (q_s := 71) rfl (krq hk rfl) ?_
      refine w_t (pc := 13) (e_s := (1, 1, 1, 0, 0, .null, [])) (y_s := (14, [some (.ref _), some (.int _), some (.int _)], [.int _, .ref _], _)) rfl (u_ rfl) ?_
      refine w24 (g_s := fun j_ => 76 + 2 * j_) (pc := 14) (len_s := 1) hk rfl (hk.1 71 4 6 rfl rfl) kg71 (fun c3 => ?_)
      replace t := t c3
      refine w20 (pc := 15) (len_s := 3) rfl ?_
      refine wq1 (pc := 18) (len_s := 3) rfl rfl (fun c4 => ?_) (fun c4 => ?_)
      · replace t := t.1 c4
        refine w_t (pc := 21) (e_s := (0, 2, 0, 0, 0, .int (-11), [])) (y_s := (23, [some (.ref _), some (.int _), some (.int _)], [.int _], _)) rfl (u_ rfl) ?_
        refine wrI (pc := 23) (len_s := 1) rfl hk ?_
        show wF _ 130 (6, [some (.ref _), some (.int _), some (.int _), some (.long _), none, none], [.int _], _) _
        refine w_t (pc := 6) (e_s := (4, 2, 5, 0, 0, .null, [])) (y_s := (8, [some (.ref _), some (.int _), some (.int _), some (.long _), none, some (.int _)], [], _)) rfl (u_ rfl) ?_
        refine w_t (pc := 8) (e_s := (1, 2, 5, 0, 0, .null, [])) (y_s := (10, [some (.ref _), some (.int _), some (.int _), some (.long _), none, some (.int _)], [.int _], _)) rfl (u_ rfl) ?_
        refine w_t (pc := 10) (e_s := (15, 3, 16, 0, 0, .null, [])) (y_s := (13, [some (.ref _), some (.int _), some (.int _), some (.long _), none, some (.int _)], [], _)) rfl (u_ rfl) ?_
        refine w_t (pc := 13) (e_s := (1, 2, 5, 0, 0, .null, [])) (y_s := (15, [some (.ref _), some (.int _), some (.int _), some (.long _), none, some (.int _)], [.int _], _)) rfl (u_ rfl) ?_
        exact wrI (pc := 15) (len_s := 1) rfl hk t
      · replace t := t.2 c4
        refine w_t (pc := 24) (e_s := (3, 1, 0, 0, 0, .null, [])) (y_s := (25, [some (.ref _), some (.int _), some (.int _)], [.ref _], _)) rfl (u_ rfl) ?_
        refine w20r (pc := 25) (len_s := 3) (q_s := 71) rfl (krq hk rfl) ?_
        refine w_t (pc := 28) (e_s := (1, 1, 1, 0, 0, .null, [])) (y_s := (29, [some (.ref _), some (.int _), some (.int _)], [.int _, .ref _], _)) rfl (u_ rfl) ?_
        refine w24 (g_s := fun j_ => 76 + 2 * j_) (pc := 29) (len_s := 1) hk rfl (hk.1 71 4 6 rfl rfl) kg71 (fun c5 => ?_)
        refine w20 (pc := 30) (len_s := 3) rfl ?_
        refine w_t (pc := 33) (e_s := (0, 1, 0, 0, 0, .int 2, [])) (y_s := (34, [some (.ref _), some (.int _), some (.int _)], [.int _, .int _], _)) rfl (u_ rfl) ?_
        refine wi0 (pc := 34) (len_s := 3) (Y := 2) rfl rfl (by decide) (fun c6 => ?_) (fun c6 => ?_)
        · replace t := t.1 c6
          refine w_t (pc := 40) (e_s := (1, 1, 2, 0, 0, .null, [])) (y_s := (41, [some (.ref _), some (.int _), some (.int _)], [.int _], _)) rfl (u_ rfl) ?_
          refine wq2 (pc := 41) (len_s := 3) rfl rfl (fun c7 => ?_) (fun c7 => ?_)
          · replace t := t.1 c7
            refine w_t (pc := 57) (e_s := (0, 2, 0, 0, 0, .int (-13), [])) (y_s := (59, [some (.ref _), some (.int _), some (.int _)], [.int _], _)) rfl (u_ rfl) ?_
            refine w_t (pc := 59) (e_s := (17, 3, 63, 0, 0, .null, [])) (y_s := (63, [some (.ref _), some (.int _), some (.int _)], [.int _], _)) rfl (u_ rfl) ?_
            refine wrI (pc := 63) (len_s := 1) rfl hk ?_
            show wF _ 130 (6, [some (.ref _), some (.int _), some (.int _), some (.long _), none, none], [.int _], _) _
            refine w_t (pc := 6) (e_s := (4, 2, 5, 0, 0, .null, [])) (y_s := (8, [some (.ref _), some (.int _), some (.int _), some (.long _), none, some (.int _)], [], _)) rfl (u_ rfl) ?_
            refine w_t (pc := 8) (e_s := (1, 2, 5, 0, 0, .null, [])) (y_s := (10, [some (.ref _), some (.int _), some (.int _), some (.long _), none, some (.int _)], [.int _], _)) rfl (u_ rfl) ?_
            refine w_t (pc := 10) (e_s := (15, 3, 16, 0, 0, .null, [])) (y_s := (13, [some (.ref _), some (.int _), some (.int _), some (.long _), none, some (.int _)], [], _)) rfl (u_ rfl) ?_
            refine w_t (pc := 13) (e_s := (1, 2, 5, 0, 0, .null, [])) (y_s := (15, [some (.ref _), some (.int _), some (.int _), some (.long _), none, some (.int _)], [.int _], _)) rfl (u_ rfl) ?_
            exact wrI (pc := 15) (len_s := 1) rfl hk t
          · replace t := t.2 c7
            refine w_t (pc := 44) (e_s := (1, 1, 2, 0, 0, .null, [])) (y_s := (45, [some (.ref _), some (.int _), some (.int _)], [.int _], _)) rfl (u_ rfl) ?_
            refine w_t (pc := 45) (e_s := (3, 1, 0, 0, 0, .null, [])) (y_s := (46, [some (.ref _), some (.int _), some (.int _)], [.ref _, .int _], _)) rfl (u_ rfl) ?_
            refine w20r (pc := 46) (len_s := 3) (q_s := 71) rfl (krq hk rfl) ?_
            refine w_t (pc := 49) (e_s := (1, 1, 1, 0, 0, .null, [])) (y_s := (50, [some (.ref _), some (.int _), some (.int _)], [.int _, .ref _, .int _], _)) rfl (u_ rfl) ?_
            refine w24 (g_s := fun j_ => 76 + 2 * j_) (pc := 50) (len_s := 1) hk rfl (hk.1 71 4 6 rfl rfl) kg71 (fun c8 => ?_)
            refine w20 (pc := 51) (len_s := 3) rfl ?_
            refine wi2 (pc := 54) (len_s := 3) rfl rfl rfl (fun c9 => ?_) (fun c9 => ?_)
            · replace t := t.1 c9
              refine w_t (pc := 62) (e_s := (0, 1, 0, 0, 0, .int 0, [])) (y_s := (63, [some (.ref _), some (.int _), some (.int _)], [.int _], _)) rfl (u_ rfl) ?_
              refine wrI (pc := 63) (len_s := 1) rfl hk ?_
              show wF _ 130 (6, [some (.ref _), some (.int _), some (.int _), some (.long _), none, none], [.int _], _) _
              refine w_t (pc := 6) (e_s := (4, 2, 5, 0, 0, .null, [])) (y_s := (8, [some (.ref _), some (.int _), some (.int _), some (.long _), none, some (.int _)], [], _)) rfl (u_ rfl) ?_
              refine w_t (pc := 8) (e_s := (1, 2, 5, 0, 0, .null, [])) (y_s := (10, [some (.ref _), some (.int _), some (.int _), some (.long _), none, some (.int _)], [.int _], _)) rfl (u_ rfl) ?_
              refine w_t (pc := 10) (e_s := (15, 3, 16, 0, 0, .null, [])) (y_s := (16, [some (.ref _), some (.int _), some (.int _), some (.long _), none, some (.int _)], [], _)) rfl (u_ rfl) ?_
              refine w_t (pc := 16) (e_s := (3, 1, 0, 0, 0, .null, [])) (y_s := (17, [some (.ref _), some (.int _), some (.int _), some (.long _), none, some (.int _)], [.ref _], _)) rfl (u_ rfl) ?_
              refine w20r (pc := 17) (len_s := 3) (q_s := 71) rfl (krq hk rfl) ?_
              refine w_t (pc := 20) (e_s := (1, 1, 1, 0, 0, .null, [])) (y_s := (21, [some (.ref _), some (.int _), some (.int _), some (.long _), none, some (.int _)], [.int _, .ref _], _)) rfl (u_ rfl) ?_
              refine w24 (g_s := fun j_ => 76 + 2 * j_) (pc := 21) (len_s := 1) hk rfl (hk.1 71 4 6 rfl rfl) kg71 (fun c10 => ?_)
              refine w20r (pc := 22) (len_s := 3) (q_s := 76 + 2 * (zix x1) + 1) rfl (kshc hk c10) ?_
              refine w_t (pc := 25) (e_s := (1, 1, 2, 0, 0, .null, [])) (y_s := (26, [some (.ref _), some (.int _), some (.int _), some (.long _), none, some (.int _)], [.int _, .ref _], _)) rfl (u_ rfl) ?_
              refine w_t (pc := 26) (e_s := (3, 1, 0, 0, 0, .null, [])) (y_s := (27, [some (.ref _), some (.int _), some (.int _), some (.long _), none, some (.int _)], [.ref _, .int _, .ref _], _)) rfl (u_ rfl) ?_
              refine w20r (pc := 27) (len_s := 3) (q_s := 71) rfl (krq hk rfl) ?_
              refine w_t (pc := 30) (e_s := (1, 1, 1, 0, 0, .null, [])) (y_s := (31, [some (.ref _), some (.int _), some (.int _), some (.long _), none, some (.int _)], [.int _, .ref _, .int _, .ref _], _)) rfl (u_ rfl) ?_
              refine w24 (g_s := fun j_ => 76 + 2 * j_) (pc := 31) (len_s := 1) hk rfl (hk.1 71 4 6 rfl rfl) kg71 (fun c11 => ?_)
              refine w_t (pc := 32) (e_s := (2, 1, 3, 0, 0, .null, [])) (y_s := (33, [some (.ref _), some (.int _), some (.int _), some (.long _), none, some (.int _)], [.long _, .ref _, .int _, .ref _], _)) rfl (u_ rfl) ?_
              refine wcJ (pc := 33) (len_s := 3) rfl rfl (l := [some (.ref _), some (.long _), none]) rfl ?_
              refine w_t (pc := 0) (e_s := (3, 1, 0, 0, 0, .null, [])) (y_s := (1, [some (.ref _), some (.long _), none], [.ref _], _)) rfl (u_ rfl) ?_
              refine w20 (pc := 1) (len_s := 3) rfl ?_
              refine wsw (pc := 4) (len_s := 36) rfl ?_
              refine wsc (X_s := 0) rfl (by decide) (fun c12 => ?_) (fun c12 => ?_)
              · replace t := t.1 c12
                refine w_t (pc := 40) (e_s := (2, 1, 1, 0, 0, .null, [])) (y_s := (41, [some (.ref _), some (.long _), none], [.long _], _)) rfl (u_ rfl) ?_
                refine w_t (pc := 41) (e_s := (11, 1, 0, 0, 0, .null, [])) (y_s := (42, [some (.ref _), some (.long _), none], [.int (Int64.toInt32 _)], _)) rfl (u_ rfl) ?_
                refine w_t (pc := 42) (e_s := (9, 1, 0, 1, 0, .null, [])) (y_s := (43, [some (.ref _), some (.long _), none], [.int (Int8.toInt32 _)], _)) rfl (u_ rfl) ?_
                refine w_t (pc := 43) (e_s := (10, 1, 0, 0, 0, .null, [])) (y_s := (44, [some (.ref _), some (.long _), none], [.long (Int32.toInt64 _)], _)) rfl (u_ rfl) ?_
                refine wrJ (pc := 44) (len_s := 1) rfl hk ?_
                show wF _ 130 (36, [some (.ref _), some (.int _), some (.int _), some (.long _), none, some (.int _)], [.long _, .int _, .ref _], _) _
                refine w26 (pc := 36) (len_s := 1) rfl (kshz hk c10) (fun c13 => ?_)
                replace t := t c13
                refine w_t (pc := 37) (e_s := (0, 1, 0, 0, 0, .int 1, [])) (y_s := (38, [some (.ref _), some (.int _), some (.int _), some (.long _), none, some (.int _)], [.int _], _)) rfl (u_ rfl) ?_
                exact wrI (pc := 38) (len_s := 1) rfl hk t
              · replace t := t.2 c12
                refine wsc (X_s := 1) rfl (by decide) (fun c14 => ?_) (fun c14 => ?_)
                · replace t := t.1 c14
                  refine w_t (pc := 45) (e_s := (2, 1, 1, 0, 0, .null, [])) (y_s := (46, [some (.ref _), some (.long _), none], [.long _], _)) rfl (u_ rfl) ?_
                  refine w_t (pc := 46) (e_s := (11, 1, 0, 0, 0, .null, [])) (y_s := (47, [some (.ref _), some (.long _), none], [.int (Int64.toInt32 _)], _)) rfl (u_ rfl) ?_
                  refine w_t (pc := 47) (e_s := (9, 1, 0, 2, 0, .null, [])) (y_s := (48, [some (.ref _), some (.long _), none], [.int (Int16.toInt32 _)], _)) rfl (u_ rfl) ?_
                  refine w_t (pc := 48) (e_s := (10, 1, 0, 0, 0, .null, [])) (y_s := (49, [some (.ref _), some (.long _), none], [.long (Int32.toInt64 _)], _)) rfl (u_ rfl) ?_
                  refine wrJ (pc := 49) (len_s := 1) rfl hk ?_
                  show wF _ 130 (36, [some (.ref _), some (.int _), some (.int _), some (.long _), none, some (.int _)], [.long _, .int _, .ref _], _) _
                  refine w26 (pc := 36) (len_s := 1) rfl (kshz hk c10) (fun c15 => ?_)
                  replace t := t c15
                  refine w_t (pc := 37) (e_s := (0, 1, 0, 0, 0, .int 1, [])) (y_s := (38, [some (.ref _), some (.int _), some (.int _), some (.long _), none, some (.int _)], [.int _], _)) rfl (u_ rfl) ?_
                  exact wrI (pc := 38) (len_s := 1) rfl hk t
                · replace t := t.2 c14
                  refine wsc (X_s := 2) rfl (by decide) (fun c16 => ?_) (fun c16 => ?_)
                  · replace t := t.1 c16
                    refine w_t (pc := 50) (e_s := (2, 1, 1, 0, 0, .null, [])) (y_s := (51, [some (.ref _), some (.long _), none], [.long _], _)) rfl (u_ rfl) ?_
                    refine w_t (pc := 51) (e_s := (11, 1, 0, 0, 0, .null, [])) (y_s := (52, [some (.ref _), some (.long _), none], [.int (Int64.toInt32 _)], _)) rfl (u_ rfl) ?_
                    refine w_t (pc := 52) (e_s := (10, 1, 0, 0, 0, .null, [])) (y_s := (53, [some (.ref _), some (.long _), none], [.long (Int32.toInt64 _)], _)) rfl (u_ rfl) ?_
                    refine wrJ (pc := 53) (len_s := 1) rfl hk ?_
                    show wF _ 130 (36, [some (.ref _), some (.int _), some (.int _), some (.long _), none, some (.int _)], [.long _, .int _, .ref _], _) _
                    refine w26 (pc := 36) (len_s := 1) rfl (kshz hk c10) (fun c17 => ?_)
                    replace t := t c17
                    refine w_t (pc := 37) (e_s := (0, 1, 0, 0, 0, .int 1, [])) (y_s := (38, [some (.ref _), some (.int _), some (.int _), some (.long _), none, some (.int _)], [.int _], _)) rfl (u_ rfl) ?_
                    exact wrI (pc := 38) (len_s := 1) rfl hk t
                  · replace t := t.2 c16
                    refine wsc (X_s := 3) rfl (by decide) (fun c18 => ?_) (fun c18 => ?_)
                    · replace t := t.1 c18
                      refine w_t (pc := 66) (e_s := (2, 1, 1, 0, 0, .null, [])) (y_s := (67, [some (.ref _), some (.long _), none], [.long _], _)) rfl (u_ rfl) ?_
                      refine wrJ (pc := 67) (len_s := 1) rfl hk ?_
                      show wF _ 130 (36, [some (.ref _), some (.int _), some (.int _), some (.long _), none, some (.int _)], [.long _, .int _, .ref _], _) _
                      refine w26 (pc := 36) (len_s := 1) rfl (kshz hk c10) (fun c19 => ?_)
                      replace t := t c19
                      refine w_t (pc := 37) (e_s := (0, 1, 0, 0, 0, .int 1, [])) (y_s := (38, [some (.ref _), some (.int _), some (.int _), some (.long _), none, some (.int _)], [.int _], _)) rfl (u_ rfl) ?_
                      exact wrI (pc := 38) (len_s := 1) rfl hk t
                    · replace t := t.2 c18
                      refine wsc (X_s := 4) rfl (by decide) (fun c20 => ?_) (fun c20 => ?_)
                      · replace t := t.1 c20
                        refine w_t (pc := 54) (e_s := (2, 1, 1, 0, 0, .null, [])) (y_s := (55, [some (.ref _), some (.long _), none], [.long _], _)) rfl (u_ rfl) ?_
                        refine w_t (pc := 55) (e_s := (0, 1, 0, 0, 0, .long 0, [])) (y_s := (56, [some (.ref _), some (.long _), none], [.long _, .long _], _)) rfl (u_ rfl) ?_
                        refine w_t (pc := 56) (e_s := (14, 1, 0, 0, 0, .null, [])) (y_s := (57, [some (.ref _), some (.long _), none], [.int (lg_cmp _ _)], _)) rfl (u_ rfl) ?_
                        refine wl0 (pc := 57) (len_s := 3) (Y := 0) rfl rfl (by decide) (fun c21 => ?_) (fun c21 => ?_)
                        · replace t := t.1 c21
                          refine w_t (pc := 64) (e_s := (0, 1, 0, 0, 0, .long 0, [])) (y_s := (65, [some (.ref _), some (.long _), none], [.long _], _)) rfl (u_ rfl) ?_
                          refine wrJ (pc := 65) (len_s := 1) rfl hk ?_
                          show wF _ 130 (36, [some (.ref _), some (.int _), some (.int _), some (.long _), none, some (.int _)], [.long _, .int _, .ref _], _) _
                          refine w26 (pc := 36) (len_s := 1) rfl (kshz hk c10) (fun c22 => ?_)
                          replace t := t c22
                          refine w_t (pc := 37) (e_s := (0, 1, 0, 0, 0, .int 1, [])) (y_s := (38, [some (.ref _), some (.int _), some (.int _), some (.long _), none, some (.int _)], [.int _], _)) rfl (u_ rfl) ?_
                          exact wrI (pc := 38) (len_s := 1) rfl hk t
                        · replace t := t.2 c21
                          refine w_t (pc := 60) (e_s := (0, 1, 0, 0, 0, .long 1, [])) (y_s := (61, [some (.ref _), some (.long _), none], [.long _], _)) rfl (u_ rfl) ?_
                          refine w_t (pc := 61) (e_s := (17, 3, 65, 0, 0, .null, [])) (y_s := (65, [some (.ref _), some (.long _), none], [.long _], _)) rfl (u_ rfl) ?_
                          refine wrJ (pc := 65) (len_s := 1) rfl hk ?_
                          show wF _ 130 (36, [some (.ref _), some (.int _), some (.int _), some (.long _), none, some (.int _)], [.long _, .int _, .ref _], _) _
                          refine w26 (pc := 36) (len_s := 1) rfl (kshz hk c10) (fun c23 => ?_)
                          replace t := t c23
                          refine w_t (pc := 37) (e_s := (0, 1, 0, 0, 0, .int 1, [])) (y_s := (38, [some (.ref _), some (.int _), some (.int _), some (.long _), none, some (.int _)], [.int _], _)) rfl (u_ rfl) ?_
                          exact wrI (pc := 38) (len_s := 1) rfl hk t
                      · replace t := t.2 c20
                        show wF _ _ (66, _, _, _) _
                        refine w_t (pc := 66) (e_s := (2, 1, 1, 0, 0, .null, [])) (y_s := (67, [some (.ref _), some (.long _), none], [.long _], _)) rfl (u_ rfl) ?_
                        refine wrJ (pc := 67) (len_s := 1) rfl hk ?_
                        show wF _ 130 (36, [some (.ref _), some (.int _), some (.int _), some (.long _), none, some (.int _)], [.long _, .int _, .ref _], _) _
                        refine w26 (pc := 36) (len_s := 1) rfl (kshz hk c10) (fun c24 => ?_)
                        replace t := t c24
                        refine w_t (pc := 37) (e_s := (0, 1, 0, 0, 0, .int 1, [])) (y_s := (38, [some (.ref _), some (.int _), some (.int _), some (.long _), none, some (.int _)], [.int _], _)) rfl (u_ rfl) ?_
                        exact wrI (pc := 38) (len_s := 1) rfl hk t
            · replace t := t.2 c9
              refine w_t (pc := 57) (e_s := (0, 2, 0, 0, 0, .int (-13), [])) (y_s := (59, [some (.ref _), some (.int _), some (.int _)], [.int _], _)) rfl (u_ rfl) ?_
              refine w_t (pc := 59) (e_s := (17, 3, 63, 0, 0, .null, [])) (y_s := (63, [some (.ref _), some (.int _), some (.int _)], [.int _], _)) rfl (u_ rfl) ?_
              refine wrI (pc := 63) (len_s := 1) rfl hk ?_
              show wF _ 130 (6, [some (.ref _), some (.int _), some (.int _), some (.long _), none, none], [.int _], _) _
              refine w_t (pc := 6) (e_s := (4, 2, 5, 0, 0, .null, [])) (y_s := (8, [some (.ref _), some (.int _), some (.int _), some (.long _), none, some (.int _)], [], _)) rfl (u_ rfl) ?_
              refine w_t (pc := 8) (e_s := (1, 2, 5, 0, 0, .null, [])) (y_s := (10, [some (.ref _), some (.int _), some (.int _), some (.long _), none, some (.int _)], [.int _], _)) rfl (u_ rfl) ?_
              refine w_t (pc := 10) (e_s := (15, 3, 16, 0, 0, .null, [])) (y_s := (13, [some (.ref _), some (.int _), some (.int _), some (.long _), none, some (.int _)], [], _)) rfl (u_ rfl) ?_
              refine w_t (pc := 13) (e_s := (1, 2, 5, 0, 0, .null, [])) (y_s := (15, [some (.ref _), some (.int _), some (.int _), some (.long _), none, some (.int _)], [.int _], _)) rfl (u_ rfl) ?_
              exact wrI (pc := 15) (len_s := 1) rfl hk t
        · replace t := t.2 c6
          refine w_t (pc := 37) (e_s := (0, 2, 0, 0, 0, .int (-12), [])) (y_s := (39, [some (.ref _), some (.int _), some (.int _)], [.int _], _)) rfl (u_ rfl) ?_
          refine wrI (pc := 39) (len_s := 1) rfl hk ?_
          show wF _ 130 (6, [some (.ref _), some (.int _), some (.int _), some (.long _), none, none], [.int _], _) _
          refine w_t (pc := 6) (e_s := (4, 2, 5, 0, 0, .null, [])) (y_s := (8, [some (.ref _), some (.int _), some (.int _), some (.long _), none, some (.int _)], [], _)) rfl (u_ rfl) ?_
          refine w_t (pc := 8) (e_s := (1, 2, 5, 0, 0, .null, [])) (y_s := (10, [some (.ref _), some (.int _), some (.int _), some (.long _), none, some (.int _)], [.int _], _)) rfl (u_ rfl) ?_
          refine w_t (pc := 10) (e_s := (15, 3, 16, 0, 0, .null, [])) (y_s := (13, [some (.ref _), some (.int _), some (.int _), some (.long _), none, some (.int _)], [], _)) rfl (u_ rfl) ?_
          refine w_t (pc := 13) (e_s := (1, 2, 5, 0, 0, .null, [])) (y_s := (15, [some (.ref _), some (.int _), some (.int _), some (.long _), none, some (.int _)], [.int _], _)) rfl (u_ rfl) ?_
          exact wrI (pc := 15) (len_s := 1) rfl hk t
    · replace t := t.2 c2
      refine w_t (pc := 14) (e_s := (0, 1, 0, 0, 0, .int 0, [])) (y_s := (15, [some (.int _)], [.int _], _)) rfl (u_ rfl) ?_
      refine wrI (pc := 15) (len_s := 1) rfl hk ?_
      show wF _ 142 (4, [some (.ref _), some (.int _), some (.int _)], [.int _], _) _
      refine w_t (pc := 4) (e_s := (15, 3, 9, 1, 0, .null, [])) (y_s := (7, [some (.ref _), some (.int _), some (.int _)], [], _)) rfl (u_ rfl) ?_
      refine w_t (pc := 7) (e_s := (0, 1, 0, 0, 0, .int (-1), [])) (y_s := (8, [some (.ref _), some (.int _), some (.int _)], [.int _], _)) rfl (u_ rfl) ?_
      refine wrI (pc := 8) (len_s := 1) rfl hk ?_
      show wF _ 130 (6, [some (.ref _), some (.int _), some (.int _), some (.long _), none, none], [.int _], _) _
      refine w_t (pc := 6) (e_s := (4, 2, 5, 0, 0, .null, [])) (y_s := (8, [some (.ref _), some (.int _), some (.int _), some (.long _), none, some (.int _)], [], _)) rfl (u_ rfl) ?_
      refine w_t (pc := 8) (e_s := (1, 2, 5, 0, 0, .null, [])) (y_s := (10, [some (.ref _), some (.int _), some (.int _), some (.long _), none, some (.int _)], [.int _], _)) rfl (u_ rfl) ?_
      refine w_t (pc := 10) (e_s := (15, 3, 16, 0, 0, .null, [])) (y_s := (13, [some (.ref _), some (.int _), some (.int _), some (.long _), none, some (.int _)], [], _)) rfl (u_ rfl) ?_
      refine w_t (pc := 13) (e_s := (1, 2, 5, 0, 0, .null, [])) (y_s := (15, [some (.ref _), some (.int _), some (.int _), some (.long _), none, some (.int _)], [.int _], _)) rfl (u_ rfl) ?_
      exact wrI (pc := 15) (len_s := 1) rfl hk t
/-- ColdShodModel.put(IIJ)I, from 0 on -/
theorem sg_233_0 {F : Nat} {x1 : Int32} {x2 : Int32} {y3 : Int64} {h : zH} {K : Int32 → zH → Prop} (hk : hKn h) (t : (x1.toInt < 0 → K (-1) h) ∧ (¬ x1.toInt < 0 → ((5 < x1.toInt → K (-1) h) ∧ (¬ 5 < x1.toInt → (zix x1 < 6 → ((h.2.1 124 (zix x1)).toInt < 0 → K (-11) h) ∧ (¬ (h.2.1 124 (zix x1)).toInt < 0 → (((h.2.1 124 (zix x1)).toInt < 50 → K (-12) h) ∧ (¬ (h.2.1 124 (zix x1)).toInt < 50 → ((x2.toInt < 0 → K (-13) h) ∧ (¬ x2.toInt < 0 → ((x2.toInt < (h.2.1 125 (zix x1)).toInt → ((((h.2.1 124 (zix x1)) - 50).toInt = 0 → (zix ((60 * x1) + x2) < 360 → K 1 (h.1, h.2.1, zup h.2.2.1 126 (zix ((60 * x1) + x2)) y3.toInt32.toInt8.toInt32.toInt64, h.2.2.2))) ∧ (¬ ((h.2.1 124 (zix x1)) - 50).toInt = 0 → ((((h.2.1 124 (zix x1)) - 50).toInt = 1 → (zix ((60 * x1) + x2) < 360 → K 1 (h.1, h.2.1, zup h.2.2.1 126 (zix ((60 * x1) + x2)) y3.toInt32.toInt16.toInt32.toInt64, h.2.2.2))) ∧ (¬ ((h.2.1 124 (zix x1)) - 50).toInt = 1 → ((((h.2.1 124 (zix x1)) - 50).toInt = 2 → (zix ((60 * x1) + x2) < 360 → K 1 (h.1, h.2.1, zup h.2.2.1 126 (zix ((60 * x1) + x2)) y3.toInt32.toInt64, h.2.2.2))) ∧ (¬ ((h.2.1 124 (zix x1)) - 50).toInt = 2 → ((((h.2.1 124 (zix x1)) - 50).toInt = 4 → ((y3.toInt = 0 → (zix ((60 * x1) + x2) < 360 → K 1 (h.1, h.2.1, zup h.2.2.1 126 (zix ((60 * x1) + x2)) 0, h.2.2.2))) ∧ (¬ y3.toInt = 0 → (zix ((60 * x1) + x2) < 360 → K 1 (h.1, h.2.1, zup h.2.2.1 126 (zix ((60 * x1) + x2)) 1, h.2.2.2))))) ∧ (¬ ((h.2.1 124 (zix x1)) - 50).toInt = 4 → (zix ((60 * x1) + x2) < 360 → K 1 (h.1, h.2.1, zup h.2.2.1 126 (zix ((60 * x1) + x2)) y3, h.2.2.2))))))))))) ∧ (¬ x2.toInt < (h.2.1 125 (zix x1)).toInt → K (-13) h)))))))))))) : wF (F + 1) 233 (0, [some (.ref 102), some (.int x1), some (.int x2), some (.long y3), none, none], [], h) (gI K) := by
  refine w_0 (pc := 0) (e_s := (3, 1, 0, 0, 0, .null, [])) (y_s := (1, [some (.ref _), some (.int _), some (.int _), some (.long _), none, none], [.ref _], _)) rfl (u_ rfl) ?_
  refine w_t (pc := 1) (e_s := (1, 1, 1, 0, 0, .null, [])) (y_s := (2, [some (.ref _), some (.int _), some (.int _), some (.long _), none, none], [.int _, .ref _], _)) rfl (u_ rfl) ?_
  refine w_t (pc := 2) (e_s := (1, 1, 2, 0, 0, .null, [])) (y_s := (3, [some (.ref _), some (.int _), some (.int _), some (.long _), none, none], [.int _, .int _, .ref _], _)) rfl (u_ rfl) ?_
  refine wcI (pc := 3) (len_s := 3) rfl rfl (l := [some (.ref _), some (.int _), some (.int _)]) rfl ?_
  refine w_t (pc := 0) (e_s := (1, 1, 1, 0, 0, .null, [])) (y_s := (1, [some (.ref _), some (.int _), some (.int _)], [.int _], _)) rfl (u_ rfl) ?_
  refine wcI (pc := 1) (len_s := 3) rfl rfl (l := [some (.int _)]) rfl ?_
  refine w_t (pc := 0) (e_s := (1, 1, 0, 0, 0, .null, [])) (y_s := (1, [some (.int _)], [.int _], _)) rfl (u_ rfl) ?_
  refine w_t (pc := 1) (e_s := (10, 1, 0, 0, 0, .null, [])) (y_s := (2, [some (.int _)], [.long (Int32.toInt64 _)], _)) rfl (u_ rfl) ?_
  refine w_t (pc := 2) (e_s := (0, 1, 0, 0, 0, .long 0, [])) (y_s := (3, [some (.int _)], [.long _, .long _], _)) rfl (u_ rfl) ?_
  refine w_t (pc := 3) (e_s := (0, 3, 0, 0, 0, .long 5, [(0, 1063)])) (y_s := (6, [some (.int _)], [.long _, .long _, .long _], _)) rfl (u_ rfl) ?_
  refine wcI (pc := 6) (len_s := 3) rfl rfl (l := [some (.long _), none, some (.long _), none, some (.long _), none]) rfl ?_
  refine w_t (pc := 0) (e_s := (2, 1, 0, 0, 0, .null, [])) (y_s := (1, [some (.long _), none, some (.long _), none, some (.long _), none], [.long _], _)) rfl (u_ rfl) ?_
  refine w_t (pc := 1) (e_s := (2, 1, 2, 0, 0, .null, [])) (y_s := (2, [some (.long _), none, some (.long _), none, some (.long _), none], [.long _, .long _], _)) rfl (u_ rfl) ?_
  refine w_t (pc := 2) (e_s := (14, 1, 0, 0, 0, .null, [])) (y_s := (3, [some (.long _), none, some (.long _), none, some (.long _), none], [.int (lg_cmp _ _)], _)) rfl (u_ rfl) ?_
  refine wl2 (pc := 3) (len_s := 3) (Y := 0) rfl (Int32.toInt_toInt64 _) (by decide) (fun c1 => ?_) (fun c1 => ?_)
  · replace t := t.1 c1
    refine w_t (pc := 17) (e_s := (0, 1, 0, 0, 0, .int 0, [])) (y_s := (18, [some (.long _), none, some (.long _), none, some (.long _), none], [.int _], _)) rfl (u_ rfl) ?_
    refine wrI (pc := 18) (len_s := 1) rfl hk ?_
    show wF _ 228 (9, [some (.int _)], [.int _], _) _
    refine wrI (pc := 9) (len_s := 1) rfl hk ?_
    show wF _ 231 (4, [some (.ref _), some (.int _), some (.int _)], [.int _], _) _
    refine w_t (pc := 4) (e_s := (15, 3, 9, 1, 0, .null, [])) (y_s := (7, [some (.ref _), some (.int _), some (.int _)], [], _)) rfl (u_ rfl) ?_
    refine w_t (pc := 7) (e_s := (0, 1, 0, 0, 0, .int (-1), [])) (y_s := (8, [some (.ref _), some (.int _), some (.int _)], [.int _], _)) rfl (u_ rfl) ?_
    refine wrI (pc := 8) (len_s := 1) rfl hk ?_
    show wF _ 233 (6, [some (.ref _), some (.int _), some (.int _), some (.long _), none, none], [.int _], _) _
    refine w_t (pc := 6) (e_s := (4, 2, 5, 0, 0, .null, [])) (y_s := (8, [some (.ref _), some (.int _), some (.int _), some (.long _), none, some (.int _)], [], _)) rfl (u_ rfl) ?_
    refine w_t (pc := 8) (e_s := (1, 2, 5, 0, 0, .null, [])) (y_s := (10, [some (.ref _), some (.int _), some (.int _), some (.long _), none, some (.int _)], [.int _], _)) rfl (u_ rfl) ?_
    refine w_t (pc := 10) (e_s := (15, 3, 37, 1, 0, .null, [])) (y_s := (37, [some (.ref _), some (.int _), some (.int _), some (.long _), none, some (.int _)], [], _)) rfl (u_ rfl) ?_
    refine w_t (pc := 37) (e_s := (1, 2, 5, 0, 0, .null, [])) (y_s := (39, [some (.ref _), some (.int _), some (.int _), some (.long _), none, some (.int _)], [.int _], _)) rfl (u_ rfl) ?_
    refine w_t (pc := 39) (e_s := (15, 3, 46, 1, 0, .null, [])) (y_s := (46, [some (.ref _), some (.int _), some (.int _), some (.long _), none, some (.int _)], [], _)) rfl (u_ rfl) ?_
    refine w_t (pc := 46) (e_s := (1, 2, 5, 0, 0, .null, [])) (y_s := (48, [some (.ref _), some (.int _), some (.int _), some (.long _), none, some (.int _)], [.int _], _)) rfl (u_ rfl) ?_
    exact wrI (pc := 48) (len_s := 1) rfl hk t
  · replace t := t.2 c1
    refine w_t (pc := 6) (e_s := (2, 1, 0, 0, 0, .null, [])) (y_s := (7, [some (.long _), none, some (.long _), none, some (.long _), none], [.long _], _)) rfl (u_ rfl) ?_
    refine w_t (pc := 7) (e_s := (2, 2, 4, 0, 0, .null, [])) (y_s := (9, [some (.long _), none, some (.long _), none, some (.long _), none], [.long _, .long _], _)) rfl (u_ rfl) ?_
    refine w_t (pc := 9) (e_s := (14, 1, 0, 0, 0, .null, [])) (y_s := (10, [some (.long _), none, some (.long _), none, some (.long _), none], [.int (lg_cmp _ _)], _)) rfl (u_ rfl) ?_
    refine wl4 (pc := 10) (len_s := 3) (Y := 5) rfl (Int32.toInt_toInt64 _) (by decide) (fun c2 => ?_) (fun c2 => ?_)
    · replace t := t.1 c2
      refine w_t (pc := 17) (e_s := (0, 1, 0, 0, 0, .int 0, [])) (y_s := (18, [some (.long _), none, some (.long _), none, some (.long _), none], [.int _], _)) rfl (u_ rfl) ?_
      refine wrI (pc := 18) (len_s := 1) rfl hk ?_
      show wF _ 228 (9, [some (.int _)], [.int _], _) _
      refine wrI (pc := 9) (len_s := 1) rfl hk ?_
      show wF _ 231 (4, [some (.ref _), some (.int _), some (.int _)], [.int _], _) _
      refine w_t (pc := 4) (e_s := (15, 3, 9, 1, 0, .null, [])) (y_s := (7, [some (.ref _), some (.int _), some (.int _)], [], _)) rfl (u_ rfl) ?_
      refine w_t (pc := 7) (e_s := (0, 1, 0, 0, 0, .int (-1), [])) (y_s := (8, [some (.ref _), some (.int _), some (.int _)], [.int _], _)) rfl (u_ rfl) ?_
      refine wrI (pc := 8) (len_s := 1) rfl hk ?_
      show wF _ 233 (6, [some (.ref _), some (.int _), some (.int _), some (.long _), none, none], [.int _], _) _
      refine w_t (pc := 6) (e_s := (4, 2, 5, 0, 0, .null, [])) (y_s := (8, [some (.ref _), some (.int _), some (.int _), some (.long _), none, some (.int _)], [], _)) rfl (u_ rfl) ?_
      refine w_t (pc := 8) (e_s := (1, 2, 5, 0, 0, .null, [])) (y_s := (10, [some (.ref _), some (.int _), some (.int _), some (.long _), none, some (.int _)], [.int _], _)) rfl (u_ rfl) ?_
      refine w_t (pc := 10) (e_s := (15, 3, 37, 1, 0, .null, [])) (y_s := (37, [some (.ref _), some (.int _), some (.int _), some (.long _), none, some (.int _)], [], _)) rfl (u_ rfl) ?_
      refine w_t (pc := 37) (e_s := (1, 2, 5, 0, 0, .null, [])) (y_s := (39, [some (.ref _), some (.int _), some (.int _), some (.long _), none, some (.int _)], [.int _], _)) rfl (u_ rfl) ?_
      refine w_t (pc := 39) (e_s := (15, 3, 46, 1, 0, .null, [])) (y_s := (46, [some (.ref _), some (.int _), some (.int _), some (.long _), none, some (.int _)], [], _)) rfl (u_ rfl) ?_
      refine w_t (pc := 46) (e_s := (1, 2, 5, 0, 0, .null, [])) (y_s := (48, [some (.ref _), some (.int _), some (.int _), some (.long _), none, some (.int _)], [.int _], _)) rfl (u_ rfl) ?_
      exact wrI (pc := 48) (len_s := 1) rfl hk t
    · replace t := t.2 c2
      refine w_t (pc := 13) (e_s := (0, 1, 0, 0, 0, .int 1, [])) (y_s := (14, [some (.long _), none, some (.long _), none, some (.long _), none], [.int _], _)) rfl (u_ rfl) ?_
      refine w_t (pc := 14) (e_s := (17, 3, 18, 0, 0, .null, [])) (y_s := (18, [some (.long _), none, some (.long _), none, some (.long _), none], [.int _], _)) rfl (u_ rfl) ?_
      refine wrI (pc := 18) (len_s := 1) rfl hk ?_
      show wF _ 228 (9, [some (.int _)], [.int _], _) _
      refine wrI (pc := 9) (len_s := 1) rfl hk ?_
      show wF _ 231 (4, [some (.ref _), some (.int _), some (.int _)], [.int _], _) _
      refine w_t (pc := 4) (e_s := (15, 3, 9, 1, 0, .null, [])) (y_s := (9, [some (.ref _), some (.int _), some (.int _)], [], _)) rfl (u_ rfl) ?_
      refine w_t (pc := 9) (e_s := (3, 1, 0, 0, 0, .null, [])) (y_s := (10, [some (.ref _), some (.int _), some (.int _)], [.ref _], _)) rfl (u_ rfl) ?_
      refine w20r (pc := 10) (len_s := 3) (q_s := 124) rfl (krq hk rfl) ?_
      refine w_t (pc := 13) (e_s := (1, 1, 1, 0, 0, .null, [])) (y_s := (14, [some (.ref _), some (.int _), some (.int _)], [.int _, .ref _], _)) rfl (u_ rfl) ?_
      refine w22 (pc := 14) (len_s := 1) rfl (hk.1 124 0 6 rfl rfl) (fun c3 => ?_)
      replace t := t c3
      refine wq3 (pc := 15) (len_s := 3) rfl rfl (fun c4 => ?_) (fun c4 => ?_)
      · replace t := t.1 c4
        refine w_t (pc := 18) (e_s := (0, 2, 0, 0, 0, .int (-11), [])) (y_s := (20, [some (.ref _), some (.int _), some (.int _)], [.int _], _)) rfl (u_ rfl) ?_
        refine wrI (pc := 20) (len_s := 1) rfl hk ?_
        show wF _ 233 (6, [some (.ref _), some (.int _), some (.int _), some (.long _), none, none], [.int _], _) _
        refine w_t (pc := 6) (e_s := (4, 2, 5, 0, 0, .null, [])) (y_s := (8, [some (.ref _), some (.int _), some (.int _), some (.long _), none, some (.int _)], [], _)) rfl (u_ rfl) ?_
        refine w_t (pc := 8) (e_s := (1, 2, 5, 0, 0, .null, [])) (y_s := (10, [some (.ref _), some (.int _), some (.int _), some (.long _), none, some (.int _)], [.int _], _)) rfl (u_ rfl) ?_
        refine w_t (pc := 10) (e_s := (15, 3, 37, 1, 0, .null, [])) (y_s := (37, [some (.ref _), some (.int _), some (.int _), some (.long _), none, some (.int _)], [], _)) rfl (u_ rfl) ?_
        refine w_t (pc := 37) (e_s := (1, 2, 5, 0, 0, .null, [])) (y_s := (39, [some (.ref _), some (.int _), some (.int _), some (.long _), none, some (.int _)], [.int _], _)) rfl (u_ rfl) ?_
        refine w_t (pc := 39) (e_s := (15, 3, 46, 1, 0, .null, [])) (y_s := (46, [some (.ref _), some (.int _), some (.int _), some (.long _), none, some (.int _)], [], _)) rfl (u_ rfl) ?_
        refine w_t (pc := 46) (e_s := (1, 2, 5, 0, 0, .null, [])) (y_s := (48, [some (.ref _), some (.int _), some (.int _), some (.long _), none, some (.int _)], [.int _], _)) rfl (u_ rfl) ?_
        exact wrI (pc := 48) (len_s := 1) rfl hk t
      · replace t := t.2 c4
        refine w_t (pc := 21) (e_s := (3, 1, 0, 0, 0, .null, [])) (y_s := (22, [some (.ref _), some (.int _), some (.int _)], [.ref _], _)) rfl (u_ rfl) ?_
        refine w20r (pc := 22) (len_s := 3) (q_s := 124) rfl (krq hk rfl) ?_
        refine w_t (pc := 25) (e_s := (1, 1, 1, 0, 0, .null, [])) (y_s := (26, [some (.ref _), some (.int _), some (.int _)], [.int _, .ref _], _)) rfl (u_ rfl) ?_
        refine w22 (pc := 26) (len_s := 1) rfl (hk.1 124 0 6 rfl rfl) (fun c5 => ?_)
        refine w_t (pc := 27) (e_s := (0, 2, 0, 0, 0, .int 50, [])) (y_s := (29, [some (.ref _), some (.int _), some (.int _)], [.int _, .int _], _)) rfl (u_ rfl) ?_
        refine wi3 (pc := 29) (len_s := 3) (Y := 50) rfl rfl (by decide) (fun c6 => ?_) (fun c6 => ?_)
        · replace t := t.1 c6
          refine w_t (pc := 32) (e_s := (0, 2, 0, 0, 0, .int (-12), [])) (y_s := (34, [some (.ref _), some (.int _), some (.int _)], [.int _], _)) rfl (u_ rfl) ?_
          refine wrI (pc := 34) (len_s := 1) rfl hk ?_
          show wF _ 233 (6, [some (.ref _), some (.int _), some (.int _), some (.long _), none, none], [.int _], _) _
          refine w_t (pc := 6) (e_s := (4, 2, 5, 0, 0, .null, [])) (y_s := (8, [some (.ref _), some (.int _), some (.int _), some (.long _), none, some (.int _)], [], _)) rfl (u_ rfl) ?_
          refine w_t (pc := 8) (e_s := (1, 2, 5, 0, 0, .null, [])) (y_s := (10, [some (.ref _), some (.int _), some (.int _), some (.long _), none, some (.int _)], [.int _], _)) rfl (u_ rfl) ?_
          refine w_t (pc := 10) (e_s := (15, 3, 37, 1, 0, .null, [])) (y_s := (37, [some (.ref _), some (.int _), some (.int _), some (.long _), none, some (.int _)], [], _)) rfl (u_ rfl) ?_
          refine w_t (pc := 37) (e_s := (1, 2, 5, 0, 0, .null, [])) (y_s := (39, [some (.ref _), some (.int _), some (.int _), some (.long _), none, some (.int _)], [.int _], _)) rfl (u_ rfl) ?_
          refine w_t (pc := 39) (e_s := (15, 3, 46, 1, 0, .null, [])) (y_s := (46, [some (.ref _), some (.int _), some (.int _), some (.long _), none, some (.int _)], [], _)) rfl (u_ rfl) ?_
          refine w_t (pc := 46) (e_s := (1, 2, 5, 0, 0, .null, [])) (y_s := (48, [some (.ref _), some (.int _), some (.int _), some (.long _), none, some (.int _)], [.int _], _)) rfl (u_ rfl) ?_
          exact wrI (pc := 48) (len_s := 1) rfl hk t
        · replace t := t.2 c6
          refine w_t (pc := 35) (e_s := (1, 1, 2, 0, 0, .null, [])) (y_s := (36, [some (.ref _), some (.int _), some (.int _)], [.int _], _)) rfl (u_ rfl) ?_
          refine wq2 (pc := 36) (len_s := 3) rfl rfl (fun c7 => ?_) (fun c7 => ?_)
          · replace t := t.1 c7
            refine w_t (pc := 53) (e_s := (0, 2, 0, 0, 0, .int (-13), [])) (y_s := (55, [some (.ref _), some (.int _), some (.int _)], [.int _], _)) rfl (u_ rfl) ?_
            refine wrI (pc := 55) (len_s := 1) rfl hk ?_
            show wF _ 233 (6, [some (.ref _), some (.int _), some (.int _), some (.long _), none, none], [.int _], _) _
            refine w_t (pc := 6) (e_s := (4, 2, 5, 0, 0, .null, [])) (y_s := (8, [some (.ref _), some (.int _), some (.int _), some (.long _), none, some (.int _)], [], _)) rfl (u_ rfl) ?_
            refine w_t (pc := 8) (e_s := (1, 2, 5, 0, 0, .null, [])) (y_s := (10, [some (.ref _), some (.int _), some (.int _), some (.long _), none, some (.int _)], [.int _], _)) rfl (u_ rfl) ?_
            refine w_t (pc := 10) (e_s := (15, 3, 37, 1, 0, .null, [])) (y_s := (37, [some (.ref _), some (.int _), some (.int _), some (.long _), none, some (.int _)], [], _)) rfl (u_ rfl) ?_
            refine w_t (pc := 37) (e_s := (1, 2, 5, 0, 0, .null, [])) (y_s := (39, [some (.ref _), some (.int _), some (.int _), some (.long _), none, some (.int _)], [.int _], _)) rfl (u_ rfl) ?_
            refine w_t (pc := 39) (e_s := (15, 3, 46, 1, 0, .null, [])) (y_s := (46, [some (.ref _), some (.int _), some (.int _), some (.long _), none, some (.int _)], [], _)) rfl (u_ rfl) ?_
            refine w_t (pc := 46) (e_s := (1, 2, 5, 0, 0, .null, [])) (y_s := (48, [some (.ref _), some (.int _), some (.int _), some (.long _), none, some (.int _)], [.int _], _)) rfl (u_ rfl) ?_
            exact wrI (pc := 48) (len_s := 1) rfl hk t
          · replace t := t.2 c7
            refine w_t (pc := 39) (e_s := (1, 1, 2, 0, 0, .null, [])) (y_s := (40, [some (.ref _), some (.int _), some (.int _)], [.int _], _)) rfl (u_ rfl) ?_
            refine w_t (pc := 40) (e_s := (3, 1, 0, 0, 0, .null, [])) (y_s := (41, [some (.ref _), some (.int _), some (.int _)], [.ref _, .int _], _)) rfl (u_ rfl) ?_
            refine w20r (pc := 41) (len_s := 3) (q_s := 125) rfl (krq hk rfl) ?_
            refine w_t (pc := 44) (e_s := (1, 1, 1, 0, 0, .null, [])) (y_s := (45, [some (.ref _), some (.int _), some (.int _)], [.int _, .ref _, .int _], _)) rfl (u_ rfl) ?_
            refine w22 (pc := 45) (len_s := 1) rfl (hk.1 125 0 6 rfl rfl) (fun c8 => ?_)
            refine wi3 (pc := 46) (len_s := 3) rfl rfl rfl (fun c9 => ?_) (fun c9 => ?_)
            · replace t := t.1 c9
              refine w_t (pc := 49) (e_s := (0, 1, 0, 0, 0, .int 0, [])) (y_s := (50, [some (.ref _), some (.int _), some (.int _)], [.int _], _)) rfl (u_ rfl) ?_
              refine w_t (pc := 50) (e_s := (17, 3, 55, 0, 0, .null, [])) (y_s := (55, [some (.ref _), some (.int _), some (.int _)], [.int _], _)) rfl (u_ rfl) ?_
              refine wrI (pc := 55) (len_s := 1) rfl hk ?_
              show wF _ 233 (6, [some (.ref _), some (.int _), some (.int _), some (.long _), none, none], [.int _], _) _
              refine w_t (pc := 6) (e_s := (4, 2, 5, 0, 0, .null, [])) (y_s := (8, [some (.ref _), some (.int _), some (.int _), some (.long _), none, some (.int _)], [], _)) rfl (u_ rfl) ?_
              refine w_t (pc := 8) (e_s := (1, 2, 5, 0, 0, .null, [])) (y_s := (10, [some (.ref _), some (.int _), some (.int _), some (.long _), none, some (.int _)], [.int _], _)) rfl (u_ rfl) ?_
              refine w_t (pc := 10) (e_s := (15, 3, 37, 1, 0, .null, [])) (y_s := (13, [some (.ref _), some (.int _), some (.int _), some (.long _), none, some (.int _)], [], _)) rfl (u_ rfl) ?_
              refine w_t (pc := 13) (e_s := (3, 1, 0, 0, 0, .null, [])) (y_s := (14, [some (.ref _), some (.int _), some (.int _), some (.long _), none, some (.int _)], [.ref _], _)) rfl (u_ rfl) ?_
              refine w20r (pc := 14) (len_s := 3) (q_s := 126) rfl (krq hk rfl) ?_
              refine w_t (pc := 17) (e_s := (0, 2, 0, 0, 0, .int 60, [])) (y_s := (19, [some (.ref _), some (.int _), some (.int _), some (.long _), none, some (.int _)], [.int _, .ref _], _)) rfl (u_ rfl) ?_
              refine w_t (pc := 19) (e_s := (1, 1, 1, 0, 0, .null, [])) (y_s := (20, [some (.ref _), some (.int _), some (.int _), some (.long _), none, some (.int _)], [.int _, .int _, .ref _], _)) rfl (u_ rfl) ?_
              refine w_t (pc := 20) (e_s := (7, 1, 0, 2, 0, .null, [])) (y_s := (21, [some (.ref _), some (.int _), some (.int _), some (.long _), none, some (.int _)], [.int (_ * _), .ref _], _)) rfl (u_ rfl) ?_
              refine w_t (pc := 21) (e_s := (1, 1, 2, 0, 0, .null, [])) (y_s := (22, [some (.ref _), some (.int _), some (.int _), some (.long _), none, some (.int _)], [.int _, .int _, .ref _], _)) rfl (u_ rfl) ?_
              refine w_t (pc := 22) (e_s := (7, 1, 0, 0, 0, .null, [])) (y_s := (23, [some (.ref _), some (.int _), some (.int _), some (.long _), none, some (.int _)], [.int (_ + _), .ref _], _)) rfl (u_ rfl) ?_
              refine w_t (pc := 23) (e_s := (3, 1, 0, 0, 0, .null, [])) (y_s := (24, [some (.ref _), some (.int _), some (.int _), some (.long _), none, some (.int _)], [.ref _, .int _, .ref _], _)) rfl (u_ rfl) ?_
              refine w20r (pc := 24) (len_s := 3) (q_s := 124) rfl (krq hk rfl) ?_
              refine w_t (pc := 27) (e_s := (1, 1, 1, 0, 0, .null, [])) (y_s := (28, [some (.ref _), some (.int _), some (.int _), some (.long _), none, some (.int _)], [.int _, .ref _, .int _, .ref _], _)) rfl (u_ rfl) ?_
              refine w22 (pc := 28) (len_s := 1) rfl (hk.1 124 0 6 rfl rfl) (fun c10 => ?_)
              refine w_t (pc := 29) (e_s := (0, 2, 0, 0, 0, .int 50, [])) (y_s := (31, [some (.ref _), some (.int _), some (.int _), some (.long _), none, some (.int _)], [.int _, .int _, .int _, .ref _], _)) rfl (u_ rfl) ?_
              refine w_t (pc := 31) (e_s := (7, 1, 0, 1, 0, .null, [])) (y_s := (32, [some (.ref _), some (.int _), some (.int _), some (.long _), none, some (.int _)], [.int (_ - _), .int _, .ref _], _)) rfl (u_ rfl) ?_
              refine w_t (pc := 32) (e_s := (2, 1, 3, 0, 0, .null, [])) (y_s := (33, [some (.ref _), some (.int _), some (.int _), some (.long _), none, some (.int _)], [.long _, .int _, .int _, .ref _], _)) rfl (u_ rfl) ?_
              refine wcJ (pc := 33) (len_s := 3) rfl rfl (l := [some (.int _), some (.long _), none]) rfl ?_
              refine w_t (pc := 0) (e_s := (1, 1, 0, 0, 0, .null, [])) (y_s := (1, [some (.int _), some (.long _), none], [.int _], _)) rfl (u_ rfl) ?_
              refine wq1 (pc := 1) (len_s := 3) rfl rfl (fun c11 => ?_) (fun c11 => ?_)
              · replace t := t.1 c11
                refine w_t (pc := 4) (e_s := (2, 1, 1, 0, 0, .null, [])) (y_s := (5, [some (.int _), some (.long _), none], [.long _], _)) rfl (u_ rfl) ?_
                refine w_t (pc := 5) (e_s := (11, 1, 0, 0, 0, .null, [])) (y_s := (6, [some (.int _), some (.long _), none], [.int (Int64.toInt32 _)], _)) rfl (u_ rfl) ?_
                refine w_t (pc := 6) (e_s := (9, 1, 0, 1, 0, .null, [])) (y_s := (7, [some (.int _), some (.long _), none], [.int (Int8.toInt32 _)], _)) rfl (u_ rfl) ?_
                refine w_t (pc := 7) (e_s := (10, 1, 0, 0, 0, .null, [])) (y_s := (8, [some (.int _), some (.long _), none], [.long (Int32.toInt64 _)], _)) rfl (u_ rfl) ?_
                refine w_t (pc := 8) (e_s := (17, 3, 54, 0, 0, .null, [])) (y_s := (54, [some (.int _), some (.long _), none], [.long _], _)) rfl (u_ rfl) ?_
                refine wrJ (pc := 54) (len_s := 1) rfl hk ?_
                show wF _ 233 (36, [some (.ref _), some (.int _), some (.int _), some (.long _), none, some (.int _)], [.long _, .int _, .ref _], _) _
                refine w26 (pc := 36) (len_s := 1) rfl (hk.1 126 1 360 rfl rfl) (fun c12 => ?_)
                replace t := t c12
                refine w_t (pc := 37) (e_s := (1, 2, 5, 0, 0, .null, [])) (y_s := (39, [some (.ref _), some (.int _), some (.int _), some (.long _), none, some (.int _)], [.int _], _)) rfl (u_ rfl) ?_
                refine w_t (pc := 39) (e_s := (15, 3, 46, 1, 0, .null, [])) (y_s := (42, [some (.ref _), some (.int _), some (.int _), some (.long _), none, some (.int _)], [], _)) rfl (u_ rfl) ?_
                refine w_t (pc := 42) (e_s := (0, 1, 0, 0, 0, .int 1, [])) (y_s := (43, [some (.ref _), some (.int _), some (.int _), some (.long _), none, some (.int _)], [.int _], _)) rfl (u_ rfl) ?_
                refine w_t (pc := 43) (e_s := (17, 3, 48, 0, 0, .null, [])) (y_s := (48, [some (.ref _), some (.int _), some (.int _), some (.long _), none, some (.int _)], [.int _], _)) rfl (u_ rfl) ?_
                exact wrI (pc := 48) (len_s := 1) rfl hk t
              · replace t := t.2 c11
                refine w_t (pc := 11) (e_s := (1, 1, 0, 0, 0, .null, [])) (y_s := (12, [some (.int _), some (.long _), none], [.int _], _)) rfl (u_ rfl) ?_
                refine w_t (pc := 12) (e_s := (0, 1, 0, 0, 0, .int 1, [])) (y_s := (13, [some (.int _), some (.long _), none], [.int _, .int _], _)) rfl (u_ rfl) ?_
                refine wi1 (pc := 13) (len_s := 3) (Y := 1) rfl rfl (by decide) (fun c13 => ?_) (fun c13 => ?_)
                · replace t := t.1 c13
                  refine w_t (pc := 16) (e_s := (2, 1, 1, 0, 0, .null, [])) (y_s := (17, [some (.int _), some (.long _), none], [.long _], _)) rfl (u_ rfl) ?_
                  refine w_t (pc := 17) (e_s := (11, 1, 0, 0, 0, .null, [])) (y_s := (18, [some (.int _), some (.long _), none], [.int (Int64.toInt32 _)], _)) rfl (u_ rfl) ?_
                  refine w_t (pc := 18) (e_s := (9, 1, 0, 2, 0, .null, [])) (y_s := (19, [some (.int _), some (.long _), none], [.int (Int16.toInt32 _)], _)) rfl (u_ rfl) ?_
                  refine w_t (pc := 19) (e_s := (10, 1, 0, 0, 0, .null, [])) (y_s := (20, [some (.int _), some (.long _), none], [.long (Int32.toInt64 _)], _)) rfl (u_ rfl) ?_
                  refine w_t (pc := 20) (e_s := (17, 3, 54, 0, 0, .null, [])) (y_s := (54, [some (.int _), some (.long _), none], [.long _], _)) rfl (u_ rfl) ?_
                  refine wrJ (pc := 54) (len_s := 1) rfl hk ?_
                  show wF _ 233 (36, [some (.ref _), some (.int _), some (.int _), some (.long _), none, some (.int _)], [.long _, .int _, .ref _], _) _
                  refine w26 (pc := 36) (len_s := 1) rfl (hk.1 126 1 360 rfl rfl) (fun c14 => ?_)
                  replace t := t c14
                  refine w_t (pc := 37) (e_s := (1, 2, 5, 0, 0, .null, [])) (y_s := (39, [some (.ref _), some (.int _), some (.int _), some (.long _), none, some (.int _)], [.int _], _)) rfl (u_ rfl) ?_
                  refine w_t (pc := 39) (e_s := (15, 3, 46, 1, 0, .null, [])) (y_s := (42, [some (.ref _), some (.int _), some (.int _), some (.long _), none, some (.int _)], [], _)) rfl (u_ rfl) ?_
                  refine w_t (pc := 42) (e_s := (0, 1, 0, 0, 0, .int 1, [])) (y_s := (43, [some (.ref _), some (.int _), some (.int _), some (.long _), none, some (.int _)], [.int _], _)) rfl (u_ rfl) ?_
                  refine w_t (pc := 43) (e_s := (17, 3, 48, 0, 0, .null, [])) (y_s := (48, [some (.ref _), some (.int _), some (.int _), some (.long _), none, some (.int _)], [.int _], _)) rfl (u_ rfl) ?_
                  exact wrI (pc := 48) (len_s := 1) rfl hk t
                · replace t := t.2 c13
                  refine w_t (pc := 23) (e_s := (1, 1, 0, 0, 0, .null, [])) (y_s := (24, [some (.int _), some (.long _), none], [.int _], _)) rfl (u_ rfl) ?_
                  refine w_t (pc := 24) (e_s := (0, 1, 0, 0, 0, .int 2, [])) (y_s := (25, [some (.int _), some (.long _), none], [.int _, .int _], _)) rfl (u_ rfl) ?_
                  refine wi1 (pc := 25) (len_s := 3) (Y := 2) rfl rfl (by decide) (fun c15 => ?_) (fun c15 => ?_)
                  · replace t := t.1 c15
                    refine w_t (pc := 28) (e_s := (2, 1, 1, 0, 0, .null, [])) (y_s := (29, [some (.int _), some (.long _), none], [.long _], _)) rfl (u_ rfl) ?_
                    refine w_t (pc := 29) (e_s := (11, 1, 0, 0, 0, .null, [])) (y_s := (30, [some (.int _), some (.long _), none], [.int (Int64.toInt32 _)], _)) rfl (u_ rfl) ?_
                    refine w_t (pc := 30) (e_s := (10, 1, 0, 0, 0, .null, [])) (y_s := (31, [some (.int _), some (.long _), none], [.long (Int32.toInt64 _)], _)) rfl (u_ rfl) ?_
                    refine w_t (pc := 31) (e_s := (17, 3, 54, 0, 0, .null, [])) (y_s := (54, [some (.int _), some (.long _), none], [.long _], _)) rfl (u_ rfl) ?_
                    refine wrJ (pc := 54) (len_s := 1) rfl hk ?_
                    show wF _ 233 (36, [some (.ref _), some (.int _), some (.int _), some (.long _), none, some (.int _)], [.long _, .int _, .ref _], _) _
                    refine w26 (pc := 36) (len_s := 1) rfl (hk.1 126 1 360 rfl rfl) (fun c16 => ?_)
                    replace t := t c16
                    refine w_t (pc := 37) (e_s := (1, 2, 5, 0, 0, .null, [])) (y_s := (39, [some (.ref _), some (.int _), some (.int _), some (.long _), none, some (.int _)], [.int _], _)) rfl (u_ rfl) ?_
                    refine w_t (pc := 39) (e_s := (15, 3, 46, 1, 0, .null, [])) (y_s := (42, [some (.ref _), some (.int _), some (.int _), some (.long _), none, some (.int _)], [], _)) rfl (u_ rfl) ?_
                    refine w_t (pc := 42) (e_s := (0, 1, 0, 0, 0, .int 1, [])) (y_s := (43, [some (.ref _), some (.int _), some (.int _), some (.long _), none, some (.int _)], [.int _], _)) rfl (u_ rfl) ?_
                    refine w_t (pc := 43) (e_s := (17, 3, 48, 0, 0, .null, [])) (y_s := (48, [some (.ref _), some (.int _), some (.int _), some (.long _), none, some (.int _)], [.int _], _)) rfl (u_ rfl) ?_
                    exact wrI (pc := 48) (len_s := 1) rfl hk t
                  · replace t := t.2 c15
                    refine w_t (pc := 34) (e_s := (1, 1, 0, 0, 0, .null, [])) (y_s := (35, [some (.int _), some (.long _), none], [.int _], _)) rfl (u_ rfl) ?_
                    refine w_t (pc := 35) (e_s := (0, 1, 0, 0, 0, .int 4, [])) (y_s := (36, [some (.int _), some (.long _), none], [.int _, .int _], _)) rfl (u_ rfl) ?_
                    refine wi1 (pc := 36) (len_s := 3) (Y := 4) rfl rfl (by decide) (fun c17 => ?_) (fun c17 => ?_)
                    · replace t := t.1 c17
                      refine w_t (pc := 39) (e_s := (2, 1, 1, 0, 0, .null, [])) (y_s := (40, [some (.int _), some (.long _), none], [.long _], _)) rfl (u_ rfl) ?_
                      refine w_t (pc := 40) (e_s := (0, 1, 0, 0, 0, .long 0, [])) (y_s := (41, [some (.int _), some (.long _), none], [.long _, .long _], _)) rfl (u_ rfl) ?_
                      refine w_t (pc := 41) (e_s := (14, 1, 0, 0, 0, .null, [])) (y_s := (42, [some (.int _), some (.long _), none], [.int (lg_cmp _ _)], _)) rfl (u_ rfl) ?_
                      refine wl0 (pc := 42) (len_s := 3) (Y := 0) rfl rfl (by decide) (fun c18 => ?_) (fun c18 => ?_)
                      · replace t := t.1 c18
                        refine w_t (pc := 49) (e_s := (0, 1, 0, 0, 0, .long 0, [])) (y_s := (50, [some (.int _), some (.long _), none], [.long _], _)) rfl (u_ rfl) ?_
                        refine w_t (pc := 50) (e_s := (17, 3, 54, 0, 0, .null, [])) (y_s := (54, [some (.int _), some (.long _), none], [.long _], _)) rfl (u_ rfl) ?_
                        refine wrJ (pc := 54) (len_s := 1) rfl hk ?_
                        show wF _ 233 (36, [some (.ref _), some (.int _), some (.int _), some (.long _), none, some (.int _)], [.long _, .int _, .ref _], _) _
                        refine w26 (pc := 36) (len_s := 1) rfl (hk.1 126 1 360 rfl rfl) (fun c19 => ?_)
                        replace t := t c19
                        refine w_t (pc := 37) (e_s := (1, 2, 5, 0, 0, .null, [])) (y_s := (39, [some (.ref _), some (.int _), some (.int _), some (.long _), none, some (.int _)], [.int _], _)) rfl (u_ rfl) ?_
                        refine w_t (pc := 39) (e_s := (15, 3, 46, 1, 0, .null, [])) (y_s := (42, [some (.ref _), some (.int _), some (.int _), some (.long _), none, some (.int _)], [], _)) rfl (u_ rfl) ?_
                        refine w_t (pc := 42) (e_s := (0, 1, 0, 0, 0, .int 1, [])) (y_s := (43, [some (.ref _), some (.int _), some (.int _), some (.long _), none, some (.int _)], [.int _], _)) rfl (u_ rfl) ?_
                        refine w_t (pc := 43) (e_s := (17, 3, 48, 0, 0, .null, [])) (y_s := (48, [some (.ref _), some (.int _), some (.int _), some (.long _), none, some (.int _)], [.int _], _)) rfl (u_ rfl) ?_
                        exact wrI (pc := 48) (len_s := 1) rfl hk t
                      · replace t := t.2 c18
                        refine w_t (pc := 45) (e_s := (0, 1, 0, 0, 0, .long 1, [])) (y_s := (46, [some (.int _), some (.long _), none], [.long _], _)) rfl (u_ rfl) ?_
                        refine w_t (pc := 46) (e_s := (17, 3, 54, 0, 0, .null, [])) (y_s := (54, [some (.int _), some (.long _), none], [.long _], _)) rfl (u_ rfl) ?_
                        refine wrJ (pc := 54) (len_s := 1) rfl hk ?_
                        show wF _ 233 (36, [some (.ref _), some (.int _), some (.int _), some (.long _), none, some (.int _)], [.long _, .int _, .ref _], _) _
                        refine w26 (pc := 36) (len_s := 1) rfl (hk.1 126 1 360 rfl rfl) (fun c20 => ?_)
                        replace t := t c20
                        refine w_t (pc := 37) (e_s := (1, 2, 5, 0, 0, .null, [])) (y_s := (39, [some (.ref _), some (.int _), some (.int _), some (.long _), none, some (.int _)], [.int _], _)) rfl (u_ rfl) ?_
                        refine w_t (pc := 39) (e_s := (15, 3, 46, 1, 0, .null, [])) (y_s := (42, [some (.ref _), some (.int _), some (.int _), some (.long _), none, some (.int _)], [], _)) rfl (u_ rfl) ?_
                        refine w_t (pc := 42) (e_s := (0, 1, 0, 0, 0, .int 1, [])) (y_s := (43, [some (.ref _), some (.int _), some (.int _), some (.long _), none, some (.int _)], [.int _], _)) rfl (u_ rfl) ?_
                        refine w_t (pc := 43) (e_s := (17, 3, 48, 0, 0, .null, [])) (y_s := (48, [some (.ref _), some (.int _), some (.int _), some (.long _), none, some (.int _)], [.int _], _)) rfl (u_ rfl) ?_
                        exact wrI (pc := 48) (len_s := 1) rfl hk t
                    · replace t := t.2 c17
                      refine w_t (pc := 53) (e_s := (2, 1, 1, 0, 0, .null, [])) (y_s := (54, [some (.int _), some (.long _), none], [.long _], _)) rfl (u_ rfl) ?_
                      refine wrJ (pc := 54) (len_s := 1) rfl hk ?_
                      show wF _ 233 (36, [some (.ref _), some (.int _), some (.int _), some (.long _), none, some (.int _)], [.long _, .int _, .ref _], _) _
                      refine w26 (pc := 36) (len_s := 1) rfl (hk.1 126 1 360 rfl rfl) (fun c21 => ?_)
                      replace t := t c21
                      refine w_t (pc := 37) (e_s := (1, 2, 5, 0, 0, .null, [])) (y_s := (39, [some (.ref _), some (.int _), some (.int _), some (.long _), none, some (.int _)], [.int _], _)) rfl (u_ rfl) ?_
                      refine w_t (pc := 39) (e_s := (15, 3, 46, 1, 0, .null, [])) (y_s := (42, [some (.ref _), some (.int _), some (.int _), some (.long _), none, some (.int _)], [], _)) rfl (u_ rfl) ?_
                      refine w_t (pc := 42) (e_s := (0, 1, 0, 0, 0, .int 1, [])) (y_s := (43, [some (.ref _), some (.int _), some (.int _), some (.long _), none, some (.int _)], [.int _], _)) rfl (u_ rfl) ?_
                      refine w_t (pc := 43) (e_s := (17, 3, 48, 0, 0, .null, [])) (y_s := (48, [some (.ref _), some (.int _), some (.int _), some (.long _), none, some (.int _)], [.int _], _)) rfl (u_ rfl) ?_
                      exact wrI (pc := 48) (len_s := 1) rfl hk t
            · replace t := t.2 c9
              refine w_t (pc := 53) (e_s := (0, 2, 0, 0, 0, .int (-13), [])) (y_s := (55, [some (.ref _), some (.int _), some (.int _)], [.int _], _)) rfl (u_ rfl) ?_
              refine wrI (pc := 55) (len_s := 1) rfl hk ?_
              show wF _ 233 (6, [some (.ref _), some (.int _), some (.int _), some (.long _), none, none], [.int _], _) _
              refine w_t (pc := 6) (e_s := (4, 2, 5, 0, 0, .null, [])) (y_s := (8, [some (.ref _), some (.int _), some (.int _), some (.long _), none, some (.int _)], [], _)) rfl (u_ rfl) ?_
              refine w_t (pc := 8) (e_s := (1, 2, 5, 0, 0, .null, [])) (y_s := (10, [some (.ref _), some (.int _), some (.int _), some (.long _), none, some (.int _)], [.int _], _)) rfl (u_ rfl) ?_
              refine w_t (pc := 10) (e_s := (15, 3, 37, 1, 0, .null, [])) (y_s := (37, [some (.ref _), some (.int _), some (.int _), some (.long _), none, some (.int _)], [], _)) rfl (u_ rfl) ?_
              refine w_t (pc := 37) (e_s := (1, 2, 5, 0, 0, .null, [])) (y_s := (39, [some (.ref _), some (.int _), some (.int _), some (.long _), none, some (.int _)], [.int _], _)) rfl (u_ rfl) ?_
              refine w_t (pc := 39) (e_s := (15, 3, 46, 1, 0, .null, [])) (y_s := (46, [some (.ref _), some (.int _), some (.int _), some (.long _), none, some (.int _)], [], _)) rfl (u_ rfl) ?_
              refine w_t (pc := 46) (e_s := (1, 2, 5, 0, 0, .null, [])) (y_s := (48, [some (.ref _), some (.int _), some (.int _), some (.long _), none, some (.int _)], [.int _], _)) rfl (u_ rfl) ?_
              exact wrI (pc := 48) (len_s := 1) rfl hk t
/-- ColdShod.shift(IIIII)I, from 0 on -/
theorem sg_132_0 {F : Nat} {x1 : Int32} {x2 : Int32} {x3 : Int32} {x4 : Int32} {x5 : Int32} {h : zH} {K : Int32 → zH → Prop} (hk : hKn h) (t : (x1.toInt < 0 → K (-1) h) ∧ (¬ x1.toInt < 0 → ((x1.toInt < 6 → ((x3.toInt < 0 → K (-1) h) ∧ (¬ x3.toInt < 0 → ((x3.toInt < 6 → (zix x1 < 6 → (zix x3 < 6 → ((h.2.1 (76 + 2 * (zix x1)) 0).toInt = 0 → K (-11) h) ∧ (¬ (h.2.1 (76 + 2 * (zix x1)) 0).toInt = 0 → (((h.2.1 (76 + 2 * (zix x3)) 0).toInt = 0 → K (-11) h) ∧ (¬ (h.2.1 (76 + 2 * (zix x3)) 0).toInt = 0 → (((h.2.1 (76 + 2 * (zix x1)) 0).toInt = 2 → (((h.2.1 (76 + 2 * (zix x3)) 0).toInt = 2 → (((h.2.1 (76 + 2 * (zix x1)) 2).toInt = (h.2.1 (76 + 2 * (zix x3)) 2).toInt → ((x5.toInt < 0 → K (-13) h) ∧ (¬ x5.toInt < 0 → ((x2.toInt < 0 → K (-13) h) ∧ (¬ x2.toInt < 0 → (((h.2.1 (76 + 2 * (zix x1)) 3).toInt < x2.toInt → K (-13) h) ∧ (¬ (h.2.1 (76 + 2 * (zix x1)) 3).toInt < x2.toInt → ((((h.2.1 (76 + 2 * (zix x1)) 3) - x2).toInt < x5.toInt → K (-13) h) ∧ (¬ ((h.2.1 (76 + 2 * (zix x1)) 3) - x2).toInt < x5.toInt → ((x4.toInt < 0 → K (-13) h) ∧ (¬ x4.toInt < 0 → (((h.2.1 (76 + 2 * (zix x3)) 3).toInt < x4.toInt → K (-13) h) ∧ (¬ (h.2.1 (76 + 2 * (zix x3)) 3).toInt < x4.toInt → ((((h.2.1 (76 + 2 * (zix x3)) 3) - x4).toInt < x5.toInt → K (-13) h) ∧ (¬ ((h.2.1 (76 + 2 * (zix x3)) 3) - x4).toInt < x5.toInt → (zix x2 + zix x5 ≤ 60 ∧ zix x4 + zix x5 ≤ 60 → K x5 (h.1, h.2.1, zrow h.2.2.1 (76 + 2 * (zix x3) + 1) (zcpy (h.2.2.1 (76 + 2 * (zix x1) + 1)) (h.2.2.1 (76 + 2 * (zix x3) + 1)) (zix x2) (zix x4) (zix x5)), h.2.2.2))))))))))))))))) ∧ (¬ (h.2.1 (76 + 2 * (zix x1)) 2).toInt = (h.2.1 (76 + 2 * (zix x3)) 2).toInt → K (-12) h))) ∧ (¬ (h.2.1 (76 + 2 * (zix x3)) 0).toInt = 2 → K (-12) h))) ∧ (¬ (h.2.1 (76 + 2 * (zix x1)) 0).toInt = 2 → K (-12) h)))))))) ∧ (¬ x3.toInt < 6 → K (-1) h))))) ∧ (¬ x1.toInt < 6 → K (-1) h)))) : wF (F + 1) 132 (0, [some (.ref 6), some (.int x1), some (.int x2), some (.int x3), some (.int x4), some (.int x5), none, none], [], h) (gI K) := by
  refine w_0 (pc := 0) (e_s := (1, 1, 1, 0, 0, .null, [])) (y_s := (1, [some (.ref _), some (.int _), some (.int _), some (.int _), some (.int _), some (.int _), none, none], [.int _], _)) rfl (u_ rfl) ?_
  refine wcI (pc := 1) (len_s := 3) rfl rfl (l := [some (.int _)]) rfl ?_
  refine w_t (pc := 0) (e_s := (1, 1, 0, 0, 0, .null, [])) (y_s := (1, [some (.int _)], [.int _], _)) rfl (u_ rfl) ?_
  refine wq2 (pc := 1) (len_s := 3) rfl rfl (fun c1 => ?_) (fun c1 => ?_)
  · replace t := t.1 c1
    refine w_t (pc := 14) (e_s := (0, 1, 0, 0, 0, .int 0, [])) (y_s := (15, [some (.int _)], [.int _], _)) rfl (u_ rfl) ?_
    refine wrI (pc := 15) (len_s := 1) rfl hk ?_
    show wF _ 132 (4, [some (.ref _), some (.int _), some (.int _), some (.int _), some (.int _), some (.int _), none, none], [.int _], _) _
    refine w_t (pc := 4) (e_s := (15, 3, 14, 0, 0, .null, [])) (y_s := (14, [some (.ref _), some (.int _), some (.int _), some (.int _), some (.int _), some (.int _), none, none], [], _)) rfl (u_ rfl) ?_
    refine w_t (pc := 14) (e_s := (0, 1, 0, 0, 0, .int (-1), [])) (y_s := (15, [some (.ref _), some (.int _), some (.int _), some (.int _), some (.int _), some (.int _), none, none], [.int _], _)) rfl (u_ rfl) ?_
    exact wrI (pc := 15) (len_s := 1) rfl hk t
  · replace t := t.2 c1
    refine w_t (pc := 4) (e_s := (1, 1, 0, 0, 0, .null, [])) (y_s := (5, [some (.int _)], [.int _], _)) rfl (u_ rfl) ?_
    refine w_t (pc := 5) (e_s := (0, 2, 0, 0, 0, .int 6, [])) (y_s := (7, [some (.int _)], [.int _, .int _], _)) rfl (u_ rfl) ?_
    refine wi3 (pc := 7) (len_s := 3) (Y := 6) rfl rfl (by decide) (fun c2 => ?_) (fun c2 => ?_)
    · replace t := t.1 c2
      refine w_t (pc := 10) (e_s := (0, 1, 0, 0, 0, .int 1, [])) (y_s := (11, [some (.int _)], [.int _], _)) rfl (u_ rfl) ?_
      refine w_t (pc := 11) (e_s := (17, 3, 15, 0, 0, .null, [])) (y_s := (15, [some (.int _)], [.int _], _)) rfl (u_ rfl) ?_
      refine wrI (pc := 15) (len_s := 1) rfl hk ?_
      show wF _ 132 (4, [some (.ref _), some (.int _), some (.int _), some (.int _), some (.int _), some (.int _), none, none], [.int _], _) _
      refine w_t (pc := 4) (e_s := (15, 3, 14, 0, 0, .null, [])) (y_s := (7, [some (.ref _), some (.int _), some (.int _), some (.int _), some (.int _), some (.int _), none, none], [], _)) rfl (u_ rfl) ?_
      refine w_t (pc := 7) (e_s := (1, 1, 3, 0, 0, .null, [])) (y_s := (8, [some (.ref _), some (.int _), some (.int _), some (.int _), some (.int _), some (.int _), none, none], [.int _], _)) rfl (u_ rfl) ?_
      refine wcI (pc := 8) (len_s := 3) rfl rfl (l := [some (.int _)]) rfl ?_
      refine w_t (pc := 0) (e_s := (1, 1, 0, 0, 0, .null, [])) (y_s := (1, [some (.int _)], [.int _], _)) rfl (u_ rfl) ?_
      refine wq2 (pc := 1) (len_s := 3) rfl rfl (fun c3 => ?_) (fun c3 => ?_)
      · replace t := t.1 c3
        refine w_t (pc := 14) (e_s := (0, 1, 0, 0, 0, .int 0, [])) (y_s := (15, [some (.int _)], [.int _], _)) rfl (u_ rfl) ?_
        refine wrI (pc := 15) (len_s := 1) rfl hk ?_
        show wF _ 132 (11, [some (.ref _), some (.int _), some (.int _), some (.int _), some (.int _), some (.int _), none, none], [.int _], _) _
        refine w_t (pc := 11) (e_s := (15, 3, 16, 1, 0, .null, [])) (y_s := (14, [some (.ref _), some (.int _), some (.int _), some (.int _), some (.int _), some (.int _), none, none], [], _)) rfl (u_ rfl) ?_
        refine w_t (pc := 14) (e_s := (0, 1, 0, 0, 0, .int (-1), [])) (y_s := (15, [some (.ref _), some (.int _), some (.int _), some (.int _), some (.int _), some (.int _), none, none], [.int _], _)) rfl (u_ rfl) ?_
        exact wrI (pc := 15) (len_s := 1) rfl hk t
      · replace t := t.2 c3
        refine w_t (pc := 4) (e_s := (1, 1, 0, 0, 0, .null, [])) (y_s := (5, [some (.int _)], [.int _], _)) rfl (u_ rfl) ?_
        refine w_t (pc := 5) (e_s := (0, 2, 0, 0, 0, .int 6, [])) (y_s := (7, [some (.int _)], [.int _, .int _], _)) rfl (u_ rfl) ?_
        refine wi3 (pc := 7) (len_s := 3) (Y := 6) rfl rfl (by decide) (fun c4 => ?_) (fun c4 => ?_)
        · replace t := t.1 c4
          refine w_t (pc := 10) (e_s := (0, 1, 0, 0, 0, .int 1, [])) (y_s := (11, [some (.int _)], [.int _], _)) rfl (u_ rfl) ?_
          refine w_t (pc := 11) (e_s := (17, 3, 15, 0, 0, .null, [])) (y_s := (15, [some (.int _)], [.int _], _)) rfl (u_ rfl) ?_
          refine wrI (pc := 15) (len_s := 1) rfl hk ?_
          show wF _ 132 (11, [some (.ref _), some (.int _), some (.int _), some (.int _), some (.int _), some (.int _), none, none], [.int _], _) _
          refine w_t (pc := 11) (e_s := (15, 3, 16, 1, 0, .null, [])) (y_s := (16, [some (.ref _), some (.int _), some (.int _), some (.int _), some (.int _), some (.int _), none, none], [], _)) rfl (u_ rfl) ?_
          refine w_t (pc := 16) (e_s := (3, 1, 0, 0, 0, .null, [])) (y_s := (17, [some (.ref _), some (.int _), some (.int _), some (.int _), some (.int _), some (.int _), none, none], [.ref _], _)) rfl (u_ rfl) ?_
          refine w20r (pc := 17) (len_s := 3) (q_s := 71) rfl (krq hk rfl) ?_
          refine w_t (pc := 20) (e_s := (1, 1, 1, 0, 0, .null, [])) (y_s := (21, [some (.ref _), some (.int _), some (.int _), some (.int _), some (.int _), some (.int _), none, none], [.int _, .ref _], _)) rfl (u_ rfl) ?_
          refine w24 (g_s := fun j_ => 76 + 2 * j_) (pc := 21) (len_s := 1) hk rfl (hk.1 71 4 6 rfl rfl) kg71 (fun c5 => ?_)
          replace t := t c5
          refine w_t (pc := 22) (e_s := (6, 2, 6, 0, 0, .null, [])) (y_s := (24, [some (.ref _), some (.int _), some (.int _), some (.int _), some (.int _), some (.int _), some (.ref _), none], [], _)) rfl (u_ rfl) ?_
          refine w_t (pc := 24) (e_s := (3, 1, 0, 0, 0, .null, [])) (y_s := (25, [some (.ref _), some (.int _), some (.int _), some (.int _), some (.int _), some (.int _), some (.ref _), none], [.ref _], _)) rfl (u_ rfl) ?_
          refine w20r (pc := 25) (len_s := 3) (q_s := 71) rfl (krq hk rfl) ?_
          refine w_t (pc := 28) (e_s := (1, 1, 3, 0, 0, .null, [])) (y_s := (29, [some (.ref _), some (.int _), some (.int _), some (.int _), some (.int _), some (.int _), some (.ref _), none], [.int _, .ref _], _)) rfl (u_ rfl) ?_
          refine w24 (g_s := fun j_ => 76 + 2 * j_) (pc := 29) (len_s := 1) hk rfl (hk.1 71 4 6 rfl rfl) kg71 (fun c6 => ?_)
          replace t := t c6
          refine w_t (pc := 30) (e_s := (6, 2, 7, 0, 0, .null, [])) (y_s := (32, [some (.ref _), some (.int _), some (.int _), some (.int _), some (.int _), some (.int _), some (.ref _), some (.ref _)], [], _)) rfl (u_ rfl) ?_
          refine w_t (pc := 32) (e_s := (3, 2, 6, 0, 0, .null, [])) (y_s := (34, [some (.ref _), some (.int _), some (.int _), some (.int _), some (.int _), some (.int _), some (.ref _), some (.ref _)], [.ref _], _)) rfl (u_ rfl) ?_
          refine w20 (pc := 34) (len_s := 3) rfl ?_
          refine wq0 (pc := 37) (len_s := 3) rfl rfl (fun c7 => ?_) (fun c7 => ?_)
          · replace t := t.1 c7
            refine w_t (pc := 48) (e_s := (0, 2, 0, 0, 0, .int (-11), [])) (y_s := (50, [some (.ref _), some (.int _), some (.int _), some (.int _), some (.int _), some (.int _), some (.ref _), some (.ref _)], [.int _], _)) rfl (u_ rfl) ?_
            exact wrI (pc := 50) (len_s := 1) rfl hk t
          · replace t := t.2 c7
            refine w_t (pc := 40) (e_s := (3, 2, 7, 0, 0, .null, [])) (y_s := (42, [some (.ref _), some (.int _), some (.int _), some (.int _), some (.int _), some (.int _), some (.ref _), some (.ref _)], [.ref _], _)) rfl (u_ rfl) ?_
            refine w20 (pc := 42) (len_s := 3) rfl ?_
            refine wq1 (pc := 45) (len_s := 3) rfl rfl (fun c8 => ?_) (fun c8 => ?_)
            · replace t := t.1 c8
              refine w_t (pc := 48) (e_s := (0, 2, 0, 0, 0, .int (-11), [])) (y_s := (50, [some (.ref _), some (.int _), some (.int _), some (.int _), some (.int _), some (.int _), some (.ref _), some (.ref _)], [.int _], _)) rfl (u_ rfl) ?_
              exact wrI (pc := 50) (len_s := 1) rfl hk t
            · replace t := t.2 c8
              refine w_t (pc := 51) (e_s := (3, 2, 6, 0, 0, .null, [])) (y_s := (53, [some (.ref _), some (.int _), some (.int _), some (.int _), some (.int _), some (.int _), some (.ref _), some (.ref _)], [.ref _], _)) rfl (u_ rfl) ?_
              refine w20 (pc := 53) (len_s := 3) rfl ?_
              refine w_t (pc := 56) (e_s := (0, 1, 0, 0, 0, .int 2, [])) (y_s := (57, [some (.ref _), some (.int _), some (.int _), some (.int _), some (.int _), some (.int _), some (.ref _), some (.ref _)], [.int _, .int _], _)) rfl (u_ rfl) ?_
              refine wi1 (pc := 57) (len_s := 3) (Y := 2) rfl rfl (by decide) (fun c9 => ?_) (fun c9 => ?_)
              · replace t := t.1 c9
                refine w_t (pc := 60) (e_s := (3, 2, 7, 0, 0, .null, [])) (y_s := (62, [some (.ref _), some (.int _), some (.int _), some (.int _), some (.int _), some (.int _), some (.ref _), some (.ref _)], [.ref _], _)) rfl (u_ rfl) ?_
                refine w20 (pc := 62) (len_s := 3) rfl ?_
                refine w_t (pc := 65) (e_s := (0, 1, 0, 0, 0, .int 2, [])) (y_s := (66, [some (.ref _), some (.int _), some (.int _), some (.int _), some (.int _), some (.int _), some (.ref _), some (.ref _)], [.int _, .int _], _)) rfl (u_ rfl) ?_
                refine wi1 (pc := 66) (len_s := 3) (Y := 2) rfl rfl (by decide) (fun c10 => ?_) (fun c10 => ?_)
                · replace t := t.1 c10
                  refine w_t (pc := 69) (e_s := (3, 2, 6, 0, 0, .null, [])) (y_s := (71, [some (.ref _), some (.int _), some (.int _), some (.int _), some (.int _), some (.int _), some (.ref _), some (.ref _)], [.ref _], _)) rfl (u_ rfl) ?_
                  refine w20 (pc := 71) (len_s := 3) rfl ?_
                  refine w_t (pc := 74) (e_s := (3, 2, 7, 0, 0, .null, [])) (y_s := (76, [some (.ref _), some (.int _), some (.int _), some (.int _), some (.int _), some (.int _), some (.ref _), some (.ref _)], [.ref _, .int _], _)) rfl (u_ rfl) ?_
                  refine w20 (pc := 76) (len_s := 3) rfl ?_
                  refine wi0 (pc := 79) (len_s := 3) rfl rfl rfl (fun c11 => ?_) (fun c11 => ?_)
                  · replace t := t.1 c11
                    refine w_t (pc := 85) (e_s := (1, 2, 5, 0, 0, .null, [])) (y_s := (87, [some (.ref _), some (.int _), some (.int _), some (.int _), some (.int _), some (.int _), some (.ref _), some (.ref _)], [.int _], _)) rfl (u_ rfl) ?_
                    refine wq2 (pc := 87) (len_s := 3) rfl rfl (fun c12 => ?_) (fun c12 => ?_)
                    · replace t := t.1 c12
                      refine w_t (pc := 113) (e_s := (0, 2, 0, 0, 0, .int (-13), [])) (y_s := (115, [some (.ref _), some (.int _), some (.int _), some (.int _), some (.int _), some (.int _), some (.ref _), some (.ref _)], [.int _], _)) rfl (u_ rfl) ?_
                      exact wrI (pc := 115) (len_s := 1) rfl hk t
                    · replace t := t.2 c12
                      refine w_t (pc := 90) (e_s := (3, 2, 6, 0, 0, .null, [])) (y_s := (92, [some (.ref _), some (.int _), some (.int _), some (.int _), some (.int _), some (.int _), some (.ref _), some (.ref _)], [.ref _], _)) rfl (u_ rfl) ?_
                      refine w_t (pc := 92) (e_s := (1, 1, 2, 0, 0, .null, [])) (y_s := (93, [some (.ref _), some (.int _), some (.int _), some (.int _), some (.int _), some (.int _), some (.ref _), some (.ref _)], [.int _, .ref _], _)) rfl (u_ rfl) ?_
                      refine w_t (pc := 93) (e_s := (1, 2, 5, 0, 0, .null, [])) (y_s := (95, [some (.ref _), some (.int _), some (.int _), some (.int _), some (.int _), some (.int _), some (.ref _), some (.ref _)], [.int _, .int _, .ref _], _)) rfl (u_ rfl) ?_
                      refine wcI (pc := 95) (len_s := 3) rfl rfl (l := [some (.ref _), some (.int _), some (.int _)]) rfl ?_
                      refine w_t (pc := 0) (e_s := (1, 1, 1, 0, 0, .null, [])) (y_s := (1, [some (.ref _), some (.int _), some (.int _)], [.int _], _)) rfl (u_ rfl) ?_
                      refine wq2 (pc := 1) (len_s := 3) rfl rfl (fun c13 => ?_) (fun c13 => ?_)
                      · replace t := t.1 c13
                        refine w_t (pc := 26) (e_s := (0, 1, 0, 0, 0, .int 0, [])) (y_s := (27, [some (.ref _), some (.int _), some (.int _)], [.int _], _)) rfl (u_ rfl) ?_
                        refine wrI (pc := 27) (len_s := 1) rfl hk ?_
                        show wF _ 132 (98, [some (.ref _), some (.int _), some (.int _), some (.int _), some (.int _), some (.int _), some (.ref _), some (.ref _)], [.int _], _) _
                        refine w_t (pc := 98) (e_s := (15, 3, 113, 0, 0, .null, [])) (y_s := (113, [some (.ref _), some (.int _), some (.int _), some (.int _), some (.int _), some (.int _), some (.ref _), some (.ref _)], [], _)) rfl (u_ rfl) ?_
                        refine w_t (pc := 113) (e_s := (0, 2, 0, 0, 0, .int (-13), [])) (y_s := (115, [some (.ref _), some (.int _), some (.int _), some (.int _), some (.int _), some (.int _), some (.ref _), some (.ref _)], [.int _], _)) rfl (u_ rfl) ?_
                        exact wrI (pc := 115) (len_s := 1) rfl hk t
                      · replace t := t.2 c13
                        refine w_t (pc := 4) (e_s := (1, 1, 1, 0, 0, .null, [])) (y_s := (5, [some (.ref _), some (.int _), some (.int _)], [.int _], _)) rfl (u_ rfl) ?_
                        refine w_t (pc := 5) (e_s := (3, 1, 0, 0, 0, .null, [])) (y_s := (6, [some (.ref _), some (.int _), some (.int _)], [.ref _, .int _], _)) rfl (u_ rfl) ?_
                        refine w20 (pc := 6) (len_s := 3) rfl ?_
                        refine wi4 (pc := 9) (len_s := 3) rfl rfl rfl (fun c14 => ?_) (fun c14 => ?_)
                        · replace t := t.1 c14
                          refine w_t (pc := 26) (e_s := (0, 1, 0, 0, 0, .int 0, [])) (y_s := (27, [some (.ref _), some (.int _), some (.int _)], [.int _], _)) rfl (u_ rfl) ?_
                          refine wrI (pc := 27) (len_s := 1) rfl hk ?_
                          show wF _ 132 (98, [some (.ref _), some (.int _), some (.int _), some (.int _), some (.int _), some (.int _), some (.ref _), some (.ref _)], [.int _], _) _
                          refine w_t (pc := 98) (e_s := (15, 3, 113, 0, 0, .null, [])) (y_s := (113, [some (.ref _), some (.int _), some (.int _), some (.int _), some (.int _), some (.int _), some (.ref _), some (.ref _)], [], _)) rfl (u_ rfl) ?_
                          refine w_t (pc := 113) (e_s := (0, 2, 0, 0, 0, .int (-13), [])) (y_s := (115, [some (.ref _), some (.int _), some (.int _), some (.int _), some (.int _), some (.int _), some (.ref _), some (.ref _)], [.int _], _)) rfl (u_ rfl) ?_
                          exact wrI (pc := 115) (len_s := 1) rfl hk t
                        · replace t := t.2 c14
                          refine w_t (pc := 12) (e_s := (1, 1, 2, 0, 0, .null, [])) (y_s := (13, [some (.ref _), some (.int _), some (.int _)], [.int _], _)) rfl (u_ rfl) ?_
                          refine w_t (pc := 13) (e_s := (3, 1, 0, 0, 0, .null, [])) (y_s := (14, [some (.ref _), some (.int _), some (.int _)], [.ref _, .int _], _)) rfl (u_ rfl) ?_
                          refine w20 (pc := 14) (len_s := 3) rfl ?_
                          refine w_t (pc := 17) (e_s := (1, 1, 1, 0, 0, .null, [])) (y_s := (18, [some (.ref _), some (.int _), some (.int _)], [.int _, .int _, .int _], _)) rfl (u_ rfl) ?_
                          refine w_t (pc := 18) (e_s := (7, 1, 0, 1, 0, .null, [])) (y_s := (19, [some (.ref _), some (.int _), some (.int _)], [.int (_ - _), .int _], _)) rfl (u_ rfl) ?_
                          refine wi4 (pc := 19) (len_s := 3) rfl rfl rfl (fun c15 => ?_) (fun c15 => ?_)
                          · replace t := t.1 c15
                            refine w_t (pc := 26) (e_s := (0, 1, 0, 0, 0, .int 0, [])) (y_s := (27, [some (.ref _), some (.int _), some (.int _)], [.int _], _)) rfl (u_ rfl) ?_
                            refine wrI (pc := 27) (len_s := 1) rfl hk ?_
                            show wF _ 132 (98, [some (.ref _), some (.int _), some (.int _), some (.int _), some (.int _), some (.int _), some (.ref _), some (.ref _)], [.int _], _) _
                            refine w_t (pc := 98) (e_s := (15, 3, 113, 0, 0, .null, [])) (y_s := (113, [some (.ref _), some (.int _), some (.int _), some (.int _), some (.int _), some (.int _), some (.ref _), some (.ref _)], [], _)) rfl (u_ rfl) ?_
                            refine w_t (pc := 113) (e_s := (0, 2, 0, 0, 0, .int (-13), [])) (y_s := (115, [some (.ref _), some (.int _), some (.int _), some (.int _), some (.int _), some (.int _), some (.ref _), some (.ref _)], [.int _], _)) rfl (u_ rfl) ?_
                            exact wrI (pc := 115) (len_s := 1) rfl hk t
                          · replace t := t.2 c15
                            refine w_t (pc := 22) (e_s := (0, 1, 0, 0, 0, .int 1, [])) (y_s := (23, [some (.ref _), some (.int _), some (.int _)], [.int _], _)) rfl (u_ rfl) ?_
                            refine w_t (pc := 23) (e_s := (17, 3, 27, 0, 0, .null, [])) (y_s := (27, [some (.ref _), some (.int _), some (.int _)], [.int _], _)) rfl (u_ rfl) ?_
                            refine wrI (pc := 27) (len_s := 1) rfl hk ?_
                            show wF _ 132 (98, [some (.ref _), some (.int _), some (.int _), some (.int _), some (.int _), some (.int _), some (.ref _), some (.ref _)], [.int _], _) _
                            refine w_t (pc := 98) (e_s := (15, 3, 113, 0, 0, .null, [])) (y_s := (101, [some (.ref _), some (.int _), some (.int _), some (.int _), some (.int _), some (.int _), some (.ref _), some (.ref _)], [], _)) rfl (u_ rfl) ?_
                            refine w_t (pc := 101) (e_s := (3, 2, 7, 0, 0, .null, [])) (y_s := (103, [some (.ref _), some (.int _), some (.int _), some (.int _), some (.int _), some (.int _), some (.ref _), some (.ref _)], [.ref _], _)) rfl (u_ rfl) ?_
                            refine w_t (pc := 103) (e_s := (1, 2, 4, 0, 0, .null, [])) (y_s := (105, [some (.ref _), some (.int _), some (.int _), some (.int _), some (.int _), some (.int _), some (.ref _), some (.ref _)], [.int _, .ref _], _)) rfl (u_ rfl) ?_
                            refine w_t (pc := 105) (e_s := (1, 2, 5, 0, 0, .null, [])) (y_s := (107, [some (.ref _), some (.int _), some (.int _), some (.int _), some (.int _), some (.int _), some (.ref _), some (.ref _)], [.int _, .int _, .ref _], _)) rfl (u_ rfl) ?_
                            refine wcI (pc := 107) (len_s := 3) rfl rfl (l := [some (.ref _), some (.int _), some (.int _)]) rfl ?_
                            refine w_t (pc := 0) (e_s := (1, 1, 1, 0, 0, .null, [])) (y_s := (1, [some (.ref _), some (.int _), some (.int _)], [.int _], _)) rfl (u_ rfl) ?_
                            refine wq2 (pc := 1) (len_s := 3) rfl rfl (fun c16 => ?_) (fun c16 => ?_)
                            · replace t := t.1 c16
                              refine w_t (pc := 26) (e_s := (0, 1, 0, 0, 0, .int 0, [])) (y_s := (27, [some (.ref _), some (.int _), some (.int _)], [.int _], _)) rfl (u_ rfl) ?_
                              refine wrI (pc := 27) (len_s := 1) rfl hk ?_
                              show wF _ 132 (110, [some (.ref _), some (.int _), some (.int _), some (.int _), some (.int _), some (.int _), some (.ref _), some (.ref _)], [.int _], _) _
                              refine w_t (pc := 110) (e_s := (15, 3, 116, 1, 0, .null, [])) (y_s := (113, [some (.ref _), some (.int _), some (.int _), some (.int _), some (.int _), some (.int _), some (.ref _), some (.ref _)], [], _)) rfl (u_ rfl) ?_
                              refine w_t (pc := 113) (e_s := (0, 2, 0, 0, 0, .int (-13), [])) (y_s := (115, [some (.ref _), some (.int _), some (.int _), some (.int _), some (.int _), some (.int _), some (.ref _), some (.ref _)], [.int _], _)) rfl (u_ rfl) ?_
                              exact wrI (pc := 115) (len_s := 1) rfl hk t
                            · replace t := t.2 c16
                              refine w_t (pc := 4) (e_s := (1, 1, 1, 0, 0, .null, [])) (y_s := (5, [some (.ref _), some (.int _), some (.int _)], [.int _], _)) rfl (u_ rfl) ?_
                              refine w_t (pc := 5) (e_s := (3, 1, 0, 0, 0, .null, [])) (y_s := (6, [some (.ref _), some (.int _), some (.int _)], [.ref _, .int _], _)) rfl (u_ rfl) ?_
                              refine w20 (pc := 6) (len_s := 3) rfl ?_
                              refine wi4 (pc := 9) (len_s := 3) rfl rfl rfl (fun c17 => ?_) (fun c17 => ?_)
                              · replace t := t.1 c17
                                refine w_t (pc := 26) (e_s := (0, 1, 0, 0, 0, .int 0, [])) (y_s := (27, [some (.ref _), some (.int _), some (.int _)], [.int _], _)) rfl (u_ rfl) ?_
                                refine wrI (pc := 27) (len_s := 1) rfl hk ?_
                                show wF _ 132 (110, [some (.ref _), some (.int _), some (.int _), some (.int _), some (.int _), some (.int _), some (.ref _), some (.ref _)], [.int _], _) _
                                refine w_t (pc := 110) (e_s := (15, 3, 116, 1, 0, .null, [])) (y_s := (113, [some (.ref _), some (.int _), some (.int _), some (.int _), some (.int _), some (.int _), some (.ref _), some (.ref _)], [], _)) rfl (u_ rfl) ?_
                                refine w_t (pc := 113) (e_s := (0, 2, 0, 0, 0, .int (-13), [])) (y_s := (115, [some (.ref _), some (.int _), some (.int _), some (.int _), some (.int _), some (.int _), some (.ref _), some (.ref _)], [.int _], _)) rfl (u_ rfl) ?_
                                exact wrI (pc := 115) (len_s := 1) rfl hk t
                              · replace t := t.2 c17
                                refine w_t (pc := 12) (e_s := (1, 1, 2, 0, 0, .null, [])) (y_s := (13, [some (.ref _), some (.int _), some (.int _)], [.int _], _)) rfl (u_ rfl) ?_
                                refine w_t (pc := 13) (e_s := (3, 1, 0, 0, 0, .null, [])) (y_s := (14, [some (.ref _), some (.int _), some (.int _)], [.ref _, .int _], _)) rfl (u_ rfl) ?_
                                refine w20 (pc := 14) (len_s := 3) rfl ?_
                                refine w_t (pc := 17) (e_s := (1, 1, 1, 0, 0, .null, [])) (y_s := (18, [some (.ref _), some (.int _), some (.int _)], [.int _, .int _, .int _], _)) rfl (u_ rfl) ?_
                                refine w_t (pc := 18) (e_s := (7, 1, 0, 1, 0, .null, [])) (y_s := (19, [some (.ref _), some (.int _), some (.int _)], [.int (_ - _), .int _], _)) rfl (u_ rfl) ?_
                                refine wi4 (pc := 19) (len_s := 3) rfl rfl rfl (fun c18 => ?_) (fun c18 => ?_)
                                · replace t := t.1 c18
                                  refine w_t (pc := 26) (e_s := (0, 1, 0, 0, 0, .int 0, [])) (y_s := (27, [some (.ref _), some (.int _), some (.int _)], [.int _], _)) rfl (u_ rfl) ?_
                                  refine wrI (pc := 27) (len_s := 1) rfl hk ?_
                                  show wF _ 132 (110, [some (.ref _), some (.int _), some (.int _), some (.int _), some (.int _), some (.int _), some (.ref _), some (.ref _)], [.int _], _) _
                                  refine w_t (pc := 110) (e_s := (15, 3, 116, 1, 0, .null, [])) (y_s := (113, [some (.ref _), some (.int _), some (.int _), some (.int _), some (.int _), some (.int _), some (.ref _), some (.ref _)], [], _)) rfl (u_ rfl) ?_
                                  refine w_t (pc := 113) (e_s := (0, 2, 0, 0, 0, .int (-13), [])) (y_s := (115, [some (.ref _), some (.int _), some (.int _), some (.int _), some (.int _), some (.int _), some (.ref _), some (.ref _)], [.int _], _)) rfl (u_ rfl) ?_
                                  exact wrI (pc := 115) (len_s := 1) rfl hk t
                                · replace t := t.2 c18
                                  refine w_t (pc := 22) (e_s := (0, 1, 0, 0, 0, .int 1, [])) (y_s := (23, [some (.ref _), some (.int _), some (.int _)], [.int _], _)) rfl (u_ rfl) ?_
                                  refine w_t (pc := 23) (e_s := (17, 3, 27, 0, 0, .null, [])) (y_s := (27, [some (.ref _), some (.int _), some (.int _)], [.int _], _)) rfl (u_ rfl) ?_
                                  refine wrI (pc := 27) (len_s := 1) rfl hk ?_
                                  show wF _ 132 (110, [some (.ref _), some (.int _), some (.int _), some (.int _), some (.int _), some (.int _), some (.ref _), some (.ref _)], [.int _], _) _
                                  refine w_t (pc := 110) (e_s := (15, 3, 116, 1, 0, .null, [])) (y_s := (116, [some (.ref _), some (.int _), some (.int _), some (.int _), some (.int _), some (.int _), some (.ref _), some (.ref _)], [], _)) rfl (u_ rfl) ?_
                                  refine w_t (pc := 116) (e_s := (3, 2, 6, 0, 0, .null, [])) (y_s := (118, [some (.ref _), some (.int _), some (.int _), some (.int _), some (.int _), some (.int _), some (.ref _), some (.ref _)], [.ref _], _)) rfl (u_ rfl) ?_
                                  refine w20r (pc := 118) (len_s := 3) (q_s := 76 + 2 * (zix x1) + 1) rfl (kshc hk c5) ?_
                                  refine w_t (pc := 121) (e_s := (1, 1, 2, 0, 0, .null, [])) (y_s := (122, [some (.ref _), some (.int _), some (.int _), some (.int _), some (.int _), some (.int _), some (.ref _), some (.ref _)], [.int _, .ref _], _)) rfl (u_ rfl) ?_
                                  refine w_t (pc := 122) (e_s := (3, 2, 7, 0, 0, .null, [])) (y_s := (124, [some (.ref _), some (.int _), some (.int _), some (.int _), some (.int _), some (.int _), some (.ref _), some (.ref _)], [.ref _, .int _, .ref _], _)) rfl (u_ rfl) ?_
                                  refine w20r (pc := 124) (len_s := 3) (q_s := 76 + 2 * (zix x3) + 1) rfl (kshc hk c6) ?_
                                  refine w_t (pc := 127) (e_s := (1, 2, 4, 0, 0, .null, [])) (y_s := (129, [some (.ref _), some (.int _), some (.int _), some (.int _), some (.int _), some (.int _), some (.ref _), some (.ref _)], [.int _, .ref _, .int _, .ref _], _)) rfl (u_ rfl) ?_
                                  refine w_t (pc := 129) (e_s := (1, 2, 5, 0, 0, .null, [])) (y_s := (131, [some (.ref _), some (.int _), some (.int _), some (.int _), some (.int _), some (.int _), some (.ref _), some (.ref _)], [.int _, .int _, .ref _, .int _, .ref _], _)) rfl (u_ rfl) ?_
                                  refine w34l (pc := 131) (len_s := 3) rfl (kshz hk c5) (kshz hk c6) (fun c19 => ?_)
                                  replace t := t c19
                                  refine w_t (pc := 134) (e_s := (1, 2, 5, 0, 0, .null, [])) (y_s := (136, [some (.ref _), some (.int _), some (.int _), some (.int _), some (.int _), some (.int _), some (.ref _), some (.ref _)], [.int _], _)) rfl (u_ rfl) ?_
                                  exact wrI (pc := 136) (len_s := 1) rfl hk t
                  · replace t := t.2 c11
                    refine w_t (pc := 82) (e_s := (0, 2, 0, 0, 0, .int (-12), [])) (y_s := (84, [some (.ref _), some (.int _), some (.int _), some (.int _), some (.int _), some (.int _), some (.ref _), some (.ref _)], [.int _], _)) rfl (u_ rfl) ?_
                    exact wrI (pc := 84) (len_s := 1) rfl hk t
                · replace t := t.2 c10
                  refine w_t (pc := 82) (e_s := (0, 2, 0, 0, 0, .int (-12), [])) (y_s := (84, [some (.ref _), some (.int _), some (.int _), some (.int _), some (.int _), some (.int _), some (.ref _), some (.ref _)], [.int _], _)) rfl (u_ rfl) ?_
                  exact wrI (pc := 84) (len_s := 1) rfl hk t
              · replace t := t.2 c9
                refine w_t (pc := 82) (e_s := (0, 2, 0, 0, 0, .int (-12), [])) (y_s := (84, [some (.ref _), some (.int _), some (.int _), some (.int _), some (.int _), some (.int _), some (.ref _), some (.ref _)], [.int _], _)) rfl (u_ rfl) ?_
                exact wrI (pc := 84) (len_s := 1) rfl hk t
        · replace t := t.2 c4
          refine w_t (pc := 14) (e_s := (0, 1, 0, 0, 0, .int 0, [])) (y_s := (15, [some (.int _)], [.int _], _)) rfl (u_ rfl) ?_
          refine wrI (pc := 15) (len_s := 1) rfl hk ?_
          show wF _ 132 (11, [some (.ref _), some (.int _), some (.int _), some (.int _), some (.int _), some (.int _), none, none], [.int _], _) _
          refine w_t (pc := 11) (e_s := (15, 3, 16, 1, 0, .null, [])) (y_s := (14, [some (.ref _), some (.int _), some (.int _), some (.int _), some (.int _), some (.int _), none, none], [], _)) rfl (u_ rfl) ?_
          refine w_t (pc := 14) (e_s := (0, 1, 0, 0, 0, .int (-1), [])) (y_s := (15, [some (.ref _), some (.int _), some (.int _), some (.int _), some (.int _), some (.int _), none, none], [.int _], _)) rfl (u_ rfl) ?_
          exact wrI (pc := 15) (len_s := 1) rfl hk t
    · replace t := t.2 c2
      refine w_t (pc := 14) (e_s := (0, 1, 0, 0, 0, .int 0, [])) (y_s := (15, [some (.int _)], [.int _], _)) rfl (u_ rfl) ?_
      refine wrI (pc := 15) (len_s := 1) rfl hk ?_
      show wF _ 132 (4, [some (.ref _), some (.int _), some (.int _), some (.int _), some (.int _), some (.int _), none, none], [.int _], _) _
      refine w_t (pc := 4) (e_s := (15, 3, 14, 0, 0, .null, [])) (y_s := (14, [some (.ref _), some (.int _), some (.int _), some (.int _), some (.int _), some (.int _), none, none], [], _)) rfl (u_ rfl) ?_
      refine w_t (pc := 14) (e_s := (0, 1, 0, 0, 0, .int (-1), [])) (y_s := (15, [some (.ref _), some (.int _), some (.int _), some (.int _), some (.int _), some (.int _), none, none], [.int _], _)) rfl (u_ rfl) ?_
      exact wrI (pc := 15) (len_s := 1) rfl hk t
/-- java/util/Arrays.fill([JJ)V, from 0 on -/
theorem sg_239_0 {F : Nat} {o m : Nat} {y1 : Int64} {h : zH} {K : zH → Prop} (hz : zget h.1 o = some (1, m)) (hk : hKn h) (t : wF F 239 (6, [some (.ref o), some (.long y1), none, some (.int 0), some (.int (Int32.ofNat m))], [], h) (gV K)) : wF (F + 1) 239 (0, [some (.ref o), some (.long y1), none, none, none], [], h) (gV K) := by
  refine w_0 (pc := 0) (e_s := (0, 1, 0, 0, 0, .int 0, [])) (y_s := (1, [some (.ref _), some (.long _), none, none, none], [.int _], _)) rfl (u_ rfl) ?_
  refine w_t (pc := 1) (e_s := (4, 1, 3, 0, 0, .null, [])) (y_s := (2, [some (.ref _), some (.long _), none, some (.int _), none], [], _)) rfl (u_ rfl) ?_
  refine w_t (pc := 2) (e_s := (3, 1, 0, 0, 0, .null, [])) (y_s := (3, [some (.ref _), some (.long _), none, some (.int _), none], [.ref _], _)) rfl (u_ rfl) ?_
  refine w28 (pc := 3) (len_s := 1) rfl hz ?_
  refine w_t (pc := 4) (e_s := (4, 2, 4, 0, 0, .null, [])) (y_s := (6, [some (.ref _), some (.long _), none, some (.int _), some (.int _)], [], _)) rfl (u_ rfl) ?_
  exact t
/-- java/util/Arrays.fill([JJ)V, from 6 on -/
theorem sg_239_6 {F : Nat} {o m : Nat} {y1 : Int64} {x3 x4 : Int32} {h : zH} {K : zH → Prop} (hz : zget h.1 o = some (1, m)) (hk : hKn h) (t : (x3.toInt < x4.toInt → (zix x3 < m → wF F 239 (6, [some (.ref o), some (.long y1), none, some (.int (x3 + 1)), some (.int x4)], [], (h.1, h.2.1, zup h.2.2.1 o (zix x3) y1, h.2.2.2)) (gV K))) ∧ (¬ x3.toInt < x4.toInt → K h)) : wF (F + 1) 239 (6, [some (.ref o), some (.long y1), none, some (.int x3), some (.int x4)], [], h) (gV K) := by
  refine w_0 (pc := 6) (e_s := (1, 1, 3, 0, 0, .null, [])) (y_s := (7, [some (.ref _), some (.long _), none, some (.int _), some (.int _)], [.int _], _)) rfl (u_ rfl) ?_
  refine w_t (pc := 7) (e_s := (1, 2, 4, 0, 0, .null, [])) (y_s := (9, [some (.ref _), some (.long _), none, some (.int _), some (.int _)], [.int _, .int _], _)) rfl (u_ rfl) ?_
  refine wi3 (pc := 9) (len_s := 3) rfl rfl rfl (fun c1 => ?_) (fun c1 => ?_)
  · replace t := t.1 c1
    refine w_t (pc := 12) (e_s := (3, 1, 0, 0, 0, .null, [])) (y_s := (13, [some (.ref _), some (.long _), none, some (.int _), some (.int _)], [.ref _], _)) rfl (u_ rfl) ?_
    refine w_t (pc := 13) (e_s := (1, 1, 3, 0, 0, .null, [])) (y_s := (14, [some (.ref _), some (.long _), none, some (.int _), some (.int _)], [.int _, .ref _], _)) rfl (u_ rfl) ?_
    refine w_t (pc := 14) (e_s := (2, 1, 1, 0, 0, .null, [])) (y_s := (15, [some (.ref _), some (.long _), none, some (.int _), some (.int _)], [.long _, .int _, .ref _], _)) rfl (u_ rfl) ?_
    refine w26 (pc := 15) (len_s := 1) rfl hz (fun c2 => ?_)
    replace t := t c2
    refine w_t (pc := 16) (e_s := (19, 3, 3, 0, 0, .int 1, [])) (y_s := (19, [some (.ref _), some (.long _), none, some (.int _), some (.int _)], [], _)) rfl (u_ rfl) ?_
    refine w_t (pc := 19) (e_s := (17, 3, 6, 0, 0, .null, [])) (y_s := (6, [some (.ref _), some (.long _), none, some (.int _), some (.int _)], [], _)) rfl (u_ rfl) ?_
    exact t
  · replace t := t.2 c1
    exact wrV (pc := 22) (len_s := 1) rfl hk t
/-- ColdShod.row(III)I, from 0 on -/
theorem sg_129_0 {F : Nat} {x1 : Int32} {x2 : Int32} {x3 : Int32} {h : zH} {K : Int32 → zH → Prop} (hk : hKn h) (t : (x1.toInt < 0 → K (-1) h) ∧ (¬ x1.toInt < 0 → ((x1.toInt < 6 → ((x2.toInt < 0 → K (-1) h) ∧ (¬ x2.toInt < 0 → ((4 < x2.toInt → K (-1) h) ∧ (¬ 4 < x2.toInt → ((60 < x3.toInt → K (-1) h) ∧ (¬ 60 < x3.toInt → ((x3.toInt < 0 → K (-14) h) ∧ (¬ x3.toInt < 0 → (zix x1 < 6 → wF F 239 (0, [some (.ref (76 + 2 * (zix x1) + 1)), some (.long 0), none, none, none], [], (h.1, zup (zup (zup h.2.1 (76 + 2 * (zix x1)) 0 2) (76 + 2 * (zix x1)) 2 x2) (76 + 2 * (zix x1)) 3 x3, h.2.2.1, h.2.2.2)) (gV (fun h8 => hKn h8 → K 1 h8)))))))))))) ∧ (¬ x1.toInt < 6 → K (-1) h)))) : wF (F + 1) 129 (0, [some (.ref 6), some (.int x1), some (.int x2), some (.int x3)], [], h) (gI K) := by
  refine w_0 (pc := 0) (e_s := (1, 1, 1, 0, 0, .null, [])) (y_s := (1, [some (.ref _), some (.int _), some (.int _), some (.int _)], [.int _], _)) rfl (u_ rfl) ?_
  refine wcI (pc := 1) (len_s := 3) rfl rfl (l := [some (.int _)]) rfl ?_
  refine w_t (pc := 0) (e_s := (1, 1, 0, 0, 0, .null, [])) (y_s := (1, [some (.int _)], [.int _], _)) rfl (u_ rfl) ?_
  refine wq2 (pc := 1) (len_s := 3) rfl rfl (fun c1 => ?_) (fun c1 => ?_)
  · replace t := t.1 c1
    refine w_t (pc := 14) (e_s := (0, 1, 0, 0, 0, .int 0, [])) (y_s := (15, [some (.int _)], [.int _], _)) rfl (u_ rfl) ?_
    refine wrI (pc := 15) (len_s := 1) rfl hk ?_
    show wF _ 129 (4, [some (.ref _), some (.int _), some (.int _), some (.int _)], [.int _], _) _
    refine w_t (pc := 4) (e_s := (15, 3, 22, 0, 0, .null, [])) (y_s := (22, [some (.ref _), some (.int _), some (.int _), some (.int _)], [], _)) rfl (u_ rfl) ?_
    refine w_t (pc := 22) (e_s := (0, 1, 0, 0, 0, .int (-1), [])) (y_s := (23, [some (.ref _), some (.int _), some (.int _), some (.int _)], [.int _], _)) rfl (u_ rfl) ?_
    exact wrI (pc := 23) (len_s := 1) rfl hk t
  · replace t := t.2 c1
    refine w_t (pc := 4) (e_s := (1, 1, 0, 0, 0, .null, [])) (y_s := (5, [some (.int _)], [.int _], _)) rfl (u_ rfl) ?_
    refine w_t (pc := 5) (e_s := (0, 2, 0, 0, 0, .int 6, [])) (y_s := (7, [some (.int _)], [.int _, .int _], _)) rfl (u_ rfl) ?_
    refine wi3 (pc := 7) (len_s := 3) (Y := 6) rfl rfl (by decide) (fun c2 => ?_) (fun c2 => ?_)
    · replace t := t.1 c2
      refine w_t (pc := 10) (e_s := (0, 1, 0, 0, 0, .int 1, [])) (y_s := (11, [some (.int _)], [.int _], _)) rfl (u_ rfl) ?_
      refine w_t (pc := 11) (e_s := (17, 3, 15, 0, 0, .null, [])) (y_s := (15, [some (.int _)], [.int _], _)) rfl (u_ rfl) ?_
      refine wrI (pc := 15) (len_s := 1) rfl hk ?_
      show wF _ 129 (4, [some (.ref _), some (.int _), some (.int _), some (.int _)], [.int _], _) _
      refine w_t (pc := 4) (e_s := (15, 3, 22, 0, 0, .null, [])) (y_s := (7, [some (.ref _), some (.int _), some (.int _), some (.int _)], [], _)) rfl (u_ rfl) ?_
      refine w_t (pc := 7) (e_s := (1, 1, 2, 0, 0, .null, [])) (y_s := (8, [some (.ref _), some (.int _), some (.int _), some (.int _)], [.int _], _)) rfl (u_ rfl) ?_
      refine wq2 (pc := 8) (len_s := 3) rfl rfl (fun c3 => ?_) (fun c3 => ?_)
      · replace t := t.1 c3
        refine w_t (pc := 22) (e_s := (0, 1, 0, 0, 0, .int (-1), [])) (y_s := (23, [some (.ref _), some (.int _), some (.int _), some (.int _)], [.int _], _)) rfl (u_ rfl) ?_
        exact wrI (pc := 23) (len_s := 1) rfl hk t
      · replace t := t.2 c3
        refine w_t (pc := 11) (e_s := (1, 1, 2, 0, 0, .null, [])) (y_s := (12, [some (.ref _), some (.int _), some (.int _), some (.int _)], [.int _], _)) rfl (u_ rfl) ?_
        refine w_t (pc := 12) (e_s := (0, 1, 0, 0, 0, .int 4, [])) (y_s := (13, [some (.ref _), some (.int _), some (.int _), some (.int _)], [.int _, .int _], _)) rfl (u_ rfl) ?_
        refine wi4 (pc := 13) (len_s := 3) (Y := 4) rfl rfl (by decide) (fun c4 => ?_) (fun c4 => ?_)
        · replace t := t.1 c4
          refine w_t (pc := 22) (e_s := (0, 1, 0, 0, 0, .int (-1), [])) (y_s := (23, [some (.ref _), some (.int _), some (.int _), some (.int _)], [.int _], _)) rfl (u_ rfl) ?_
          exact wrI (pc := 23) (len_s := 1) rfl hk t
        · replace t := t.2 c4
          refine w_t (pc := 16) (e_s := (1, 1, 3, 0, 0, .null, [])) (y_s := (17, [some (.ref _), some (.int _), some (.int _), some (.int _)], [.int _], _)) rfl (u_ rfl) ?_
          refine w_t (pc := 17) (e_s := (0, 2, 0, 0, 0, .int 60, [])) (y_s := (19, [some (.ref _), some (.int _), some (.int _), some (.int _)], [.int _, .int _], _)) rfl (u_ rfl) ?_
          refine wi5 (pc := 19) (len_s := 3) (Y := 60) rfl rfl (by decide) (fun c5 => ?_) (fun c5 => ?_)
          · replace t := t.1 c5
            refine w_t (pc := 22) (e_s := (0, 1, 0, 0, 0, .int (-1), [])) (y_s := (23, [some (.ref _), some (.int _), some (.int _), some (.int _)], [.int _], _)) rfl (u_ rfl) ?_
            exact wrI (pc := 23) (len_s := 1) rfl hk t
          · replace t := t.2 c5
            refine w_t (pc := 24) (e_s := (1, 1, 3, 0, 0, .null, [])) (y_s := (25, [some (.ref _), some (.int _), some (.int _), some (.int _)], [.int _], _)) rfl (u_ rfl) ?_
            refine wq3 (pc := 25) (len_s := 3) rfl rfl (fun c6 => ?_) (fun c6 => ?_)
            · replace t := t.1 c6
              refine w_t (pc := 28) (e_s := (0, 2, 0, 0, 0, .int (-14), [])) (y_s := (30, [some (.ref _), some (.int _), some (.int _), some (.int _)], [.int _], _)) rfl (u_ rfl) ?_
              exact wrI (pc := 30) (len_s := 1) rfl hk t
            · replace t := t.2 c6
              refine w_t (pc := 31) (e_s := (3, 1, 0, 0, 0, .null, [])) (y_s := (32, [some (.ref _), some (.int _), some (.int _), some (.int _)], [.ref _], _)) rfl (u_ rfl) ?_
              refine w20r (pc := 32) (len_s := 3) (q_s := 71) rfl (krq hk rfl) ?_
              refine w_t (pc := 35) (e_s := (1, 1, 1, 0, 0, .null, [])) (y_s := (36, [some (.ref _), some (.int _), some (.int _), some (.int _)], [.int _, .ref _], _)) rfl (u_ rfl) ?_
              refine w24 (g_s := fun j_ => 76 + 2 * j_) (pc := 36) (len_s := 1) hk rfl (hk.1 71 4 6 rfl rfl) kg71 (fun c7 => ?_)
              replace t := t c7
              refine w_t (pc := 37) (e_s := (1, 1, 2, 0, 0, .null, [])) (y_s := (38, [some (.ref _), some (.int _), some (.int _), some (.int _)], [.int _, .ref _], _)) rfl (u_ rfl) ?_
              refine w_t (pc := 38) (e_s := (1, 1, 3, 0, 0, .null, [])) (y_s := (39, [some (.ref _), some (.int _), some (.int _), some (.int _)], [.int _, .int _, .ref _], _)) rfl (u_ rfl) ?_
              refine wcV (pc := 39) (len_s := 3) rfl rfl (l := [some (.ref _), some (.int _), some (.int _)]) rfl ?_
              refine w_t (pc := 0) (e_s := (3, 1, 0, 0, 0, .null, [])) (y_s := (1, [some (.ref _), some (.int _), some (.int _)], [.ref _], _)) rfl (u_ rfl) ?_
              refine w_t (pc := 1) (e_s := (0, 1, 0, 0, 0, .int 2, [])) (y_s := (2, [some (.ref _), some (.int _), some (.int _)], [.int _, .ref _], _)) rfl (u_ rfl) ?_
              refine w21 (pc := 2) (len_s := 3) rfl ?_
              refine w_t (pc := 5) (e_s := (3, 1, 0, 0, 0, .null, [])) (y_s := (6, [some (.ref _), some (.int _), some (.int _)], [.ref _], _)) rfl (u_ rfl) ?_
              refine w_t (pc := 6) (e_s := (1, 1, 1, 0, 0, .null, [])) (y_s := (7, [some (.ref _), some (.int _), some (.int _)], [.int _, .ref _], _)) rfl (u_ rfl) ?_
              refine w21 (pc := 7) (len_s := 3) rfl ?_
              refine w_t (pc := 10) (e_s := (3, 1, 0, 0, 0, .null, [])) (y_s := (11, [some (.ref _), some (.int _), some (.int _)], [.ref _], _)) rfl (u_ rfl) ?_
              refine w_t (pc := 11) (e_s := (1, 1, 2, 0, 0, .null, [])) (y_s := (12, [some (.ref _), some (.int _), some (.int _)], [.int _, .ref _], _)) rfl (u_ rfl) ?_
              refine w21 (pc := 12) (len_s := 3) rfl ?_
              refine w_t (pc := 15) (e_s := (3, 1, 0, 0, 0, .null, [])) (y_s := (16, [some (.ref _), some (.int _), some (.int _)], [.ref _], _)) rfl (u_ rfl) ?_
              refine w20r (pc := 16) (len_s := 3) (q_s := 76 + 2 * (zix x1) + 1) rfl (kshc hk c7) ?_
              refine w_t (pc := 19) (e_s := (0, 1, 0, 0, 0, .long 0, [])) (y_s := (20, [some (.ref _), some (.int _), some (.int _)], [.long _, .ref _], _)) rfl (u_ rfl) ?_
              refine wcV (pc := 20) (len_s := 3) rfl rfl (l := [some (.ref _), some (.long _), none, none, none]) rfl (wmV t (fun h8 hk t => ?_))
              replace t := t hk
              refine wrV (pc := 23) (len_s := 1) rfl hk ?_
              show wF _ 129 (42, [some (.ref _), some (.int _), some (.int _), some (.int _)], [], _) _
              refine w_t (pc := 42) (e_s := (0, 1, 0, 0, 0, .int 1, [])) (y_s := (43, [some (.ref _), some (.int _), some (.int _), some (.int _)], [.int _], _)) rfl (u_ rfl) ?_
              exact wrI (pc := 43) (len_s := 1) rfl hk t
    · replace t := t.2 c2
      refine w_t (pc := 14) (e_s := (0, 1, 0, 0, 0, .int 0, [])) (y_s := (15, [some (.int _)], [.int _], _)) rfl (u_ rfl) ?_
      refine wrI (pc := 15) (len_s := 1) rfl hk ?_
      show wF _ 129 (4, [some (.ref _), some (.int _), some (.int _), some (.int _)], [.int _], _) _
      refine w_t (pc := 4) (e_s := (15, 3, 22, 0, 0, .null, [])) (y_s := (22, [some (.ref _), some (.int _), some (.int _), some (.int _)], [], _)) rfl (u_ rfl) ?_
      refine w_t (pc := 22) (e_s := (0, 1, 0, 0, 0, .int (-1), [])) (y_s := (23, [some (.ref _), some (.int _), some (.int _), some (.int _)], [.int _], _)) rfl (u_ rfl) ?_
      exact wrI (pc := 23) (len_s := 1) rfl hk t
/-- ColdShodModel.row(III)I, from 0 on -/
theorem sg_230_0 {F : Nat} {x1 : Int32} {x2 : Int32} {x3 : Int32} {h : zH} {K : Int32 → zH → Prop} (hk : hKn h) (t : (x1.toInt < 0 → K (-1) h) ∧ (¬ x1.toInt < 0 → ((5 < x1.toInt → K (-1) h) ∧ (¬ 5 < x1.toInt → ((x2.toInt < 0 → K (-1) h) ∧ (¬ x2.toInt < 0 → ((4 < x2.toInt → K (-1) h) ∧ (¬ 4 < x2.toInt → ((60 < x3.toInt → K (-1) h) ∧ (¬ 60 < x3.toInt → ((x3.toInt < 0 → K (-14) h) ∧ (¬ x3.toInt < 0 → (zix x1 < 6 → wF F 230 (57, [some (.ref 102), some (.int x1), some (.int x2), some (.int x3), some (.int (60 * x1))], [], (h.1, zup (zup h.2.1 124 (zix x1) (50 + x2)) 125 (zix x1) x3, h.2.2.1, h.2.2.2)) (gI K)))))))))))))) : wF (F + 1) 230 (0, [some (.ref 102), some (.int x1), some (.int x2), some (.int x3), none], [], h) (gI K) := by
  refine w_0 (pc := 0) (e_s := (1, 1, 1, 0, 0, .null, [])) (y_s := (1, [some (.ref _), some (.int _), some (.int _), some (.int _), none], [.int _], _)) rfl (u_ rfl) ?_
  refine wcI (pc := 1) (len_s := 3) rfl rfl (l := [some (.int _)]) rfl ?_
  refine w_t (pc := 0) (e_s := (1, 1, 0, 0, 0, .null, [])) (y_s := (1, [some (.int _)], [.int _], _)) rfl (u_ rfl) ?_
  refine w_t (pc := 1) (e_s := (10, 1, 0, 0, 0, .null, [])) (y_s := (2, [some (.int _)], [.long (Int32.toInt64 _)], _)) rfl (u_ rfl) ?_
  refine w_t (pc := 2) (e_s := (0, 1, 0, 0, 0, .long 0, [])) (y_s := (3, [some (.int _)], [.long _, .long _], _)) rfl (u_ rfl) ?_
  refine w_t (pc := 3) (e_s := (0, 3, 0, 0, 0, .long 5, [(0, 1063)])) (y_s := (6, [some (.int _)], [.long _, .long _, .long _], _)) rfl (u_ rfl) ?_
  refine wcI (pc := 6) (len_s := 3) rfl rfl (l := [some (.long _), none, some (.long _), none, some (.long _), none]) rfl ?_
  refine w_t (pc := 0) (e_s := (2, 1, 0, 0, 0, .null, [])) (y_s := (1, [some (.long _), none, some (.long _), none, some (.long _), none], [.long _], _)) rfl (u_ rfl) ?_
  refine w_t (pc := 1) (e_s := (2, 1, 2, 0, 0, .null, [])) (y_s := (2, [some (.long _), none, some (.long _), none, some (.long _), none], [.long _, .long _], _)) rfl (u_ rfl) ?_
  refine w_t (pc := 2) (e_s := (14, 1, 0, 0, 0, .null, [])) (y_s := (3, [some (.long _), none, some (.long _), none, some (.long _), none], [.int (lg_cmp _ _)], _)) rfl (u_ rfl) ?_
  refine wl2 (pc := 3) (len_s := 3) (Y := 0) rfl (Int32.toInt_toInt64 _) (by decide) (fun c1 => ?_) (fun c1 => ?_)
  · replace t := t.1 c1
    refine w_t (pc := 17) (e_s := (0, 1, 0, 0, 0, .int 0, [])) (y_s := (18, [some (.long _), none, some (.long _), none, some (.long _), none], [.int _], _)) rfl (u_ rfl) ?_
    refine wrI (pc := 18) (len_s := 1) rfl hk ?_
    show wF _ 228 (9, [some (.int _)], [.int _], _) _
    refine wrI (pc := 9) (len_s := 1) rfl hk ?_
    show wF _ 230 (4, [some (.ref _), some (.int _), some (.int _), some (.int _), none], [.int _], _) _
    refine w_t (pc := 4) (e_s := (15, 3, 25, 0, 0, .null, [])) (y_s := (25, [some (.ref _), some (.int _), some (.int _), some (.int _), none], [], _)) rfl (u_ rfl) ?_
    refine w_t (pc := 25) (e_s := (0, 1, 0, 0, 0, .int (-1), [])) (y_s := (26, [some (.ref _), some (.int _), some (.int _), some (.int _), none], [.int _], _)) rfl (u_ rfl) ?_
    exact wrI (pc := 26) (len_s := 1) rfl hk t
  · replace t := t.2 c1
    refine w_t (pc := 6) (e_s := (2, 1, 0, 0, 0, .null, [])) (y_s := (7, [some (.long _), none, some (.long _), none, some (.long _), none], [.long _], _)) rfl (u_ rfl) ?_
    refine w_t (pc := 7) (e_s := (2, 2, 4, 0, 0, .null, [])) (y_s := (9, [some (.long _), none, some (.long _), none, some (.long _), none], [.long _, .long _], _)) rfl (u_ rfl) ?_
    refine w_t (pc := 9) (e_s := (14, 1, 0, 0, 0, .null, [])) (y_s := (10, [some (.long _), none, some (.long _), none, some (.long _), none], [.int (lg_cmp _ _)], _)) rfl (u_ rfl) ?_
    refine wl4 (pc := 10) (len_s := 3) (Y := 5) rfl (Int32.toInt_toInt64 _) (by decide) (fun c2 => ?_) (fun c2 => ?_)
    · replace t := t.1 c2
      refine w_t (pc := 17) (e_s := (0, 1, 0, 0, 0, .int 0, [])) (y_s := (18, [some (.long _), none, some (.long _), none, some (.long _), none], [.int _], _)) rfl (u_ rfl) ?_
      refine wrI (pc := 18) (len_s := 1) rfl hk ?_
      show wF _ 228 (9, [some (.int _)], [.int _], _) _
      refine wrI (pc := 9) (len_s := 1) rfl hk ?_
      show wF _ 230 (4, [some (.ref _), some (.int _), some (.int _), some (.int _), none], [.int _], _) _
      refine w_t (pc := 4) (e_s := (15, 3, 25, 0, 0, .null, [])) (y_s := (25, [some (.ref _), some (.int _), some (.int _), some (.int _), none], [], _)) rfl (u_ rfl) ?_
      refine w_t (pc := 25) (e_s := (0, 1, 0, 0, 0, .int (-1), [])) (y_s := (26, [some (.ref _), some (.int _), some (.int _), some (.int _), none], [.int _], _)) rfl (u_ rfl) ?_
      exact wrI (pc := 26) (len_s := 1) rfl hk t
    · replace t := t.2 c2
      refine w_t (pc := 13) (e_s := (0, 1, 0, 0, 0, .int 1, [])) (y_s := (14, [some (.long _), none, some (.long _), none, some (.long _), none], [.int _], _)) rfl (u_ rfl) ?_
      refine w_t (pc := 14) (e_s := (17, 3, 18, 0, 0, .null, [])) (y_s := (18, [some (.long _), none, some (.long _), none, some (.long _), none], [.int _], _)) rfl (u_ rfl) ?_
      refine wrI (pc := 18) (len_s := 1) rfl hk ?_
      show wF _ 228 (9, [some (.int _)], [.int _], _) _
      refine wrI (pc := 9) (len_s := 1) rfl hk ?_
      show wF _ 230 (4, [some (.ref _), some (.int _), some (.int _), some (.int _), none], [.int _], _) _
      refine w_t (pc := 4) (e_s := (15, 3, 25, 0, 0, .null, [])) (y_s := (7, [some (.ref _), some (.int _), some (.int _), some (.int _), none], [], _)) rfl (u_ rfl) ?_
      refine w_t (pc := 7) (e_s := (1, 1, 2, 0, 0, .null, [])) (y_s := (8, [some (.ref _), some (.int _), some (.int _), some (.int _), none], [.int _], _)) rfl (u_ rfl) ?_
      refine w_t (pc := 8) (e_s := (10, 1, 0, 0, 0, .null, [])) (y_s := (9, [some (.ref _), some (.int _), some (.int _), some (.int _), none], [.long (Int32.toInt64 _)], _)) rfl (u_ rfl) ?_
      refine w_t (pc := 9) (e_s := (0, 1, 0, 0, 0, .long 0, [])) (y_s := (10, [some (.ref _), some (.int _), some (.int _), some (.int _), none], [.long _, .long _], _)) rfl (u_ rfl) ?_
      refine w_t (pc := 10) (e_s := (0, 3, 0, 0, 0, .long 4, [(0, 1113)])) (y_s := (13, [some (.ref _), some (.int _), some (.int _), some (.int _), none], [.long _, .long _, .long _], _)) rfl (u_ rfl) ?_
      refine wcI (pc := 13) (len_s := 3) rfl rfl (l := [some (.long _), none, some (.long _), none, some (.long _), none]) rfl ?_
      refine w_t (pc := 0) (e_s := (2, 1, 0, 0, 0, .null, [])) (y_s := (1, [some (.long _), none, some (.long _), none, some (.long _), none], [.long _], _)) rfl (u_ rfl) ?_
      refine w_t (pc := 1) (e_s := (2, 1, 2, 0, 0, .null, [])) (y_s := (2, [some (.long _), none, some (.long _), none, some (.long _), none], [.long _, .long _], _)) rfl (u_ rfl) ?_
      refine w_t (pc := 2) (e_s := (14, 1, 0, 0, 0, .null, [])) (y_s := (3, [some (.long _), none, some (.long _), none, some (.long _), none], [.int (lg_cmp _ _)], _)) rfl (u_ rfl) ?_
      refine wl2 (pc := 3) (len_s := 3) (Y := 0) rfl (Int32.toInt_toInt64 _) (by decide) (fun c3 => ?_) (fun c3 => ?_)
      · replace t := t.1 c3
        refine w_t (pc := 17) (e_s := (0, 1, 0, 0, 0, .int 0, [])) (y_s := (18, [some (.long _), none, some (.long _), none, some (.long _), none], [.int _], _)) rfl (u_ rfl) ?_
        refine wrI (pc := 18) (len_s := 1) rfl hk ?_
        show wF _ 230 (16, [some (.ref _), some (.int _), some (.int _), some (.int _), none], [.int _], _) _
        refine w_t (pc := 16) (e_s := (15, 3, 25, 0, 0, .null, [])) (y_s := (25, [some (.ref _), some (.int _), some (.int _), some (.int _), none], [], _)) rfl (u_ rfl) ?_
        refine w_t (pc := 25) (e_s := (0, 1, 0, 0, 0, .int (-1), [])) (y_s := (26, [some (.ref _), some (.int _), some (.int _), some (.int _), none], [.int _], _)) rfl (u_ rfl) ?_
        exact wrI (pc := 26) (len_s := 1) rfl hk t
      · replace t := t.2 c3
        refine w_t (pc := 6) (e_s := (2, 1, 0, 0, 0, .null, [])) (y_s := (7, [some (.long _), none, some (.long _), none, some (.long _), none], [.long _], _)) rfl (u_ rfl) ?_
        refine w_t (pc := 7) (e_s := (2, 2, 4, 0, 0, .null, [])) (y_s := (9, [some (.long _), none, some (.long _), none, some (.long _), none], [.long _, .long _], _)) rfl (u_ rfl) ?_
        refine w_t (pc := 9) (e_s := (14, 1, 0, 0, 0, .null, [])) (y_s := (10, [some (.long _), none, some (.long _), none, some (.long _), none], [.int (lg_cmp _ _)], _)) rfl (u_ rfl) ?_
        refine wl4 (pc := 10) (len_s := 3) (Y := 4) rfl (Int32.toInt_toInt64 _) (by decide) (fun c4 => ?_) (fun c4 => ?_)
        · replace t := t.1 c4
          refine w_t (pc := 17) (e_s := (0, 1, 0, 0, 0, .int 0, [])) (y_s := (18, [some (.long _), none, some (.long _), none, some (.long _), none], [.int _], _)) rfl (u_ rfl) ?_
          refine wrI (pc := 18) (len_s := 1) rfl hk ?_
          show wF _ 230 (16, [some (.ref _), some (.int _), some (.int _), some (.int _), none], [.int _], _) _
          refine w_t (pc := 16) (e_s := (15, 3, 25, 0, 0, .null, [])) (y_s := (25, [some (.ref _), some (.int _), some (.int _), some (.int _), none], [], _)) rfl (u_ rfl) ?_
          refine w_t (pc := 25) (e_s := (0, 1, 0, 0, 0, .int (-1), [])) (y_s := (26, [some (.ref _), some (.int _), some (.int _), some (.int _), none], [.int _], _)) rfl (u_ rfl) ?_
          exact wrI (pc := 26) (len_s := 1) rfl hk t
        · replace t := t.2 c4
          refine w_t (pc := 13) (e_s := (0, 1, 0, 0, 0, .int 1, [])) (y_s := (14, [some (.long _), none, some (.long _), none, some (.long _), none], [.int _], _)) rfl (u_ rfl) ?_
          refine w_t (pc := 14) (e_s := (17, 3, 18, 0, 0, .null, [])) (y_s := (18, [some (.long _), none, some (.long _), none, some (.long _), none], [.int _], _)) rfl (u_ rfl) ?_
          refine wrI (pc := 18) (len_s := 1) rfl hk ?_
          show wF _ 230 (16, [some (.ref _), some (.int _), some (.int _), some (.int _), none], [.int _], _) _
          refine w_t (pc := 16) (e_s := (15, 3, 25, 0, 0, .null, [])) (y_s := (19, [some (.ref _), some (.int _), some (.int _), some (.int _), none], [], _)) rfl (u_ rfl) ?_
          refine w_t (pc := 19) (e_s := (1, 1, 3, 0, 0, .null, [])) (y_s := (20, [some (.ref _), some (.int _), some (.int _), some (.int _), none], [.int _], _)) rfl (u_ rfl) ?_
          refine w_t (pc := 20) (e_s := (0, 2, 0, 0, 0, .int 60, [])) (y_s := (22, [some (.ref _), some (.int _), some (.int _), some (.int _), none], [.int _, .int _], _)) rfl (u_ rfl) ?_
          refine wi5 (pc := 22) (len_s := 3) (Y := 60) rfl rfl (by decide) (fun c5 => ?_) (fun c5 => ?_)
          · replace t := t.1 c5
            refine w_t (pc := 25) (e_s := (0, 1, 0, 0, 0, .int (-1), [])) (y_s := (26, [some (.ref _), some (.int _), some (.int _), some (.int _), none], [.int _], _)) rfl (u_ rfl) ?_
            exact wrI (pc := 26) (len_s := 1) rfl hk t
          · replace t := t.2 c5
            refine w_t (pc := 27) (e_s := (1, 1, 3, 0, 0, .null, [])) (y_s := (28, [some (.ref _), some (.int _), some (.int _), some (.int _), none], [.int _], _)) rfl (u_ rfl) ?_
            refine wq3 (pc := 28) (len_s := 3) rfl rfl (fun c6 => ?_) (fun c6 => ?_)
            · replace t := t.1 c6
              refine w_t (pc := 31) (e_s := (0, 2, 0, 0, 0, .int (-14), [])) (y_s := (33, [some (.ref _), some (.int _), some (.int _), some (.int _), none], [.int _], _)) rfl (u_ rfl) ?_
              exact wrI (pc := 33) (len_s := 1) rfl hk t
            · replace t := t.2 c6
              refine w_t (pc := 34) (e_s := (3, 1, 0, 0, 0, .null, [])) (y_s := (35, [some (.ref _), some (.int _), some (.int _), some (.int _), none], [.ref _], _)) rfl (u_ rfl) ?_
              refine w20r (pc := 35) (len_s := 3) (q_s := 124) rfl (krq hk rfl) ?_
              refine w_t (pc := 38) (e_s := (1, 1, 1, 0, 0, .null, [])) (y_s := (39, [some (.ref _), some (.int _), some (.int _), some (.int _), none], [.int _, .ref _], _)) rfl (u_ rfl) ?_
              refine w_t (pc := 39) (e_s := (0, 2, 0, 0, 0, .int 50, [])) (y_s := (41, [some (.ref _), some (.int _), some (.int _), some (.int _), none], [.int _, .int _, .ref _], _)) rfl (u_ rfl) ?_
              refine w_t (pc := 41) (e_s := (1, 1, 2, 0, 0, .null, [])) (y_s := (42, [some (.ref _), some (.int _), some (.int _), some (.int _), none], [.int _, .int _, .int _, .ref _], _)) rfl (u_ rfl) ?_
              refine w_t (pc := 42) (e_s := (7, 1, 0, 0, 0, .null, [])) (y_s := (43, [some (.ref _), some (.int _), some (.int _), some (.int _), none], [.int (_ + _), .int _, .ref _], _)) rfl (u_ rfl) ?_
              refine w25 (pc := 43) (len_s := 1) rfl (hk.1 124 0 6 rfl rfl) (fun c7 => ?_)
              replace t := t c7
              refine w_t (pc := 44) (e_s := (3, 1, 0, 0, 0, .null, [])) (y_s := (45, [some (.ref _), some (.int _), some (.int _), some (.int _), none], [.ref _], _)) rfl (u_ rfl) ?_
              refine w20r (pc := 45) (len_s := 3) (q_s := 125) rfl (krq hk rfl) ?_
              refine w_t (pc := 48) (e_s := (1, 1, 1, 0, 0, .null, [])) (y_s := (49, [some (.ref _), some (.int _), some (.int _), some (.int _), none], [.int _, .ref _], _)) rfl (u_ rfl) ?_
              refine w_t (pc := 49) (e_s := (1, 1, 3, 0, 0, .null, [])) (y_s := (50, [some (.ref _), some (.int _), some (.int _), some (.int _), none], [.int _, .int _, .ref _], _)) rfl (u_ rfl) ?_
              refine w25 (pc := 50) (len_s := 1) rfl (hk.1 125 0 6 rfl rfl) (fun c8 => ?_)
              refine w_t (pc := 51) (e_s := (0, 2, 0, 0, 0, .int 60, [])) (y_s := (53, [some (.ref _), some (.int _), some (.int _), some (.int _), none], [.int _], _)) rfl (u_ rfl) ?_
              refine w_t (pc := 53) (e_s := (1, 1, 1, 0, 0, .null, [])) (y_s := (54, [some (.ref _), some (.int _), some (.int _), some (.int _), none], [.int _, .int _], _)) rfl (u_ rfl) ?_
              refine w_t (pc := 54) (e_s := (7, 1, 0, 2, 0, .null, [])) (y_s := (55, [some (.ref _), some (.int _), some (.int _), some (.int _), none], [.int (_ * _)], _)) rfl (u_ rfl) ?_
              refine w_t (pc := 55) (e_s := (4, 2, 4, 0, 0, .null, [])) (y_s := (57, [some (.ref _), some (.int _), some (.int _), some (.int _), some (.int _)], [], _)) rfl (u_ rfl) ?_
              exact t
/-- ColdShodModel.row(III)I, from 57 on -/
theorem sg_230_57 {F : Nat} {x1 x2 x3 x4 : Int32} {h : zH} {K : Int32 → zH → Prop} (hk : hKn h) (t : (x4.toInt < ((60 * x1) + 60).toInt → (zix x4 < 360 → wF F 230 (57, [some (.ref 102), some (.int x1), some (.int x2), some (.int x3), some (.int (x4 + 1))], [], (h.1, h.2.1, zup h.2.2.1 126 (zix x4) 0, h.2.2.2)) (gI K))) ∧ (¬ x4.toInt < ((60 * x1) + 60).toInt → K 1 h)) : wF (F + 1) 230 (57, [some (.ref 102), some (.int x1), some (.int x2), some (.int x3), some (.int x4)], [], h) (gI K) := by
  refine w_0 (pc := 57) (e_s := (1, 2, 4, 0, 0, .null, [])) (y_s := (59, [some (.ref _), some (.int _), some (.int _), some (.int _), some (.int _)], [.int _], _)) rfl (u_ rfl) ?_
  refine w_t (pc := 59) (e_s := (0, 2, 0, 0, 0, .int 60, [])) (y_s := (61, [some (.ref _), some (.int _), some (.int _), some (.int _), some (.int _)], [.int _, .int _], _)) rfl (u_ rfl) ?_
  refine w_t (pc := 61) (e_s := (1, 1, 1, 0, 0, .null, [])) (y_s := (62, [some (.ref _), some (.int _), some (.int _), some (.int _), some (.int _)], [.int _, .int _, .int _], _)) rfl (u_ rfl) ?_
  refine w_t (pc := 62) (e_s := (7, 1, 0, 2, 0, .null, [])) (y_s := (63, [some (.ref _), some (.int _), some (.int _), some (.int _), some (.int _)], [.int (_ * _), .int _], _)) rfl (u_ rfl) ?_
  refine w_t (pc := 63) (e_s := (0, 2, 0, 0, 0, .int 60, [])) (y_s := (65, [some (.ref _), some (.int _), some (.int _), some (.int _), some (.int _)], [.int _, .int _, .int _], _)) rfl (u_ rfl) ?_
  refine w_t (pc := 65) (e_s := (7, 1, 0, 0, 0, .null, [])) (y_s := (66, [some (.ref _), some (.int _), some (.int _), some (.int _), some (.int _)], [.int (_ + _), .int _], _)) rfl (u_ rfl) ?_
  refine wi3 (pc := 66) (len_s := 3) rfl rfl rfl (fun c1 => ?_) (fun c1 => ?_)
  · replace t := t.1 c1
    refine w_t (pc := 69) (e_s := (3, 1, 0, 0, 0, .null, [])) (y_s := (70, [some (.ref _), some (.int _), some (.int _), some (.int _), some (.int _)], [.ref _], _)) rfl (u_ rfl) ?_
    refine w20r (pc := 70) (len_s := 3) (q_s := 126) rfl (krq hk rfl) ?_
    refine w_t (pc := 73) (e_s := (1, 2, 4, 0, 0, .null, [])) (y_s := (75, [some (.ref _), some (.int _), some (.int _), some (.int _), some (.int _)], [.int _, .ref _], _)) rfl (u_ rfl) ?_
    refine w_t (pc := 75) (e_s := (0, 1, 0, 0, 0, .long 0, [])) (y_s := (76, [some (.ref _), some (.int _), some (.int _), some (.int _), some (.int _)], [.long _, .int _, .ref _], _)) rfl (u_ rfl) ?_
    refine w26 (pc := 76) (len_s := 1) rfl (hk.1 126 1 360 rfl rfl) (fun c2 => ?_)
    replace t := t c2
    refine w_t (pc := 77) (e_s := (19, 3, 4, 0, 0, .int 1, [])) (y_s := (80, [some (.ref _), some (.int _), some (.int _), some (.int _), some (.int _)], [], _)) rfl (u_ rfl) ?_
    refine w_t (pc := 80) (e_s := (17, 3, 57, 0, 0, .null, [])) (y_s := (57, [some (.ref _), some (.int _), some (.int _), some (.int _), some (.int _)], [], _)) rfl (u_ rfl) ?_
    exact t
  · replace t := t.2 c1
    refine w_t (pc := 83) (e_s := (0, 1, 0, 0, 0, .int 1, [])) (y_s := (84, [some (.ref _), some (.int _), some (.int _), some (.int _), some (.int _)], [.int _], _)) rfl (u_ rfl) ?_
    exact wrI (pc := 84) (len_s := 1) rfl hk t
/-- ColdShodModel.shift(IIIII)I, from 0 on -/
theorem sg_235_0 {F : Nat} {x1 : Int32} {x2 : Int32} {x3 : Int32} {x4 : Int32} {x5 : Int32} {h : zH} {K : Int32 → zH → Prop} (hk : hKn h) (t : (x1.toInt < 0 → K (-1) h) ∧ (¬ x1.toInt < 0 → ((5 < x1.toInt → K (-1) h) ∧ (¬ 5 < x1.toInt → ((x3.toInt < 0 → K (-1) h) ∧ (¬ x3.toInt < 0 → ((5 < x3.toInt → K (-1) h) ∧ (¬ 5 < x3.toInt → (zix x1 < 6 → ((h.2.1 124 (zix x1)).toInt < 0 → K (-11) h) ∧ (¬ (h.2.1 124 (zix x1)).toInt < 0 → (zix x3 < 6 → ((h.2.1 124 (zix x3)).toInt < 0 → K (-11) h) ∧ (¬ (h.2.1 124 (zix x3)).toInt < 0 → (((h.2.1 124 (zix x1)).toInt < 50 → K (-12) h) ∧ (¬ (h.2.1 124 (zix x1)).toInt < 50 → (((h.2.1 124 (zix x1)).toInt = (h.2.1 124 (zix x3)).toInt → ((x5.toInt < 0 → K (-13) h) ∧ (¬ x5.toInt < 0 → ((x2.toInt < 0 → K (-13) h) ∧ (¬ x2.toInt < 0 → ((x4.toInt < 0 → K (-13) h) ∧ (¬ x4.toInt < 0 → ((((h.2.1 125 (zix x1)) - x5).toInt < x2.toInt → K (-13) h) ∧ (¬ ((h.2.1 125 (zix x1)) - x5).toInt < x2.toInt → ((((h.2.1 125 (zix x3)) - x5).toInt < x4.toInt → K (-13) h) ∧ (¬ ((h.2.1 125 (zix x3)) - x5).toInt < x4.toInt → wF F 235 (113, [some (.ref 102), some (.int x1), some (.int x2), some (.int x3), some (.int x4), some (.int x5), some (.int 0)], [], h) (gI K)))))))))))) ∧ (¬ (h.2.1 124 (zix x1)).toInt = (h.2.1 124 (zix x3)).toInt → K (-12) h)))))))))))))))) : wF (F + 1) 235 (0, [some (.ref 102), some (.int x1), some (.int x2), some (.int x3), some (.int x4), some (.int x5), none], [], h) (gI K) := by
  refine w_0 (pc := 0) (e_s := (1, 1, 1, 0, 0, .null, [])) (y_s := (1, [some (.ref _), some (.int _), some (.int _), some (.int _), some (.int _), some (.int _), none], [.int _], _)) rfl (u_ rfl) ?_
  refine wcI (pc := 1) (len_s := 3) rfl rfl (l := [some (.int _)]) rfl ?_
  refine w_t (pc := 0) (e_s := (1, 1, 0, 0, 0, .null, [])) (y_s := (1, [some (.int _)], [.int _], _)) rfl (u_ rfl) ?_
  refine w_t (pc := 1) (e_s := (10, 1, 0, 0, 0, .null, [])) (y_s := (2, [some (.int _)], [.long (Int32.toInt64 _)], _)) rfl (u_ rfl) ?_
  refine w_t (pc := 2) (e_s := (0, 1, 0, 0, 0, .long 0, [])) (y_s := (3, [some (.int _)], [.long _, .long _], _)) rfl (u_ rfl) ?_
  refine w_t (pc := 3) (e_s := (0, 3, 0, 0, 0, .long 5, [(0, 1063)])) (y_s := (6, [some (.int _)], [.long _, .long _, .long _], _)) rfl (u_ rfl) ?_
  refine wcI (pc := 6) (len_s := 3) rfl rfl (l := [some (.long _), none, some (.long _), none, some (.long _), none]) rfl ?_
  refine w_t (pc := 0) (e_s := (2, 1, 0, 0, 0, .null, [])) (y_s := (1, [some (.long _), none, some (.long _), none, some (.long _), none], [.long _], _)) rfl (u_ rfl) ?_
  refine w_t (pc := 1) (e_s := (2, 1, 2, 0, 0, .null, [])) (y_s := (2, [some (.long _), none, some (.long _), none, some (.long _), none], [.long _, .long _], _)) rfl (u_ rfl) ?_
  refine w_t (pc := 2) (e_s := (14, 1, 0, 0, 0, .null, [])) (y_s := (3, [some (.long _), none, some (.long _), none, some (.long _), none], [.int (lg_cmp _ _)], _)) rfl (u_ rfl) ?_
  refine wl2 (pc := 3) (len_s := 3) (Y := 0) rfl (Int32.toInt_toInt64 _) (by decide) (fun c1 => ?_) (fun c1 => ?_)
  · replace t := t.1 c1
    refine w_t (pc := 17) (e_s := (0, 1, 0, 0, 0, .int 0, [])) (y_s := (18, [some (.long _), none, some (.long _), none, some (.long _), none], [.int _], _)) rfl (u_ rfl) ?_
    refine wrI (pc := 18) (len_s := 1) rfl hk ?_
    show wF _ 228 (9, [some (.int _)], [.int _], _) _
    refine wrI (pc := 9) (len_s := 1) rfl hk ?_
    show wF _ 235 (4, [some (.ref _), some (.int _), some (.int _), some (.int _), some (.int _), some (.int _), none], [.int _], _) _
    refine w_t (pc := 4) (e_s := (15, 3, 14, 0, 0, .null, [])) (y_s := (14, [some (.ref _), some (.int _), some (.int _), some (.int _), some (.int _), some (.int _), none], [], _)) rfl (u_ rfl) ?_
    refine w_t (pc := 14) (e_s := (0, 1, 0, 0, 0, .int (-1), [])) (y_s := (15, [some (.ref _), some (.int _), some (.int _), some (.int _), some (.int _), some (.int _), none], [.int _], _)) rfl (u_ rfl) ?_
    exact wrI (pc := 15) (len_s := 1) rfl hk t
  · replace t := t.2 c1
    refine w_t (pc := 6) (e_s := (2, 1, 0, 0, 0, .null, [])) (y_s := (7, [some (.long _), none, some (.long _), none, some (.long _), none], [.long _], _)) rfl (u_ rfl) ?_
    refine w_t (pc := 7) (e_s := (2, 2, 4, 0, 0, .null, [])) (y_s := (9, [some (.long _), none, some (.long _), none, some (.long _), none], [.long _, .long _], _)) rfl (u_ rfl) ?_
    refine w_t (pc := 9) (e_s := (14, 1, 0, 0, 0, .null, [])) (y_s := (10, [some (.long _), none, some (.long _), none, some (.long _), none], [.int (lg_cmp _ _)], _)) rfl (u_ rfl) ?_
    refine wl4 (pc := 10) (len_s := 3) (Y := 5) rfl (Int32.toInt_toInt64 _) (by decide) (fun c2 => ?_) (fun c2 => ?_)
    · replace t := t.1 c2
      refine w_t (pc := 17) (e_s := (0, 1, 0, 0, 0, .int 0, [])) (y_s := (18, [some (.long _), none, some (.long _), none, some (.long _), none], [.int _], _)) rfl (u_ rfl) ?_
      refine wrI (pc := 18) (len_s := 1) rfl hk ?_
      show wF _ 228 (9, [some (.int _)], [.int _], _) _
      refine wrI (pc := 9) (len_s := 1) rfl hk ?_
      show wF _ 235 (4, [some (.ref _), some (.int _), some (.int _), some (.int _), some (.int _), some (.int _), none], [.int _], _) _
      refine w_t (pc := 4) (e_s := (15, 3, 14, 0, 0, .null, [])) (y_s := (14, [some (.ref _), some (.int _), some (.int _), some (.int _), some (.int _), some (.int _), none], [], _)) rfl (u_ rfl) ?_
      refine w_t (pc := 14) (e_s := (0, 1, 0, 0, 0, .int (-1), [])) (y_s := (15, [some (.ref _), some (.int _), some (.int _), some (.int _), some (.int _), some (.int _), none], [.int _], _)) rfl (u_ rfl) ?_
      exact wrI (pc := 15) (len_s := 1) rfl hk t
    · replace t := t.2 c2
      refine w_t (pc := 13) (e_s := (0, 1, 0, 0, 0, .int 1, [])) (y_s := (14, [some (.long _), none, some (.long _), none, some (.long _), none], [.int _], _)) rfl (u_ rfl) ?_
      refine w_t (pc := 14) (e_s := (17, 3, 18, 0, 0, .null, [])) (y_s := (18, [some (.long _), none, some (.long _), none, some (.long _), none], [.int _], _)) rfl (u_ rfl) ?_
      refine wrI (pc := 18) (len_s := 1) rfl hk ?_
      show wF _ 228 (9, [some (.int _)], [.int _], _) _
      refine wrI (pc := 9) (len_s := 1) rfl hk ?_
      show wF _ 235 (4, [some (.ref _), some (.int _), some (.int _), some (.int _), some (.int _), some (.int _), none], [.int _], _) _
      refine w_t (pc := 4) (e_s := (15, 3, 14, 0, 0, .null, [])) (y_s := (7, [some (.ref _), some (.int _), some (.int _), some (.int _), some (.int _), some (.int _), none], [], _)) rfl (u_ rfl) ?_
      refine w_t (pc := 7) (e_s := (1, 1, 3, 0, 0, .null, [])) (y_s := (8, [some (.ref _), some (.int _), some (.int _), some (.int _), some (.int _), some (.int _), none], [.int _], _)) rfl (u_ rfl) ?_
      refine wcI (pc := 8) (len_s := 3) rfl rfl (l := [some (.int _)]) rfl ?_
      refine w_t (pc := 0) (e_s := (1, 1, 0, 0, 0, .null, [])) (y_s := (1, [some (.int _)], [.int _], _)) rfl (u_ rfl) ?_
      refine w_t (pc := 1) (e_s := (10, 1, 0, 0, 0, .null, [])) (y_s := (2, [some (.int _)], [.long (Int32.toInt64 _)], _)) rfl (u_ rfl) ?_
      refine w_t (pc := 2) (e_s := (0, 1, 0, 0, 0, .long 0, [])) (y_s := (3, [some (.int _)], [.long _, .long _], _)) rfl (u_ rfl) ?_
      refine w_t (pc := 3) (e_s := (0, 3, 0, 0, 0, .long 5, [(0, 1063)])) (y_s := (6, [some (.int _)], [.long _, .long _, .long _], _)) rfl (u_ rfl) ?_
      refine wcI (pc := 6) (len_s := 3) rfl rfl (l := [some (.long _), none, some (.long _), none, some (.long _), none]) rfl ?_
      refine w_t (pc := 0) (e_s := (2, 1, 0, 0, 0, .null, [])) (y_s := (1, [some (.long _), none, some (.long _), none, some (.long _), none], [.long _], _)) rfl (u_ rfl) ?_
      refine w_t (pc := 1) (e_s := (2, 1, 2, 0, 0, .null, [])) (y_s := (2, [some (.long _), none, some (.long _), none, some (.long _), none], [.long _, .long _], _)) rfl (u_ rfl) ?_
      refine w_t (pc := 2) (e_s := (14, 1, 0, 0, 0, .null, [])) (y_s := (3, [some (.long _), none, some (.long _), none, some (.long _), none], [.int (lg_cmp _ _)], _)) rfl (u_ rfl) ?_
      refine wl2 (pc := 3) (len_s := 3) (Y := 0) rfl (Int32.toInt_toInt64 _) (by decide) (fun c3 => ?_) (fun c3 => ?_)
      · replace t := t.1 c3
        refine w_t (pc := 17) (e_s := (0, 1, 0, 0, 0, .int 0, [])) (y_s := (18, [some (.long _), none, some (.long _), none, some (.long _), none], [.int _], _)) rfl (u_ rfl) ?_
        refine wrI (pc := 18) (len_s := 1) rfl hk ?_
        show wF _ 228 (9, [some (.int _)], [.int _], _) _
        refine wrI (pc := 9) (len_s := 1) rfl hk ?_
        show wF _ 235 (11, [some (.ref _), some (.int _), some (.int _), some (.int _), some (.int _), some (.int _), none], [.int _], _) _
        refine w_t (pc := 11) (e_s := (15, 3, 16, 1, 0, .null, [])) (y_s := (14, [some (.ref _), some (.int _), some (.int _), some (.int _), some (.int _), some (.int _), none], [], _)) rfl (u_ rfl) ?_
        refine w_t (pc := 14) (e_s := (0, 1, 0, 0, 0, .int (-1), [])) (y_s := (15, [some (.ref _), some (.int _), some (.int _), some (.int _), some (.int _), some (.int _), none], [.int _], _)) rfl (u_ rfl) ?_
        exact wrI (pc := 15) (len_s := 1) rfl hk t
      · replace t := t.2 c3
        refine w_t (pc := 6) (e_s := (2, 1, 0, 0, 0, .null, [])) (y_s := (7, [some (.long _), none, some (.long _), none, some (.long _), none], [.long _], _)) rfl (u_ rfl) ?_
        refine w_t (pc := 7) (e_s := (2, 2, 4, 0, 0, .null, [])) (y_s := (9, [some (.long _), none, some (.long _), none, some (.long _), none], [.long _, .long _], _)) rfl (u_ rfl) ?_
        refine w_t (pc := 9) (e_s := (14, 1, 0, 0, 0, .null, [])) (y_s := (10, [some (.long _), none, some (.long _), none, some (.long _), none], [.int (lg_cmp _ _)], _)) rfl (u_ rfl) ?_
        refine wl4 (pc := 10) (len_s := 3) (Y := 5) rfl (Int32.toInt_toInt64 _) (by decide) (fun c4 => ?_) (fun c4 => ?_)
        · replace t := t.1 c4
          refine w_t (pc := 17) (e_s := (0, 1, 0, 0, 0, .int 0, [])) (y_s := (18, [some (.long _), none, some (.long _), none, some (.long _), none], [.int _], _)) rfl (u_ rfl) ?_
          refine wrI (pc := 18) (len_s := 1) rfl hk ?_
          show wF _ 228 (9, [some (.int _)], [.int _], _) _
          refine wrI (pc := 9) (len_s := 1) rfl hk ?_
          show wF _ 235 (11, [some (.ref _), some (.int _), some (.int _), some (.int _), some (.int _), some (.int _), none], [.int _], _) _
          refine w_t (pc := 11) (e_s := (15, 3, 16, 1, 0, .null, [])) (y_s := (14, [some (.ref _), some (.int _), some (.int _), some (.int _), some (.int _), some (.int _), none], [], _)) rfl (u_ rfl) ?_
          refine w_t (pc := 14) (e_s := (0, 1, 0, 0, 0, .int (-1), [])) (y_s := (15, [some (.ref _), some (.int _), some (.int _), some (.int _), some (.int _), some (.int _), none], [.int _], _)) rfl (u_ rfl) ?_
          exact wrI (pc := 15) (len_s := 1) rfl hk t
        · replace t := t.2 c4
          refine w_t (pc := 13) (e_s := (0, 1, 0, 0, 0, .int 1, [])) (y_s := (14, [some (.long _), none, some (.long _), none, some (.long _), none], [.int _], _)) rfl (u_ rfl) ?_
          refine w_t (pc := 14) (e_s := (17, 3, 18, 0, 0, .null, [])) (y_s := (18, [some (.long _), none, some (.long _), none, some (.long _), none], [.int _], _)) rfl (u_ rfl) ?_
          refine wrI (pc := 18) (len_s := 1) rfl hk ?_
          show wF _ 228 (9, [some (.int _)], [.int _], _) _
          refine wrI (pc := 9) (len_s := 1) rfl hk ?_
          show wF _ 235 (11, [some (.ref _), some (.int _), some (.int _), some (.int _), some (.int _), some (.int _), none], [.int _], _) _
          refine w_t (pc := 11) (e_s := (15, 3, 16, 1, 0, .null, [])) (y_s := (16, [some (.ref _), some (.int _), some (.int _), some (.int _), some (.int _), some (.int _), none], [], _)) rfl (u_ rfl) ?_
          refine w_t (pc := 16) (e_s := (3, 1, 0, 0, 0, .null, [])) (y_s := (17, [some (.ref _), some (.int _), some (.int _), some (.int _), some (.int _), some (.int _), none], [.ref _], _)) rfl (u_ rfl) ?_
          refine w20r (pc := 17) (len_s := 3) (q_s := 124) rfl (krq hk rfl) ?_
          refine w_t (pc := 20) (e_s := (1, 1, 1, 0, 0, .null, [])) (y_s := (21, [some (.ref _), some (.int _), some (.int _), some (.int _), some (.int _), some (.int _), none], [.int _, .ref _], _)) rfl (u_ rfl) ?_
          refine w22 (pc := 21) (len_s := 1) rfl (hk.1 124 0 6 rfl rfl) (fun c5 => ?_)
          replace t := t c5
          refine wq2 (pc := 22) (len_s := 3) rfl rfl (fun c6 => ?_) (fun c6 => ?_)
          · replace t := t.1 c6
            refine w_t (pc := 34) (e_s := (0, 2, 0, 0, 0, .int (-11), [])) (y_s := (36, [some (.ref _), some (.int _), some (.int _), some (.int _), some (.int _), some (.int _), none], [.int _], _)) rfl (u_ rfl) ?_
            exact wrI (pc := 36) (len_s := 1) rfl hk t
          · replace t := t.2 c6
            refine w_t (pc := 25) (e_s := (3, 1, 0, 0, 0, .null, [])) (y_s := (26, [some (.ref _), some (.int _), some (.int _), some (.int _), some (.int _), some (.int _), none], [.ref _], _)) rfl (u_ rfl) ?_
            refine w20r (pc := 26) (len_s := 3) (q_s := 124) rfl (krq hk rfl) ?_
            refine w_t (pc := 29) (e_s := (1, 1, 3, 0, 0, .null, [])) (y_s := (30, [some (.ref _), some (.int _), some (.int _), some (.int _), some (.int _), some (.int _), none], [.int _, .ref _], _)) rfl (u_ rfl) ?_
            refine w22 (pc := 30) (len_s := 1) rfl (hk.1 124 0 6 rfl rfl) (fun c7 => ?_)
            replace t := t c7
            refine wq3 (pc := 31) (len_s := 3) rfl rfl (fun c8 => ?_) (fun c8 => ?_)
            · replace t := t.1 c8
              refine w_t (pc := 34) (e_s := (0, 2, 0, 0, 0, .int (-11), [])) (y_s := (36, [some (.ref _), some (.int _), some (.int _), some (.int _), some (.int _), some (.int _), none], [.int _], _)) rfl (u_ rfl) ?_
              exact wrI (pc := 36) (len_s := 1) rfl hk t
            · replace t := t.2 c8
              refine w_t (pc := 37) (e_s := (3, 1, 0, 0, 0, .null, [])) (y_s := (38, [some (.ref _), some (.int _), some (.int _), some (.int _), some (.int _), some (.int _), none], [.ref _], _)) rfl (u_ rfl) ?_
              refine w20r (pc := 38) (len_s := 3) (q_s := 124) rfl (krq hk rfl) ?_
              refine w_t (pc := 41) (e_s := (1, 1, 1, 0, 0, .null, [])) (y_s := (42, [some (.ref _), some (.int _), some (.int _), some (.int _), some (.int _), some (.int _), none], [.int _, .ref _], _)) rfl (u_ rfl) ?_
              refine w22 (pc := 42) (len_s := 1) rfl (hk.1 124 0 6 rfl rfl) (fun c9 => ?_)
              refine w_t (pc := 43) (e_s := (0, 2, 0, 0, 0, .int 50, [])) (y_s := (45, [some (.ref _), some (.int _), some (.int _), some (.int _), some (.int _), some (.int _), none], [.int _, .int _], _)) rfl (u_ rfl) ?_
              refine wi2 (pc := 45) (len_s := 3) (Y := 50) rfl rfl (by decide) (fun c10 => ?_) (fun c10 => ?_)
              · replace t := t.1 c10
                refine w_t (pc := 63) (e_s := (0, 2, 0, 0, 0, .int (-12), [])) (y_s := (65, [some (.ref _), some (.int _), some (.int _), some (.int _), some (.int _), some (.int _), none], [.int _], _)) rfl (u_ rfl) ?_
                exact wrI (pc := 65) (len_s := 1) rfl hk t
              · replace t := t.2 c10
                refine w_t (pc := 48) (e_s := (3, 1, 0, 0, 0, .null, [])) (y_s := (49, [some (.ref _), some (.int _), some (.int _), some (.int _), some (.int _), some (.int _), none], [.ref _], _)) rfl (u_ rfl) ?_
                refine w20r (pc := 49) (len_s := 3) (q_s := 124) rfl (krq hk rfl) ?_
                refine w_t (pc := 52) (e_s := (1, 1, 1, 0, 0, .null, [])) (y_s := (53, [some (.ref _), some (.int _), some (.int _), some (.int _), some (.int _), some (.int _), none], [.int _, .ref _], _)) rfl (u_ rfl) ?_
                refine w22 (pc := 53) (len_s := 1) rfl (hk.1 124 0 6 rfl rfl) (fun c11 => ?_)
                refine w_t (pc := 54) (e_s := (3, 1, 0, 0, 0, .null, [])) (y_s := (55, [some (.ref _), some (.int _), some (.int _), some (.int _), some (.int _), some (.int _), none], [.ref _, .int _], _)) rfl (u_ rfl) ?_
                refine w20r (pc := 55) (len_s := 3) (q_s := 124) rfl (krq hk rfl) ?_
                refine w_t (pc := 58) (e_s := (1, 1, 3, 0, 0, .null, [])) (y_s := (59, [some (.ref _), some (.int _), some (.int _), some (.int _), some (.int _), some (.int _), none], [.int _, .ref _, .int _], _)) rfl (u_ rfl) ?_
                refine w22 (pc := 59) (len_s := 1) rfl (hk.1 124 0 6 rfl rfl) (fun c12 => ?_)
                refine wi0 (pc := 60) (len_s := 3) rfl rfl rfl (fun c13 => ?_) (fun c13 => ?_)
                · replace t := t.1 c13
                  refine w_t (pc := 66) (e_s := (1, 2, 5, 0, 0, .null, [])) (y_s := (68, [some (.ref _), some (.int _), some (.int _), some (.int _), some (.int _), some (.int _), none], [.int _], _)) rfl (u_ rfl) ?_
                  refine wq2 (pc := 68) (len_s := 3) rfl rfl (fun c14 => ?_) (fun c14 => ?_)
                  · replace t := t.1 c14
                    refine w_t (pc := 107) (e_s := (0, 2, 0, 0, 0, .int (-13), [])) (y_s := (109, [some (.ref _), some (.int _), some (.int _), some (.int _), some (.int _), some (.int _), none], [.int _], _)) rfl (u_ rfl) ?_
                    exact wrI (pc := 109) (len_s := 1) rfl hk t
                  · replace t := t.2 c14
                    refine w_t (pc := 71) (e_s := (1, 1, 2, 0, 0, .null, [])) (y_s := (72, [some (.ref _), some (.int _), some (.int _), some (.int _), some (.int _), some (.int _), none], [.int _], _)) rfl (u_ rfl) ?_
                    refine wq2 (pc := 72) (len_s := 3) rfl rfl (fun c15 => ?_) (fun c15 => ?_)
                    · replace t := t.1 c15
                      refine w_t (pc := 107) (e_s := (0, 2, 0, 0, 0, .int (-13), [])) (y_s := (109, [some (.ref _), some (.int _), some (.int _), some (.int _), some (.int _), some (.int _), none], [.int _], _)) rfl (u_ rfl) ?_
                      exact wrI (pc := 109) (len_s := 1) rfl hk t
                    · replace t := t.2 c15
                      refine w_t (pc := 75) (e_s := (1, 2, 4, 0, 0, .null, [])) (y_s := (77, [some (.ref _), some (.int _), some (.int _), some (.int _), some (.int _), some (.int _), none], [.int _], _)) rfl (u_ rfl) ?_
                      refine wq2 (pc := 77) (len_s := 3) rfl rfl (fun c16 => ?_) (fun c16 => ?_)
                      · replace t := t.1 c16
                        refine w_t (pc := 107) (e_s := (0, 2, 0, 0, 0, .int (-13), [])) (y_s := (109, [some (.ref _), some (.int _), some (.int _), some (.int _), some (.int _), some (.int _), none], [.int _], _)) rfl (u_ rfl) ?_
                        exact wrI (pc := 109) (len_s := 1) rfl hk t
                      · replace t := t.2 c16
                        refine w_t (pc := 80) (e_s := (1, 1, 2, 0, 0, .null, [])) (y_s := (81, [some (.ref _), some (.int _), some (.int _), some (.int _), some (.int _), some (.int _), none], [.int _], _)) rfl (u_ rfl) ?_
                        refine w_t (pc := 81) (e_s := (3, 1, 0, 0, 0, .null, [])) (y_s := (82, [some (.ref _), some (.int _), some (.int _), some (.int _), some (.int _), some (.int _), none], [.ref _, .int _], _)) rfl (u_ rfl) ?_
                        refine w20r (pc := 82) (len_s := 3) (q_s := 125) rfl (krq hk rfl) ?_
                        refine w_t (pc := 85) (e_s := (1, 1, 1, 0, 0, .null, [])) (y_s := (86, [some (.ref _), some (.int _), some (.int _), some (.int _), some (.int _), some (.int _), none], [.int _, .ref _, .int _], _)) rfl (u_ rfl) ?_
                        refine w22 (pc := 86) (len_s := 1) rfl (hk.1 125 0 6 rfl rfl) (fun c17 => ?_)
                        refine w_t (pc := 87) (e_s := (1, 2, 5, 0, 0, .null, [])) (y_s := (89, [some (.ref _), some (.int _), some (.int _), some (.int _), some (.int _), some (.int _), none], [.int _, .int _, .int _], _)) rfl (u_ rfl) ?_
                        refine w_t (pc := 89) (e_s := (7, 1, 0, 1, 0, .null, [])) (y_s := (90, [some (.ref _), some (.int _), some (.int _), some (.int _), some (.int _), some (.int _), none], [.int (_ - _), .int _], _)) rfl (u_ rfl) ?_
                        refine wi4 (pc := 90) (len_s := 3) rfl rfl rfl (fun c18 => ?_) (fun c18 => ?_)
                        · replace t := t.1 c18
                          refine w_t (pc := 107) (e_s := (0, 2, 0, 0, 0, .int (-13), [])) (y_s := (109, [some (.ref _), some (.int _), some (.int _), some (.int _), some (.int _), some (.int _), none], [.int _], _)) rfl (u_ rfl) ?_
                          exact wrI (pc := 109) (len_s := 1) rfl hk t
                        · replace t := t.2 c18
                          refine w_t (pc := 93) (e_s := (1, 2, 4, 0, 0, .null, [])) (y_s := (95, [some (.ref _), some (.int _), some (.int _), some (.int _), some (.int _), some (.int _), none], [.int _], _)) rfl (u_ rfl) ?_
                          refine w_t (pc := 95) (e_s := (3, 1, 0, 0, 0, .null, [])) (y_s := (96, [some (.ref _), some (.int _), some (.int _), some (.int _), some (.int _), some (.int _), none], [.ref _, .int _], _)) rfl (u_ rfl) ?_
                          refine w20r (pc := 96) (len_s := 3) (q_s := 125) rfl (krq hk rfl) ?_
                          refine w_t (pc := 99) (e_s := (1, 1, 3, 0, 0, .null, [])) (y_s := (100, [some (.ref _), some (.int _), some (.int _), some (.int _), some (.int _), some (.int _), none], [.int _, .ref _, .int _], _)) rfl (u_ rfl) ?_
                          refine w22 (pc := 100) (len_s := 1) rfl (hk.1 125 0 6 rfl rfl) (fun c19 => ?_)
                          refine w_t (pc := 101) (e_s := (1, 2, 5, 0, 0, .null, [])) (y_s := (103, [some (.ref _), some (.int _), some (.int _), some (.int _), some (.int _), some (.int _), none], [.int _, .int _, .int _], _)) rfl (u_ rfl) ?_
                          refine w_t (pc := 103) (e_s := (7, 1, 0, 1, 0, .null, [])) (y_s := (104, [some (.ref _), some (.int _), some (.int _), some (.int _), some (.int _), some (.int _), none], [.int (_ - _), .int _], _)) rfl (u_ rfl) ?_
                          refine wi5 (pc := 104) (len_s := 3) rfl rfl rfl (fun c20 => ?_) (fun c20 => ?_)
                          · replace t := t.1 c20
                            refine w_t (pc := 107) (e_s := (0, 2, 0, 0, 0, .int (-13), [])) (y_s := (109, [some (.ref _), some (.int _), some (.int _), some (.int _), some (.int _), some (.int _), none], [.int _], _)) rfl (u_ rfl) ?_
                            exact wrI (pc := 109) (len_s := 1) rfl hk t
                          · replace t := t.2 c20
                            refine w_t (pc := 110) (e_s := (0, 1, 0, 0, 0, .int 0, [])) (y_s := (111, [some (.ref _), some (.int _), some (.int _), some (.int _), some (.int _), some (.int _), none], [.int _], _)) rfl (u_ rfl) ?_
                            refine w_t (pc := 111) (e_s := (4, 2, 6, 0, 0, .null, [])) (y_s := (113, [some (.ref _), some (.int _), some (.int _), some (.int _), some (.int _), some (.int _), some (.int _)], [], _)) rfl (u_ rfl) ?_
                            exact t
                · replace t := t.2 c13
                  refine w_t (pc := 63) (e_s := (0, 2, 0, 0, 0, .int (-12), [])) (y_s := (65, [some (.ref _), some (.int _), some (.int _), some (.int _), some (.int _), some (.int _), none], [.int _], _)) rfl (u_ rfl) ?_
                  exact wrI (pc := 65) (len_s := 1) rfl hk t
/-- ColdShodModel.shift(IIIII)I, from 113 on -/
theorem sg_235_113 {F : Nat} {x1 x2 x3 x4 x5 x6 : Int32} {h : zH} {K : Int32 → zH → Prop} (hk : hKn h) (t : (x6.toInt < x5.toInt → (zix (((60 * x1) + x2) + x6) < 360 → (zix x6 < 60 → wF F 235 (113, [some (.ref 102), some (.int x1), some (.int x2), some (.int x3), some (.int x4), some (.int x5), some (.int (x6 + 1))], [], (h.1, h.2.1, zup h.2.2.1 127 (zix x6) (h.2.2.1 126 (zix (((60 * x1) + x2) + x6))), h.2.2.2)) (gI K)))) ∧ (¬ x6.toInt < x5.toInt → wF F 235 (150, [some (.ref 102), some (.int x1), some (.int x2), some (.int x3), some (.int x4), some (.int x5), some (.int 0)], [], h) (gI K))) : wF (F + 1) 235 (113, [some (.ref 102), some (.int x1), some (.int x2), some (.int x3), some (.int x4), some (.int x5), some (.int x6)], [], h) (gI K) := by
  refine w_0 (pc := 113) (e_s := (1, 2, 6, 0, 0, .null, [])) (y_s := (115, [some (.ref _), some (.int _), some (.int _), some (.int _), some (.int _), some (.int _), some (.int _)], [.int _], _)) rfl (u_ rfl) ?_
  refine w_t (pc := 115) (e_s := (1, 2, 5, 0, 0, .null, [])) (y_s := (117, [some (.ref _), some (.int _), some (.int _), some (.int _), some (.int _), some (.int _), some (.int _)], [.int _, .int _], _)) rfl (u_ rfl) ?_
  refine wi3 (pc := 117) (len_s := 3) rfl rfl rfl (fun c1 => ?_) (fun c1 => ?_)
  · replace t := t.1 c1
    refine w_t (pc := 120) (e_s := (3, 1, 0, 0, 0, .null, [])) (y_s := (121, [some (.ref _), some (.int _), some (.int _), some (.int _), some (.int _), some (.int _), some (.int _)], [.ref _], _)) rfl (u_ rfl) ?_
    refine w20r (pc := 121) (len_s := 3) (q_s := 127) rfl (krq hk rfl) ?_
    refine w_t (pc := 124) (e_s := (1, 2, 6, 0, 0, .null, [])) (y_s := (126, [some (.ref _), some (.int _), some (.int _), some (.int _), some (.int _), some (.int _), some (.int _)], [.int _, .ref _], _)) rfl (u_ rfl) ?_
    refine w_t (pc := 126) (e_s := (3, 1, 0, 0, 0, .null, [])) (y_s := (127, [some (.ref _), some (.int _), some (.int _), some (.int _), some (.int _), some (.int _), some (.int _)], [.ref _, .int _, .ref _], _)) rfl (u_ rfl) ?_
    refine w20r (pc := 127) (len_s := 3) (q_s := 126) rfl (krq hk rfl) ?_
    refine w_t (pc := 130) (e_s := (0, 2, 0, 0, 0, .int 60, [])) (y_s := (132, [some (.ref _), some (.int _), some (.int _), some (.int _), some (.int _), some (.int _), some (.int _)], [.int _, .ref _, .int _, .ref _], _)) rfl (u_ rfl) ?_
    refine w_t (pc := 132) (e_s := (1, 1, 1, 0, 0, .null, [])) (y_s := (133, [some (.ref _), some (.int _), some (.int _), some (.int _), some (.int _), some (.int _), some (.int _)], [.int _, .int _, .ref _, .int _, .ref _], _)) rfl (u_ rfl) ?_
    refine w_t (pc := 133) (e_s := (7, 1, 0, 2, 0, .null, [])) (y_s := (134, [some (.ref _), some (.int _), some (.int _), some (.int _), some (.int _), some (.int _), some (.int _)], [.int (_ * _), .ref _, .int _, .ref _], _)) rfl (u_ rfl) ?_
    refine w_t (pc := 134) (e_s := (1, 1, 2, 0, 0, .null, [])) (y_s := (135, [some (.ref _), some (.int _), some (.int _), some (.int _), some (.int _), some (.int _), some (.int _)], [.int _, .int _, .ref _, .int _, .ref _], _)) rfl (u_ rfl) ?_
    refine w_t (pc := 135) (e_s := (7, 1, 0, 0, 0, .null, [])) (y_s := (136, [some (.ref _), some (.int _), some (.int _), some (.int _), some (.int _), some (.int _), some (.int _)], [.int (_ + _), .ref _, .int _, .ref _], _)) rfl (u_ rfl) ?_
    refine w_t (pc := 136) (e_s := (1, 2, 6, 0, 0, .null, [])) (y_s := (138, [some (.ref _), some (.int _), some (.int _), some (.int _), some (.int _), some (.int _), some (.int _)], [.int _, .int _, .ref _, .int _, .ref _], _)) rfl (u_ rfl) ?_
    refine w_t (pc := 138) (e_s := (7, 1, 0, 0, 0, .null, [])) (y_s := (139, [some (.ref _), some (.int _), some (.int _), some (.int _), some (.int _), some (.int _), some (.int _)], [.int (_ + _), .ref _, .int _, .ref _], _)) rfl (u_ rfl) ?_
    refine w23 (pc := 139) (len_s := 1) rfl (hk.1 126 1 360 rfl rfl) (fun c2 => ?_)
    replace t := t c2
    refine w26 (pc := 140) (len_s := 1) rfl (hk.1 127 1 60 rfl rfl) (fun c3 => ?_)
    replace t := t c3
    refine w_t (pc := 141) (e_s := (19, 3, 6, 0, 0, .int 1, [])) (y_s := (144, [some (.ref _), some (.int _), some (.int _), some (.int _), some (.int _), some (.int _), some (.int _)], [], _)) rfl (u_ rfl) ?_
    refine w_t (pc := 144) (e_s := (17, 3, 113, 0, 0, .null, [])) (y_s := (113, [some (.ref _), some (.int _), some (.int _), some (.int _), some (.int _), some (.int _), some (.int _)], [], _)) rfl (u_ rfl) ?_
    exact t
  · replace t := t.2 c1
    refine w_t (pc := 147) (e_s := (0, 1, 0, 0, 0, .int 0, [])) (y_s := (148, [some (.ref _), some (.int _), some (.int _), some (.int _), some (.int _), some (.int _), some (.int _)], [.int _], _)) rfl (u_ rfl) ?_
    refine w_t (pc := 148) (e_s := (4, 2, 6, 0, 0, .null, [])) (y_s := (150, [some (.ref _), some (.int _), some (.int _), some (.int _), some (.int _), some (.int _), some (.int _)], [], _)) rfl (u_ rfl) ?_
    exact t
/-- ColdShodModel.shift(IIIII)I, from 150 on -/
theorem sg_235_150 {F : Nat} {x1 x2 x3 x4 x5 x6 : Int32} {h : zH} {K : Int32 → zH → Prop} (hk : hKn h) (t : (x6.toInt < x5.toInt → (zix x6 < 60 → (zix (((60 * x3) + x4) + x6) < 360 → wF F 235 (150, [some (.ref 102), some (.int x1), some (.int x2), some (.int x3), some (.int x4), some (.int x5), some (.int (x6 + 1))], [], (h.1, h.2.1, zup h.2.2.1 126 (zix (((60 * x3) + x4) + x6)) (h.2.2.1 127 (zix x6)), h.2.2.2)) (gI K)))) ∧ (¬ x6.toInt < x5.toInt → K x5 h)) : wF (F + 1) 235 (150, [some (.ref 102), some (.int x1), some (.int x2), some (.int x3), some (.int x4), some (.int x5), some (.int x6)], [], h) (gI K) := by
  refine w_0 (pc := 150) (e_s := (1, 2, 6, 0, 0, .null, [])) (y_s := (152, [some (.ref _), some (.int _), some (.int _), some (.int _), some (.int _), some (.int _), some (.int _)], [.int _], _)) rfl (u_ rfl) ?_
  refine w_t (pc := 152) (e_s := (1, 2, 5, 0, 0, .null, [])) (y_s := (154, [some (.ref _), some (.int _), some (.int _), some (.int _), some (.int _), some (.int _), some (.int _)], [.int _, .int _], _)) rfl (u_ rfl) ?_
  refine wi3 (pc := 154) (len_s := 3) rfl rfl rfl (fun c1 => ?_) (fun c1 => ?_)
  · replace t := t.1 c1
    refine w_t (pc := 157) (e_s := (3, 1, 0, 0, 0, .null, [])) (y_s := (158, [some (.ref _), some (.int _), some (.int _), some (.int _), some (.int _), some (.int _), some (.int _)], [.ref _], _)) rfl (u_ rfl) ?_
    refine w20r (pc := 158) (len_s := 3) (q_s := 126) rfl (krq hk rfl) ?_
    refine w_t (pc := 161) (e_s := (0, 2, 0, 0, 0, .int 60, [])) (y_s := (163, [some (.ref _), some (.int _), some (.int _), some (.int _), some (.int _), some (.int _), some (.int _)], [.int _, .ref _], _)) rfl (u_ rfl) ?_
    refine w_t (pc := 163) (e_s := (1, 1, 3, 0, 0, .null, [])) (y_s := (164, [some (.ref _), some (.int _), some (.int _), some (.int _), some (.int _), some (.int _), some (.int _)], [.int _, .int _, .ref _], _)) rfl (u_ rfl) ?_
    refine w_t (pc := 164) (e_s := (7, 1, 0, 2, 0, .null, [])) (y_s := (165, [some (.ref _), some (.int _), some (.int _), some (.int _), some (.int _), some (.int _), some (.int _)], [.int (_ * _), .ref _], _)) rfl (u_ rfl) ?_
    refine w_t (pc := 165) (e_s := (1, 2, 4, 0, 0, .null, [])) (y_s := (167, [some (.ref _), some (.int _), some (.int _), some (.int _), some (.int _), some (.int _), some (.int _)], [.int _, .int _, .ref _], _)) rfl (u_ rfl) ?_
    refine w_t (pc := 167) (e_s := (7, 1, 0, 0, 0, .null, [])) (y_s := (168, [some (.ref _), some (.int _), some (.int _), some (.int _), some (.int _), some (.int _), some (.int _)], [.int (_ + _), .ref _], _)) rfl (u_ rfl) ?_
    refine w_t (pc := 168) (e_s := (1, 2, 6, 0, 0, .null, [])) (y_s := (170, [some (.ref _), some (.int _), some (.int _), some (.int _), some (.int _), some (.int _), some (.int _)], [.int _, .int _, .ref _], _)) rfl (u_ rfl) ?_
    refine w_t (pc := 170) (e_s := (7, 1, 0, 0, 0, .null, [])) (y_s := (171, [some (.ref _), some (.int _), some (.int _), some (.int _), some (.int _), some (.int _), some (.int _)], [.int (_ + _), .ref _], _)) rfl (u_ rfl) ?_
    refine w_t (pc := 171) (e_s := (3, 1, 0, 0, 0, .null, [])) (y_s := (172, [some (.ref _), some (.int _), some (.int _), some (.int _), some (.int _), some (.int _), some (.int _)], [.ref _, .int _, .ref _], _)) rfl (u_ rfl) ?_
    refine w20r (pc := 172) (len_s := 3) (q_s := 127) rfl (krq hk rfl) ?_
    refine w_t (pc := 175) (e_s := (1, 2, 6, 0, 0, .null, [])) (y_s := (177, [some (.ref _), some (.int _), some (.int _), some (.int _), some (.int _), some (.int _), some (.int _)], [.int _, .ref _, .int _, .ref _], _)) rfl (u_ rfl) ?_
    refine w23 (pc := 177) (len_s := 1) rfl (hk.1 127 1 60 rfl rfl) (fun c2 => ?_)
    replace t := t c2
    refine w26 (pc := 178) (len_s := 1) rfl (hk.1 126 1 360 rfl rfl) (fun c3 => ?_)
    replace t := t c3
    refine w_t (pc := 179) (e_s := (19, 3, 6, 0, 0, .int 1, [])) (y_s := (182, [some (.ref _), some (.int _), some (.int _), some (.int _), some (.int _), some (.int _), some (.int _)], [], _)) rfl (u_ rfl) ?_
    refine w_t (pc := 182) (e_s := (17, 3, 150, 0, 0, .null, [])) (y_s := (150, [some (.ref _), some (.int _), some (.int _), some (.int _), some (.int _), some (.int _), some (.int _)], [], _)) rfl (u_ rfl) ?_
    exact t
  · replace t := t.2 c1
    refine w_t (pc := 185) (e_s := (1, 2, 5, 0, 0, .null, [])) (y_s := (187, [some (.ref _), some (.int _), some (.int _), some (.int _), some (.int _), some (.int _), some (.int _)], [.int _], _)) rfl (u_ rfl) ?_
    exact wrI (pc := 187) (len_s := 1) rfl hk t
