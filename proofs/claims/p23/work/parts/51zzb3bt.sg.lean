/-! What ended runs give: printed by a program (wip/fun/sg.py). -/
/-- ColdShod.asks(I)I, from 0 on -/
theorem sg_107_0 {F_s : Nat} {x1_s : Int32} {h_s : zH} {K_s : Int32 → zH → Prop} (hk : hKn h_s) (t_s : (x1_s.toInt < 0 → K_s (-1) h_s) ∧ (¬ x1_s.toInt < 0 → ((x1_s.toInt < (h_s.2.1 7 6).toInt → wF F_s 25 (0, [some (.ref 7), none, none, none, none], [], h_s) (gV (fun h3 => hKn h3 → (zix x1_s < 6 → K_s (h3.2.1 12 (zix x1_s)) h3)))) ∧ (¬ x1_s.toInt < (h_s.2.1 7 6).toInt → K_s (-1) h_s)))) : wF (F_s + 1) 107 (0, [some (.ref 6), some (.int x1_s)], [], h_s) (gI K_s) := by
  refine w_0 (pc := 0) (e_s := (3, 1, 0, 0, 0, .null, [])) (y_s := (1, [some (.ref _), some (.int _)], [.ref _], _)) rfl (u_ rfl) ?_
  refine w20r (pc := 1) (len_s := 3) (q_s := 7) rfl (krq hk rfl) ?_
  refine w_t (pc := 4) (e_s := (1, 1, 1, 0, 0, .null, [])) (y_s := (5, [some (.ref _), some (.int _)], [.int _, .ref _], _)) rfl (u_ rfl) ?_
  refine wcI (pc := 5) (len_s := 3) rfl rfl (l := [some (.ref _), some (.int _)]) rfl ?_
  refine w_t (pc := 0) (e_s := (1, 1, 1, 0, 0, .null, [])) (y_s := (1, [some (.ref _), some (.int _)], [.int _], _)) rfl (u_ rfl) ?_
  refine wq2 (pc := 1) (len_s := 3) rfl rfl (fun c1_s => ?_) (fun c1_s => ?_)
  · replace t_s := t_s.1 c1_s
    refine w_t (pc := 16) (e_s := (0, 1, 0, 0, 0, .int 0, [])) (y_s := (17, [some (.ref _), some (.int _)], [.int _], _)) rfl (u_ rfl) ?_
    refine wrI (pc := 17) (len_s := 1) rfl hk ?_
    show wF _ 107 (8, [some (.ref _), some (.int _)], [.int _], _) _
    refine w_t (pc := 8) (e_s := (15, 3, 13, 1, 0, .null, [])) (y_s := (11, [some (.ref _), some (.int _)], [], _)) rfl (u_ rfl) ?_
    refine w_t (pc := 11) (e_s := (0, 1, 0, 0, 0, .int (-1), [])) (y_s := (12, [some (.ref _), some (.int _)], [.int _], _)) rfl (u_ rfl) ?_
    exact wrI (pc := 12) (len_s := 1) rfl hk t_s
  · replace t_s := t_s.2 c1_s
    refine w_t (pc := 4) (e_s := (1, 1, 1, 0, 0, .null, [])) (y_s := (5, [some (.ref _), some (.int _)], [.int _], _)) rfl (u_ rfl) ?_
    refine w_t (pc := 5) (e_s := (3, 1, 0, 0, 0, .null, [])) (y_s := (6, [some (.ref _), some (.int _)], [.ref _, .int _], _)) rfl (u_ rfl) ?_
    refine w20 (pc := 6) (len_s := 3) rfl ?_
    refine wi3 (pc := 9) (len_s := 3) rfl rfl rfl (fun c2_s => ?_) (fun c2_s => ?_)
    · replace t_s := t_s.1 c2_s
      refine w_t (pc := 12) (e_s := (0, 1, 0, 0, 0, .int 1, [])) (y_s := (13, [some (.ref _), some (.int _)], [.int _], _)) rfl (u_ rfl) ?_
      refine w_t (pc := 13) (e_s := (17, 3, 17, 0, 0, .null, [])) (y_s := (17, [some (.ref _), some (.int _)], [.int _], _)) rfl (u_ rfl) ?_
      refine wrI (pc := 17) (len_s := 1) rfl hk ?_
      show wF _ 107 (8, [some (.ref _), some (.int _)], [.int _], _) _
      refine w_t (pc := 8) (e_s := (15, 3, 13, 1, 0, .null, [])) (y_s := (13, [some (.ref _), some (.int _)], [], _)) rfl (u_ rfl) ?_
      refine w_t (pc := 13) (e_s := (3, 1, 0, 0, 0, .null, [])) (y_s := (14, [some (.ref _), some (.int _)], [.ref _], _)) rfl (u_ rfl) ?_
      refine w20r (pc := 14) (len_s := 3) (q_s := 7) rfl (krq hk rfl) ?_
      refine wcV (pc := 17) (len_s := 3) rfl rfl (l := [some (.ref _), none, none, none, none]) rfl (wmV t_s (fun h3 hk t_s => ?_))
      replace t_s := t_s hk
      refine w_t (pc := 20) (e_s := (3, 1, 0, 0, 0, .null, [])) (y_s := (21, [some (.ref _), some (.int _)], [.ref _], _)) rfl (u_ rfl) ?_
      refine w20r (pc := 21) (len_s := 3) (q_s := 7) rfl (krq hk rfl) ?_
      refine w20r (pc := 24) (len_s := 3) (q_s := 12) rfl (krq hk rfl) ?_
      refine w_t (pc := 27) (e_s := (1, 1, 1, 0, 0, .null, [])) (y_s := (28, [some (.ref _), some (.int _)], [.int _, .ref _], _)) rfl (u_ rfl) ?_
      refine w22 (pc := 28) (len_s := 1) rfl (hk.1 12 0 6 rfl rfl) (fun c4_s => ?_)
      replace t_s := t_s c4_s
      exact wrI (pc := 29) (len_s := 1) rfl hk t_s
    · replace t_s := t_s.2 c2_s
      refine w_t (pc := 16) (e_s := (0, 1, 0, 0, 0, .int 0, [])) (y_s := (17, [some (.ref _), some (.int _)], [.int _], _)) rfl (u_ rfl) ?_
      refine wrI (pc := 17) (len_s := 1) rfl hk ?_
      show wF _ 107 (8, [some (.ref _), some (.int _)], [.int _], _) _
      refine w_t (pc := 8) (e_s := (15, 3, 13, 1, 0, .null, [])) (y_s := (11, [some (.ref _), some (.int _)], [], _)) rfl (u_ rfl) ?_
      refine w_t (pc := 11) (e_s := (0, 1, 0, 0, 0, .int (-1), [])) (y_s := (12, [some (.ref _), some (.int _)], [.int _], _)) rfl (u_ rfl) ?_
      exact wrI (pc := 12) (len_s := 1) rfl hk t_s
/-- ColdShodModel.asks(I)I, from 0 on -/
theorem sg_199_0 {F_s : Nat} {x1_s : Int32} {h_s : zH} {K_s : Int32 → zH → Prop} (hk : hKn h_s) (t_s : (x1_s.toInt < 0 → K_s (-1) h_s) ∧ (¬ x1_s.toInt < 0 → ((((h_s.2.1 102 6) - 1).toInt < x1_s.toInt → K_s (-1) h_s) ∧ (¬ ((h_s.2.1 102 6) - 1).toInt < x1_s.toInt → wF F_s 198 (0, [some (.ref 102), none, none, none, none], [], h_s) (gV (fun h3 => hKn h3 → wF F_s 197 (0, [some (.ref 102), some (.int x1_s), none], [], h3) (gI (fun v4_s h4 => hKn h4 → (v4_s.toInt < 0 → K_s (-2) h4) ∧ (¬ v4_s.toInt < 0 → wF F_s 197 (0, [some (.ref 102), some (.int x1_s), none], [], h4) (gI (fun v6 h6 => hKn h6 → K_s v6 h6))))))))))) : wF (F_s + 1) 199 (0, [some (.ref 102), some (.int x1_s)], [], h_s) (gI K_s) := by
  refine w_0 (pc := 0) (e_s := (3, 1, 0, 0, 0, .null, [])) (y_s := (1, [some (.ref _), some (.int _)], [.ref _], _)) rfl (u_ rfl) ?_
  refine w_t (pc := 1) (e_s := (1, 1, 1, 0, 0, .null, [])) (y_s := (2, [some (.ref _), some (.int _)], [.int _, .ref _], _)) rfl (u_ rfl) ?_
  refine w_t (pc := 2) (e_s := (10, 1, 0, 0, 0, .null, [])) (y_s := (3, [some (.ref _), some (.int _)], [.long (Int32.toInt64 _), .ref _], _)) rfl (u_ rfl) ?_
  refine wcI (pc := 3) (len_s := 3) rfl rfl (l := [some (.ref _), some (.long _), none]) rfl ?_
  refine w_t (pc := 0) (e_s := (2, 1, 1, 0, 0, .null, [])) (y_s := (1, [some (.ref _), some (.long _), none], [.long _], _)) rfl (u_ rfl) ?_
  refine w_t (pc := 1) (e_s := (0, 1, 0, 0, 0, .long 0, [])) (y_s := (2, [some (.ref _), some (.long _), none], [.long _, .long _], _)) rfl (u_ rfl) ?_
  refine w_t (pc := 2) (e_s := (3, 1, 0, 0, 0, .null, [])) (y_s := (3, [some (.ref _), some (.long _), none], [.ref _, .long _, .long _], _)) rfl (u_ rfl) ?_
  refine w20 (pc := 3) (len_s := 3) rfl ?_
  refine w_t (pc := 6) (e_s := (0, 1, 0, 0, 0, .int 1, [])) (y_s := (7, [some (.ref _), some (.long _), none], [.int _, .int _, .long _, .long _], _)) rfl (u_ rfl) ?_
  refine w_t (pc := 7) (e_s := (7, 1, 0, 1, 0, .null, [])) (y_s := (8, [some (.ref _), some (.long _), none], [.int (_ - _), .long _, .long _], _)) rfl (u_ rfl) ?_
  refine w_t (pc := 8) (e_s := (10, 1, 0, 0, 0, .null, [])) (y_s := (9, [some (.ref _), some (.long _), none], [.long (Int32.toInt64 _), .long _, .long _], _)) rfl (u_ rfl) ?_
  refine wcI (pc := 9) (len_s := 3) rfl rfl (l := [some (.long _), none, some (.long _), none, some (.long _), none]) rfl ?_
  refine w_t (pc := 0) (e_s := (2, 1, 0, 0, 0, .null, [])) (y_s := (1, [some (.long _), none, some (.long _), none, some (.long _), none], [.long _], _)) rfl (u_ rfl) ?_
  refine w_t (pc := 1) (e_s := (2, 1, 2, 0, 0, .null, [])) (y_s := (2, [some (.long _), none, some (.long _), none, some (.long _), none], [.long _, .long _], _)) rfl (u_ rfl) ?_
  refine w_t (pc := 2) (e_s := (14, 1, 0, 0, 0, .null, [])) (y_s := (3, [some (.long _), none, some (.long _), none, some (.long _), none], [.int (lg_cmp _ _)], _)) rfl (u_ rfl) ?_
  refine wl2 (pc := 3) (len_s := 3) (Y := 0) rfl (Int32.toInt_toInt64 _) (by decide) (fun c1_s => ?_) (fun c1_s => ?_)
  · replace t_s := t_s.1 c1_s
    refine w_t (pc := 17) (e_s := (0, 1, 0, 0, 0, .int 0, [])) (y_s := (18, [some (.long _), none, some (.long _), none, some (.long _), none], [.int _], _)) rfl (u_ rfl) ?_
    refine wrI (pc := 18) (len_s := 1) rfl hk ?_
    show wF _ 151 (12, [some (.ref _), some (.long _), none], [.int _], _) _
    refine wrI (pc := 12) (len_s := 1) rfl hk ?_
    show wF _ 199 (6, [some (.ref _), some (.int _)], [.int _], _) _
    refine w_t (pc := 6) (e_s := (15, 3, 11, 1, 0, .null, [])) (y_s := (9, [some (.ref _), some (.int _)], [], _)) rfl (u_ rfl) ?_
    refine w_t (pc := 9) (e_s := (0, 1, 0, 0, 0, .int (-1), [])) (y_s := (10, [some (.ref _), some (.int _)], [.int _], _)) rfl (u_ rfl) ?_
    exact wrI (pc := 10) (len_s := 1) rfl hk t_s
  · replace t_s := t_s.2 c1_s
    refine w_t (pc := 6) (e_s := (2, 1, 0, 0, 0, .null, [])) (y_s := (7, [some (.long _), none, some (.long _), none, some (.long _), none], [.long _], _)) rfl (u_ rfl) ?_
    refine w_t (pc := 7) (e_s := (2, 2, 4, 0, 0, .null, [])) (y_s := (9, [some (.long _), none, some (.long _), none, some (.long _), none], [.long _, .long _], _)) rfl (u_ rfl) ?_
    refine w_t (pc := 9) (e_s := (14, 1, 0, 0, 0, .null, [])) (y_s := (10, [some (.long _), none, some (.long _), none, some (.long _), none], [.int (lg_cmp _ _)], _)) rfl (u_ rfl) ?_
    refine wl4 (pc := 10) (len_s := 3) rfl (Int32.toInt_toInt64 _) (Int32.toInt_toInt64 _) (fun c2_s => ?_) (fun c2_s => ?_)
    · replace t_s := t_s.1 c2_s
      refine w_t (pc := 17) (e_s := (0, 1, 0, 0, 0, .int 0, [])) (y_s := (18, [some (.long _), none, some (.long _), none, some (.long _), none], [.int _], _)) rfl (u_ rfl) ?_
      refine wrI (pc := 18) (len_s := 1) rfl hk ?_
      show wF _ 151 (12, [some (.ref _), some (.long _), none], [.int _], _) _
      refine wrI (pc := 12) (len_s := 1) rfl hk ?_
      show wF _ 199 (6, [some (.ref _), some (.int _)], [.int _], _) _
      refine w_t (pc := 6) (e_s := (15, 3, 11, 1, 0, .null, [])) (y_s := (9, [some (.ref _), some (.int _)], [], _)) rfl (u_ rfl) ?_
      refine w_t (pc := 9) (e_s := (0, 1, 0, 0, 0, .int (-1), [])) (y_s := (10, [some (.ref _), some (.int _)], [.int _], _)) rfl (u_ rfl) ?_
      exact wrI (pc := 10) (len_s := 1) rfl hk t_s
    · replace t_s := t_s.2 c2_s
      refine w_t (pc := 13) (e_s := (0, 1, 0, 0, 0, .int 1, [])) (y_s := (14, [some (.long _), none, some (.long _), none, some (.long _), none], [.int _], _)) rfl (u_ rfl) ?_
      refine w_t (pc := 14) (e_s := (17, 3, 18, 0, 0, .null, [])) (y_s := (18, [some (.long _), none, some (.long _), none, some (.long _), none], [.int _], _)) rfl (u_ rfl) ?_
      refine wrI (pc := 18) (len_s := 1) rfl hk ?_
      show wF _ 151 (12, [some (.ref _), some (.long _), none], [.int _], _) _
      refine wrI (pc := 12) (len_s := 1) rfl hk ?_
      show wF _ 199 (6, [some (.ref _), some (.int _)], [.int _], _) _
      refine w_t (pc := 6) (e_s := (15, 3, 11, 1, 0, .null, [])) (y_s := (11, [some (.ref _), some (.int _)], [], _)) rfl (u_ rfl) ?_
      refine w_t (pc := 11) (e_s := (3, 1, 0, 0, 0, .null, [])) (y_s := (12, [some (.ref _), some (.int _)], [.ref _], _)) rfl (u_ rfl) ?_
      refine wcV (pc := 12) (len_s := 3) rfl rfl (l := [some (.ref _), none, none, none, none]) rfl (wmV t_s (fun h3 hk t_s => ?_))
      replace t_s := t_s hk
      refine w_t (pc := 15) (e_s := (3, 1, 0, 0, 0, .null, [])) (y_s := (16, [some (.ref _), some (.int _)], [.ref _], _)) rfl (u_ rfl) ?_
      refine w_t (pc := 16) (e_s := (1, 1, 1, 0, 0, .null, [])) (y_s := (17, [some (.ref _), some (.int _)], [.int _, .ref _], _)) rfl (u_ rfl) ?_
      refine wcI (pc := 17) (len_s := 3) rfl rfl (l := [some (.ref _), some (.int _), none]) rfl (wmI t_s (fun v4_s h4 hk t_s => ?_))
      replace t_s := t_s hk
      refine wq3 (pc := 20) (len_s := 3) rfl rfl (fun c5_s => ?_) (fun c5_s => ?_)
      · replace t_s := t_s.1 c5_s
        refine w_t (pc := 23) (e_s := (0, 2, 0, 0, 0, .int (-2), [])) (y_s := (25, [some (.ref _), some (.int _)], [.int _], _)) rfl (u_ rfl) ?_
        refine w_t (pc := 25) (e_s := (17, 3, 33, 0, 0, .null, [])) (y_s := (33, [some (.ref _), some (.int _)], [.int _], _)) rfl (u_ rfl) ?_
        exact wrI (pc := 33) (len_s := 1) rfl hk t_s
      · replace t_s := t_s.2 c5_s
        refine w_t (pc := 28) (e_s := (3, 1, 0, 0, 0, .null, [])) (y_s := (29, [some (.ref _), some (.int _)], [.ref _], _)) rfl (u_ rfl) ?_
        refine w_t (pc := 29) (e_s := (1, 1, 1, 0, 0, .null, [])) (y_s := (30, [some (.ref _), some (.int _)], [.int _, .ref _], _)) rfl (u_ rfl) ?_
        refine wcI (pc := 30) (len_s := 3) rfl rfl (l := [some (.ref _), some (.int _), none]) rfl (wmI t_s (fun v6 h6 hk t_s => ?_))
        replace t_s := t_s hk
        exact wrI (pc := 33) (len_s := 1) rfl hk t_s
/-- ColdShod.settled()I, from 0 on -/
theorem sg_108_0 {F_s : Nat}  {h_s : zH} {K_s : Int32 → zH → Prop} (hk : hKn h_s) (t_s : wF F_s 30 (0, [some (.ref 7), none, none, none], [], h_s) (gI (fun v1_s h1 => hKn h1 → (v1_s.toInt = 0 → K_s 0 h1) ∧ (¬ v1_s.toInt = 0 → K_s 1 h1)))) : wF (F_s + 1) 108 (0, [some (.ref 6)], [], h_s) (gI K_s) := by
  refine w_0 (pc := 0) (e_s := (3, 1, 0, 0, 0, .null, [])) (y_s := (1, [some (.ref _)], [.ref _], _)) rfl (u_ rfl) ?_
  refine w20r (pc := 1) (len_s := 3) (q_s := 7) rfl (krq hk rfl) ?_
  refine wcI (pc := 4) (len_s := 3) rfl rfl (l := [some (.ref _), none, none, none]) rfl (wmI t_s (fun v1_s h1 hk t_s => ?_))
  replace t_s := t_s hk
  refine wq0 (pc := 7) (len_s := 3) rfl rfl (fun c2_s => ?_) (fun c2_s => ?_)
  · replace t_s := t_s.1 c2_s
    refine w_t (pc := 14) (e_s := (0, 1, 0, 0, 0, .int 0, [])) (y_s := (15, [some (.ref _)], [.int _], _)) rfl (u_ rfl) ?_
    exact wrI (pc := 15) (len_s := 1) rfl hk t_s
  · replace t_s := t_s.2 c2_s
    refine w_t (pc := 10) (e_s := (0, 1, 0, 0, 0, .int 1, [])) (y_s := (11, [some (.ref _)], [.int _], _)) rfl (u_ rfl) ?_
    refine w_t (pc := 11) (e_s := (17, 3, 15, 0, 0, .null, [])) (y_s := (15, [some (.ref _)], [.int _], _)) rfl (u_ rfl) ?_
    exact wrI (pc := 15) (len_s := 1) rfl hk t_s
/-- ColdShod$Country.isSettled()Z, from 0 on -/
theorem sg_30_0 {F_s : Nat}  {h_s : zH} {K_s : Int32 → zH → Prop} (hk : hKn h_s) (t_s : wF F_s 240 (0, [some (.ref 12), some (.int (-2)), none, none], [], h_s) (gV (fun h1 => hKn h1 → wF F_s 30 (11, [some (.ref 7), some (.int 0), none, none], [], h1) (gI K_s)))) : wF (F_s + 1) 30 (0, [some (.ref 7), none, none, none], [], h_s) (gI K_s) := by
  refine w_0 (pc := 0) (e_s := (3, 1, 0, 0, 0, .null, [])) (y_s := (1, [some (.ref _), none, none, none], [.ref _], _)) rfl (u_ rfl) ?_
  refine w20r (pc := 1) (len_s := 3) (q_s := 12) rfl (krq hk rfl) ?_
  refine w_t (pc := 4) (e_s := (0, 2, 0, 0, 0, .int (-2), [])) (y_s := (6, [some (.ref _), none, none, none], [.int _, .ref _], _)) rfl (u_ rfl) ?_
  refine wcV (pc := 6) (len_s := 3) rfl rfl (l := [some (.ref _), some (.int _), none, none]) rfl (wmV t_s (fun h1 hk t_s => ?_))
  replace t_s := t_s hk
  refine w_t (pc := 9) (e_s := (0, 1, 0, 0, 0, .int 0, [])) (y_s := (10, [some (.ref _), none, none, none], [.int _], _)) rfl (u_ rfl) ?_
  refine w_t (pc := 10) (e_s := (4, 1, 1, 0, 0, .null, [])) (y_s := (11, [some (.ref _), some (.int _), none, none], [], _)) rfl (u_ rfl) ?_
  exact t_s
/-- ColdShod$Country.isSettled()Z, from 11 on -/
theorem sg_30_11 {F_s : Nat} {x1_s : Int32} {l2 l3 : Option Value} {h_s : zH} {K_s : Int32 → zH → Prop} (hk : hKn h_s) (t_s : (x1_s.toInt < (h_s.2.1 7 7).toInt → (zix x1_s < 8 → ((h_s.2.1 (20 + (zix x1_s)) 6).toInt < 0 → wF F_s 30 (11, [some (.ref 7), some (.int (x1_s + 1)), some (.int (h_s.2.1 (20 + (zix x1_s)) 6)), l3], [], h_s) (gI K_s)) ∧ (¬ (h_s.2.1 (20 + (zix x1_s)) 6).toInt < 0 → (((h_s.2.1 (20 + (zix x1_s)) 6).toInt < (h_s.2.1 7 6).toInt → (zix (h_s.2.1 (20 + (zix x1_s)) 6) < 6 → ((h_s.2.1 12 (zix (h_s.2.1 (20 + (zix x1_s)) 6))).toInt = -2 → wF F_s 30 (11, [some (.ref 7), some (.int (x1_s + 1)), some (.int (h_s.2.1 (20 + (zix x1_s)) 6)), l3], [], (h_s.1, zup h_s.2.1 12 (zix (h_s.2.1 (20 + (zix x1_s)) 6)) x1_s, h_s.2.2.1, h_s.2.2.2)) (gI K_s)) ∧ (¬ (h_s.2.1 12 (zix (h_s.2.1 (20 + (zix x1_s)) 6))).toInt = -2 → K_s 0 h_s))) ∧ (¬ (h_s.2.1 (20 + (zix x1_s)) 6).toInt < (h_s.2.1 7 6).toInt → wF F_s 30 (11, [some (.ref 7), some (.int (x1_s + 1)), some (.int (h_s.2.1 (20 + (zix x1_s)) 6)), l3], [], h_s) (gI K_s)))))) ∧ (¬ x1_s.toInt < (h_s.2.1 7 7).toInt → wF F_s 30 (68, [some (.ref 7), some (.int 0), l2, l3], [], h_s) (gI K_s))) : wF (F_s + 1) 30 (11, [some (.ref 7), some (.int x1_s), l2, l3], [], h_s) (gI K_s) := by
  refine w_0 (pc := 11) (e_s := (1, 1, 1, 0, 0, .null, [])) (y_s := (12, [some (.ref _), some (.int _), _, _], [.int _], _)) rfl (u_ rfl) ?_
  refine w_t (pc := 12) (e_s := (3, 1, 0, 0, 0, .null, [])) (y_s := (13, [some (.ref _), some (.int _), _, _], [.ref _, .int _], _)) rfl (u_ rfl) ?_
  refine w20 (pc := 13) (len_s := 3) rfl ?_
  refine wi3 (pc := 16) (len_s := 3) rfl rfl rfl (fun c1_s => ?_) (fun c1_s => ?_)
  · replace t_s := t_s.1 c1_s
    refine w_t (pc := 19) (e_s := (3, 1, 0, 0, 0, .null, [])) (y_s := (20, [some (.ref _), some (.int _), _, _], [.ref _], _)) rfl (u_ rfl) ?_
    refine w20r (pc := 20) (len_s := 3) (q_s := 10) rfl (krq hk rfl) ?_
    refine w_t (pc := 23) (e_s := (1, 1, 1, 0, 0, .null, [])) (y_s := (24, [some (.ref _), some (.int _), _, _], [.int _, .ref _], _)) rfl (u_ rfl) ?_
    refine w24 (g_s := fun j_ => 20 + j_) (pc := 24) (len_s := 1) hk rfl (hk.1 10 2 8 rfl rfl) kg10 (fun c2_s => ?_)
    replace t_s := t_s c2_s
    refine w20 (pc := 25) (len_s := 3) rfl ?_
    refine w_t (pc := 28) (e_s := (4, 1, 2, 0, 0, .null, [])) (y_s := (29, [some (.ref _), some (.int _), some (.int _), _], [], _)) rfl (u_ rfl) ?_
    refine w_t (pc := 29) (e_s := (3, 1, 0, 0, 0, .null, [])) (y_s := (30, [some (.ref _), some (.int _), some (.int _), _], [.ref _], _)) rfl (u_ rfl) ?_
    refine w_t (pc := 30) (e_s := (1, 1, 2, 0, 0, .null, [])) (y_s := (31, [some (.ref _), some (.int _), some (.int _), _], [.int _, .ref _], _)) rfl (u_ rfl) ?_
    refine wcI (pc := 31) (len_s := 3) rfl rfl (l := [some (.ref _), some (.int _)]) rfl ?_
    refine w_t (pc := 0) (e_s := (1, 1, 1, 0, 0, .null, [])) (y_s := (1, [some (.ref _), some (.int _)], [.int _], _)) rfl (u_ rfl) ?_
    refine wq2 (pc := 1) (len_s := 3) rfl rfl (fun c3_s => ?_) (fun c3_s => ?_)
    · replace t_s := t_s.1 c3_s
      refine w_t (pc := 16) (e_s := (0, 1, 0, 0, 0, .int 0, [])) (y_s := (17, [some (.ref _), some (.int _)], [.int _], _)) rfl (u_ rfl) ?_
      refine wrI (pc := 17) (len_s := 1) rfl hk ?_
      show wF _ 30 (34, [some (.ref _), some (.int _), some (.int _), _], [.int _], _) _
      refine w_t (pc := 34) (e_s := (15, 3, 40, 1, 0, .null, [])) (y_s := (37, [some (.ref _), some (.int _), some (.int _), _], [], _)) rfl (u_ rfl) ?_
      refine w_t (pc := 37) (e_s := (17, 3, 60, 0, 0, .null, [])) (y_s := (60, [some (.ref _), some (.int _), some (.int _), _], [], _)) rfl (u_ rfl) ?_
      refine w_t (pc := 60) (e_s := (19, 3, 1, 0, 0, .int 1, [])) (y_s := (63, [some (.ref _), some (.int _), some (.int _), _], [], _)) rfl (u_ rfl) ?_
      refine w_t (pc := 63) (e_s := (17, 3, 11, 0, 0, .null, [])) (y_s := (11, [some (.ref _), some (.int _), some (.int _), _], [], _)) rfl (u_ rfl) ?_
      exact t_s
    · replace t_s := t_s.2 c3_s
      refine w_t (pc := 4) (e_s := (1, 1, 1, 0, 0, .null, [])) (y_s := (5, [some (.ref _), some (.int _)], [.int _], _)) rfl (u_ rfl) ?_
      refine w_t (pc := 5) (e_s := (3, 1, 0, 0, 0, .null, [])) (y_s := (6, [some (.ref _), some (.int _)], [.ref _, .int _], _)) rfl (u_ rfl) ?_
      refine w20 (pc := 6) (len_s := 3) rfl ?_
      refine wi3 (pc := 9) (len_s := 3) rfl rfl rfl (fun c4_s => ?_) (fun c4_s => ?_)
      · replace t_s := t_s.1 c4_s
        refine w_t (pc := 12) (e_s := (0, 1, 0, 0, 0, .int 1, [])) (y_s := (13, [some (.ref _), some (.int _)], [.int _], _)) rfl (u_ rfl) ?_
        refine w_t (pc := 13) (e_s := (17, 3, 17, 0, 0, .null, [])) (y_s := (17, [some (.ref _), some (.int _)], [.int _], _)) rfl (u_ rfl) ?_
        refine wrI (pc := 17) (len_s := 1) rfl hk ?_
        show wF _ 30 (34, [some (.ref _), some (.int _), some (.int _), _], [.int _], _) _
        refine w_t (pc := 34) (e_s := (15, 3, 40, 1, 0, .null, [])) (y_s := (40, [some (.ref _), some (.int _), some (.int _), _], [], _)) rfl (u_ rfl) ?_
        refine w_t (pc := 40) (e_s := (3, 1, 0, 0, 0, .null, [])) (y_s := (41, [some (.ref _), some (.int _), some (.int _), _], [.ref _], _)) rfl (u_ rfl) ?_
        refine w20r (pc := 41) (len_s := 3) (q_s := 12) rfl (krq hk rfl) ?_
        refine w_t (pc := 44) (e_s := (1, 1, 2, 0, 0, .null, [])) (y_s := (45, [some (.ref _), some (.int _), some (.int _), _], [.int _, .ref _], _)) rfl (u_ rfl) ?_
        refine w22 (pc := 45) (len_s := 1) rfl (hk.1 12 0 6 rfl rfl) (fun c5_s => ?_)
        replace t_s := t_s c5_s
        refine w_t (pc := 46) (e_s := (0, 2, 0, 0, 0, .int (-2), [])) (y_s := (48, [some (.ref _), some (.int _), some (.int _), _], [.int _, .int _], _)) rfl (u_ rfl) ?_
        refine wi0 (pc := 48) (len_s := 3) (Y := -2) rfl rfl (by decide) (fun c6_s => ?_) (fun c6_s => ?_)
        · replace t_s := t_s.1 c6_s
          refine w_t (pc := 53) (e_s := (3, 1, 0, 0, 0, .null, [])) (y_s := (54, [some (.ref _), some (.int _), some (.int _), _], [.ref _], _)) rfl (u_ rfl) ?_
          refine w20r (pc := 54) (len_s := 3) (q_s := 12) rfl (krq hk rfl) ?_
          refine w_t (pc := 57) (e_s := (1, 1, 2, 0, 0, .null, [])) (y_s := (58, [some (.ref _), some (.int _), some (.int _), _], [.int _, .ref _], _)) rfl (u_ rfl) ?_
          refine w_t (pc := 58) (e_s := (1, 1, 1, 0, 0, .null, [])) (y_s := (59, [some (.ref _), some (.int _), some (.int _), _], [.int _, .int _, .ref _], _)) rfl (u_ rfl) ?_
          refine w25 (pc := 59) (len_s := 1) rfl (hk.1 12 0 6 rfl rfl) (fun c7_s => ?_)
          refine w_t (pc := 60) (e_s := (19, 3, 1, 0, 0, .int 1, [])) (y_s := (63, [some (.ref _), some (.int _), some (.int _), _], [], _)) rfl (u_ rfl) ?_
          refine w_t (pc := 63) (e_s := (17, 3, 11, 0, 0, .null, [])) (y_s := (11, [some (.ref _), some (.int _), some (.int _), _], [], _)) rfl (u_ rfl) ?_
          exact t_s
        · replace t_s := t_s.2 c6_s
          refine w_t (pc := 51) (e_s := (0, 1, 0, 0, 0, .int 0, [])) (y_s := (52, [some (.ref _), some (.int _), some (.int _), _], [.int _], _)) rfl (u_ rfl) ?_
          exact wrI (pc := 52) (len_s := 1) rfl hk t_s
      · replace t_s := t_s.2 c4_s
        refine w_t (pc := 16) (e_s := (0, 1, 0, 0, 0, .int 0, [])) (y_s := (17, [some (.ref _), some (.int _)], [.int _], _)) rfl (u_ rfl) ?_
        refine wrI (pc := 17) (len_s := 1) rfl hk ?_
        show wF _ 30 (34, [some (.ref _), some (.int _), some (.int _), _], [.int _], _) _
        refine w_t (pc := 34) (e_s := (15, 3, 40, 1, 0, .null, [])) (y_s := (37, [some (.ref _), some (.int _), some (.int _), _], [], _)) rfl (u_ rfl) ?_
        refine w_t (pc := 37) (e_s := (17, 3, 60, 0, 0, .null, [])) (y_s := (60, [some (.ref _), some (.int _), some (.int _), _], [], _)) rfl (u_ rfl) ?_
        refine w_t (pc := 60) (e_s := (19, 3, 1, 0, 0, .int 1, [])) (y_s := (63, [some (.ref _), some (.int _), some (.int _), _], [], _)) rfl (u_ rfl) ?_
        refine w_t (pc := 63) (e_s := (17, 3, 11, 0, 0, .null, [])) (y_s := (11, [some (.ref _), some (.int _), some (.int _), _], [], _)) rfl (u_ rfl) ?_
        exact t_s
  · replace t_s := t_s.2 c1_s
    refine w_t (pc := 66) (e_s := (0, 1, 0, 0, 0, .int 0, [])) (y_s := (67, [some (.ref _), some (.int _), _, _], [.int _], _)) rfl (u_ rfl) ?_
    refine w_t (pc := 67) (e_s := (4, 1, 1, 0, 0, .null, [])) (y_s := (68, [some (.ref _), some (.int _), _, _], [], _)) rfl (u_ rfl) ?_
    exact t_s
/-- ColdShod$Country.isSettled()Z, from 68 on -/
theorem sg_30_68 {F_s : Nat} {x1_s : Int32} {l2 l3 : Option Value} {h_s : zH} {K_s : Int32 → zH → Prop} (hk : hKn h_s) (t_s : (x1_s.toInt < (h_s.2.1 7 6).toInt → wF F_s 30 (78, [some (.ref 7), some (.int x1_s), some (.int 0), l3], [], h_s) (gI K_s)) ∧ (¬ x1_s.toInt < (h_s.2.1 7 6).toInt → K_s 1 h_s)) : wF (F_s + 1) 30 (68, [some (.ref 7), some (.int x1_s), l2, l3], [], h_s) (gI K_s) := by
  refine w_0 (pc := 68) (e_s := (1, 1, 1, 0, 0, .null, [])) (y_s := (69, [some (.ref _), some (.int _), _, _], [.int _], _)) rfl (u_ rfl) ?_
  refine w_t (pc := 69) (e_s := (3, 1, 0, 0, 0, .null, [])) (y_s := (70, [some (.ref _), some (.int _), _, _], [.ref _, .int _], _)) rfl (u_ rfl) ?_
  refine w20 (pc := 70) (len_s := 3) rfl ?_
  refine wi3 (pc := 73) (len_s := 3) rfl rfl rfl (fun c1_s => ?_) (fun c1_s => ?_)
  · replace t_s := t_s.1 c1_s
    refine w_t (pc := 76) (e_s := (0, 1, 0, 0, 0, .int 0, [])) (y_s := (77, [some (.ref _), some (.int _), _, _], [.int _], _)) rfl (u_ rfl) ?_
    refine w_t (pc := 77) (e_s := (4, 1, 2, 0, 0, .null, [])) (y_s := (78, [some (.ref _), some (.int _), some (.int _), _], [], _)) rfl (u_ rfl) ?_
    exact t_s
  · replace t_s := t_s.2 c1_s
    refine w_t (pc := 155) (e_s := (0, 1, 0, 0, 0, .int 1, [])) (y_s := (156, [some (.ref _), some (.int _), _, _], [.int _], _)) rfl (u_ rfl) ?_
    exact wrI (pc := 156) (len_s := 1) rfl hk t_s
/-- ColdShod$Country.isSettled()Z, from 78 on -/
theorem sg_30_78 {F_s : Nat} {x1_s x2_s : Int32} {l3 : Option Value} {h_s : zH} {K_s : Int32 → zH → Prop} (hk : hKn h_s) (t_s : (x2_s.toInt < (h_s.2.1 7 7).toInt → (zix x2_s < 8 → ((h_s.2.1 (20 + (zix x2_s)) 6).toInt = x1_s.toInt → wF F_s 30 (105, [some (.ref 7), some (.int x1_s), some (.int x2_s), some (.int 0)], [], h_s) (gI K_s)) ∧ (¬ (h_s.2.1 (20 + (zix x2_s)) 6).toInt = x1_s.toInt → wF F_s 30 (105, [some (.ref 7), some (.int x1_s), some (.int x2_s), some (.int 1)], [], h_s) (gI K_s)))) ∧ (¬ x2_s.toInt < (h_s.2.1 7 7).toInt → wF F_s 30 (68, [some (.ref 7), some (.int (x1_s + 1)), some (.int x2_s), l3], [], h_s) (gI K_s))) : wF (F_s + 1) 30 (78, [some (.ref 7), some (.int x1_s), some (.int x2_s), l3], [], h_s) (gI K_s) := by
  refine w_0 (pc := 78) (e_s := (1, 1, 2, 0, 0, .null, [])) (y_s := (79, [some (.ref _), some (.int _), some (.int _), _], [.int _], _)) rfl (u_ rfl) ?_
  refine w_t (pc := 79) (e_s := (3, 1, 0, 0, 0, .null, [])) (y_s := (80, [some (.ref _), some (.int _), some (.int _), _], [.ref _, .int _], _)) rfl (u_ rfl) ?_
  refine w20 (pc := 80) (len_s := 3) rfl ?_
  refine wi3 (pc := 83) (len_s := 3) rfl rfl rfl (fun c1_s => ?_) (fun c1_s => ?_)
  · replace t_s := t_s.1 c1_s
    refine w_t (pc := 86) (e_s := (3, 1, 0, 0, 0, .null, [])) (y_s := (87, [some (.ref _), some (.int _), some (.int _), _], [.ref _], _)) rfl (u_ rfl) ?_
    refine w20r (pc := 87) (len_s := 3) (q_s := 10) rfl (krq hk rfl) ?_
    refine w_t (pc := 90) (e_s := (1, 1, 2, 0, 0, .null, [])) (y_s := (91, [some (.ref _), some (.int _), some (.int _), _], [.int _, .ref _], _)) rfl (u_ rfl) ?_
    refine w24 (g_s := fun j_ => 20 + j_) (pc := 91) (len_s := 1) hk rfl (hk.1 10 2 8 rfl rfl) kg10 (fun c2_s => ?_)
    replace t_s := t_s c2_s
    refine w20 (pc := 92) (len_s := 3) rfl ?_
    refine w_t (pc := 95) (e_s := (1, 1, 1, 0, 0, .null, [])) (y_s := (96, [some (.ref _), some (.int _), some (.int _), _], [.int _, .int _], _)) rfl (u_ rfl) ?_
    refine wi0 (pc := 96) (len_s := 3) rfl rfl rfl (fun c3_s => ?_) (fun c3_s => ?_)
    · replace t_s := t_s.1 c3_s
      refine w_t (pc := 103) (e_s := (0, 1, 0, 0, 0, .int 0, [])) (y_s := (104, [some (.ref _), some (.int _), some (.int _), _], [.int _], _)) rfl (u_ rfl) ?_
      refine w_t (pc := 104) (e_s := (4, 1, 3, 0, 0, .null, [])) (y_s := (105, [some (.ref _), some (.int _), some (.int _), some (.int _)], [], _)) rfl (u_ rfl) ?_
      exact t_s
    · replace t_s := t_s.2 c3_s
      refine w_t (pc := 99) (e_s := (0, 1, 0, 0, 0, .int 1, [])) (y_s := (100, [some (.ref _), some (.int _), some (.int _), _], [.int _], _)) rfl (u_ rfl) ?_
      refine w_t (pc := 100) (e_s := (17, 3, 104, 0, 0, .null, [])) (y_s := (104, [some (.ref _), some (.int _), some (.int _), _], [.int _], _)) rfl (u_ rfl) ?_
      refine w_t (pc := 104) (e_s := (4, 1, 3, 0, 0, .null, [])) (y_s := (105, [some (.ref _), some (.int _), some (.int _), some (.int _)], [], _)) rfl (u_ rfl) ?_
      exact t_s
  · replace t_s := t_s.2 c1_s
    refine w_t (pc := 149) (e_s := (19, 3, 1, 0, 0, .int 1, [])) (y_s := (152, [some (.ref _), some (.int _), some (.int _), _], [], _)) rfl (u_ rfl) ?_
    refine w_t (pc := 152) (e_s := (17, 3, 68, 0, 0, .null, [])) (y_s := (68, [some (.ref _), some (.int _), some (.int _), _], [], _)) rfl (u_ rfl) ?_
    exact t_s
/-- ColdShod$Country.isSettled()Z, from 105 on -/
theorem sg_30_105 {F_s : Nat} {x1_s x2_s x3 : Int32} {h_s : zH} {K_s : Int32 → zH → Prop} (hk : hKn h_s) (t_s : (x3.toInt = 0 → wF F_s 30 (78, [some (.ref 7), some (.int x1_s), some (.int (x2_s + 1)), some (.int x3)], [], h_s) (gI K_s)) ∧ (¬ x3.toInt = 0 → (zix x1_s < 6 → wF F_s 29 (0, [some (.ref 7), some (.int x1_s), some (.int x2_s), some (.int (h_s.2.1 12 (zix x1_s))), none, none], [], h_s) (gI (fun v3 h3 => hKn h3 → (v3.toInt = 0 → wF F_s 30 (78, [some (.ref 7), some (.int x1_s), some (.int (x2_s + 1)), some (.int x3)], [], h3) (gI K_s)) ∧ (¬ v3.toInt = 0 → (zix x2_s < 8 → wF F_s 28 (0, [some (.ref 7), some (.int x1_s), some (.int (h3.2.1 (20 + (zix x2_s)) 6))], [], h3) (gI (fun v6 h6 => hKn h6 → (v6.toInt = 0 → wF F_s 30 (78, [some (.ref 7), some (.int x1_s), some (.int (x2_s + 1)), some (.int x3)], [], h6) (gI K_s)) ∧ (¬ v6.toInt = 0 → K_s 0 h6)))))))))) : wF (F_s + 1) 30 (105, [some (.ref 7), some (.int x1_s), some (.int x2_s), some (.int x3)], [], h_s) (gI K_s) := by
  refine w_0 (pc := 105) (e_s := (1, 1, 3, 0, 0, .null, [])) (y_s := (106, [some (.ref _), some (.int _), some (.int _), some (.int _)], [.int _], _)) rfl (u_ rfl) ?_
  refine wq0 (pc := 106) (len_s := 3) rfl rfl (fun c1_s => ?_) (fun c1_s => ?_)
  · replace t_s := t_s.1 c1_s
    refine w_t (pc := 143) (e_s := (19, 3, 2, 0, 0, .int 1, [])) (y_s := (146, [some (.ref _), some (.int _), some (.int _), some (.int _)], [], _)) rfl (u_ rfl) ?_
    refine w_t (pc := 146) (e_s := (17, 3, 78, 0, 0, .null, [])) (y_s := (78, [some (.ref _), some (.int _), some (.int _), some (.int _)], [], _)) rfl (u_ rfl) ?_
    exact t_s
  · replace t_s := t_s.2 c1_s
    refine w_t (pc := 109) (e_s := (3, 1, 0, 0, 0, .null, [])) (y_s := (110, [some (.ref _), some (.int _), some (.int _), some (.int _)], [.ref _], _)) rfl (u_ rfl) ?_
    refine w_t (pc := 110) (e_s := (1, 1, 1, 0, 0, .null, [])) (y_s := (111, [some (.ref _), some (.int _), some (.int _), some (.int _)], [.int _, .ref _], _)) rfl (u_ rfl) ?_
    refine w_t (pc := 111) (e_s := (1, 1, 2, 0, 0, .null, [])) (y_s := (112, [some (.ref _), some (.int _), some (.int _), some (.int _)], [.int _, .int _, .ref _], _)) rfl (u_ rfl) ?_
    refine w_t (pc := 112) (e_s := (3, 1, 0, 0, 0, .null, [])) (y_s := (113, [some (.ref _), some (.int _), some (.int _), some (.int _)], [.ref _, .int _, .int _, .ref _], _)) rfl (u_ rfl) ?_
    refine w20r (pc := 113) (len_s := 3) (q_s := 12) rfl (krq hk rfl) ?_
    refine w_t (pc := 116) (e_s := (1, 1, 1, 0, 0, .null, [])) (y_s := (117, [some (.ref _), some (.int _), some (.int _), some (.int _)], [.int _, .ref _, .int _, .int _, .ref _], _)) rfl (u_ rfl) ?_
    refine w22 (pc := 117) (len_s := 1) rfl (hk.1 12 0 6 rfl rfl) (fun c2_s => ?_)
    replace t_s := t_s c2_s
    refine wcI (pc := 118) (len_s := 3) rfl rfl (l := [some (.ref _), some (.int _), some (.int _), some (.int _), none, none]) rfl (wmI t_s (fun v3 h3 hk t_s => ?_))
    replace t_s := t_s hk
    refine wq0 (pc := 121) (len_s := 3) rfl rfl (fun c4_s => ?_) (fun c4_s => ?_)
    · replace t_s := t_s.1 c4_s
      refine w_t (pc := 143) (e_s := (19, 3, 2, 0, 0, .int 1, [])) (y_s := (146, [some (.ref _), some (.int _), some (.int _), some (.int _)], [], _)) rfl (u_ rfl) ?_
      refine w_t (pc := 146) (e_s := (17, 3, 78, 0, 0, .null, [])) (y_s := (78, [some (.ref _), some (.int _), some (.int _), some (.int _)], [], _)) rfl (u_ rfl) ?_
      exact t_s
    · replace t_s := t_s.2 c4_s
      refine w_t (pc := 124) (e_s := (3, 1, 0, 0, 0, .null, [])) (y_s := (125, [some (.ref _), some (.int _), some (.int _), some (.int _)], [.ref _], _)) rfl (u_ rfl) ?_
      refine w_t (pc := 125) (e_s := (1, 1, 1, 0, 0, .null, [])) (y_s := (126, [some (.ref _), some (.int _), some (.int _), some (.int _)], [.int _, .ref _], _)) rfl (u_ rfl) ?_
      refine w_t (pc := 126) (e_s := (3, 1, 0, 0, 0, .null, [])) (y_s := (127, [some (.ref _), some (.int _), some (.int _), some (.int _)], [.ref _, .int _, .ref _], _)) rfl (u_ rfl) ?_
      refine w20r (pc := 127) (len_s := 3) (q_s := 10) rfl (krq hk rfl) ?_
      refine w_t (pc := 130) (e_s := (1, 1, 2, 0, 0, .null, [])) (y_s := (131, [some (.ref _), some (.int _), some (.int _), some (.int _)], [.int _, .ref _, .int _, .ref _], _)) rfl (u_ rfl) ?_
      refine w24 (g_s := fun j_ => 20 + j_) (pc := 131) (len_s := 1) hk rfl (hk.1 10 2 8 rfl rfl) kg10 (fun c5_s => ?_)
      replace t_s := t_s c5_s
      refine w20 (pc := 132) (len_s := 3) rfl ?_
      refine wcI (pc := 135) (len_s := 3) rfl rfl (l := [some (.ref _), some (.int _), some (.int _)]) rfl (wmI t_s (fun v6 h6 hk t_s => ?_))
      replace t_s := t_s hk
      refine wq0 (pc := 138) (len_s := 3) rfl rfl (fun c7_s => ?_) (fun c7_s => ?_)
      · replace t_s := t_s.1 c7_s
        refine w_t (pc := 143) (e_s := (19, 3, 2, 0, 0, .int 1, [])) (y_s := (146, [some (.ref _), some (.int _), some (.int _), some (.int _)], [], _)) rfl (u_ rfl) ?_
        refine w_t (pc := 146) (e_s := (17, 3, 78, 0, 0, .null, [])) (y_s := (78, [some (.ref _), some (.int _), some (.int _), some (.int _)], [], _)) rfl (u_ rfl) ?_
        exact t_s
      · replace t_s := t_s.2 c7_s
        refine w_t (pc := 141) (e_s := (0, 1, 0, 0, 0, .int 0, [])) (y_s := (142, [some (.ref _), some (.int _), some (.int _), some (.int _)], [.int _], _)) rfl (u_ rfl) ?_
        exact wrI (pc := 142) (len_s := 1) rfl hk t_s
/-- ColdShodModel.settled()I, from 0 on -/
theorem sg_200_0 {F_s : Nat}  {h_s : zH} {K_s : Int32 → zH → Prop} (hk : hKn h_s) (t_s : wF F_s 200 (2, [some (.ref 102), some (.int 0), none, none, none, none], [], h_s) (gI K_s)) : wF (F_s + 1) 200 (0, [some (.ref 102), none, none, none, none, none], [], h_s) (gI K_s) := by
  refine w_0 (pc := 0) (e_s := (0, 1, 0, 0, 0, .int 0, [])) (y_s := (1, [some (.ref _), none, none, none, none, none], [.int _], _)) rfl (u_ rfl) ?_
  refine w_t (pc := 1) (e_s := (4, 1, 1, 0, 0, .null, [])) (y_s := (2, [some (.ref _), some (.int _), none, none, none, none], [], _)) rfl (u_ rfl) ?_
  exact t_s
/-- ColdShodModel.settled()I, from 2 on -/
theorem sg_200_2 {F_s : Nat} {x1_s : Int32} {l2 l3 l4 l5 : Option Value} {h_s : zH} {K_s : Int32 → zH → Prop} (hk : hKn h_s) (t_s : (x1_s.toInt < (h_s.2.1 102 7).toInt → (zix (60 + x1_s) < 104 → (zix x1_s < 8 → wF F_s 200 (2, [some (.ref 102), some (.int (x1_s + 1)), l2, l3, l4, l5], [], (h_s.1, zup h_s.2.1 116 (zix x1_s) (h_s.2.1 103 (zix (60 + x1_s))), h_s.2.2.1, h_s.2.2.2)) (gI K_s)))) ∧ (¬ x1_s.toInt < (h_s.2.1 102 7).toInt → wF F_s 200 (33, [some (.ref 102), some (.int 0), l2, l3, l4, l5], [], h_s) (gI K_s))) : wF (F_s + 1) 200 (2, [some (.ref 102), some (.int x1_s), l2, l3, l4, l5], [], h_s) (gI K_s) := by
  refine w_0 (pc := 2) (e_s := (1, 1, 1, 0, 0, .null, [])) (y_s := (3, [some (.ref _), some (.int _), _, _, _, _], [.int _], _)) rfl (u_ rfl) ?_
  refine w_t (pc := 3) (e_s := (3, 1, 0, 0, 0, .null, [])) (y_s := (4, [some (.ref _), some (.int _), _, _, _, _], [.ref _, .int _], _)) rfl (u_ rfl) ?_
  refine w20 (pc := 4) (len_s := 3) rfl ?_
  refine wi3 (pc := 7) (len_s := 3) rfl rfl rfl (fun c1_s => ?_) (fun c1_s => ?_)
  · replace t_s := t_s.1 c1_s
    refine w_t (pc := 10) (e_s := (3, 1, 0, 0, 0, .null, [])) (y_s := (11, [some (.ref _), some (.int _), _, _, _, _], [.ref _], _)) rfl (u_ rfl) ?_
    refine w20r (pc := 11) (len_s := 3) (q_s := 116) rfl (krq hk rfl) ?_
    refine w_t (pc := 14) (e_s := (1, 1, 1, 0, 0, .null, [])) (y_s := (15, [some (.ref _), some (.int _), _, _, _, _], [.int _, .ref _], _)) rfl (u_ rfl) ?_
    refine w_t (pc := 15) (e_s := (3, 1, 0, 0, 0, .null, [])) (y_s := (16, [some (.ref _), some (.int _), _, _, _, _], [.ref _, .int _, .ref _], _)) rfl (u_ rfl) ?_
    refine w20r (pc := 16) (len_s := 3) (q_s := 103) rfl (krq hk rfl) ?_
    refine w_t (pc := 19) (e_s := (0, 2, 0, 0, 0, .int 60, [])) (y_s := (21, [some (.ref _), some (.int _), _, _, _, _], [.int _, .ref _, .int _, .ref _], _)) rfl (u_ rfl) ?_
    refine w_t (pc := 21) (e_s := (1, 1, 1, 0, 0, .null, [])) (y_s := (22, [some (.ref _), some (.int _), _, _, _, _], [.int _, .int _, .ref _, .int _, .ref _], _)) rfl (u_ rfl) ?_
    refine w_t (pc := 22) (e_s := (7, 1, 0, 0, 0, .null, [])) (y_s := (23, [some (.ref _), some (.int _), _, _, _, _], [.int (_ + _), .ref _, .int _, .ref _], _)) rfl (u_ rfl) ?_
    refine w22 (pc := 23) (len_s := 1) rfl (hk.1 103 0 104 rfl rfl) (fun c2_s => ?_)
    replace t_s := t_s c2_s
    refine w25 (pc := 24) (len_s := 1) rfl (hk.1 116 0 8 rfl rfl) (fun c3_s => ?_)
    replace t_s := t_s c3_s
    refine w_t (pc := 25) (e_s := (19, 3, 1, 0, 0, .int 1, [])) (y_s := (28, [some (.ref _), some (.int _), _, _, _, _], [], _)) rfl (u_ rfl) ?_
    refine w_t (pc := 28) (e_s := (17, 3, 2, 0, 0, .null, [])) (y_s := (2, [some (.ref _), some (.int _), _, _, _, _], [], _)) rfl (u_ rfl) ?_
    exact t_s
  · replace t_s := t_s.2 c1_s
    refine w_t (pc := 31) (e_s := (0, 1, 0, 0, 0, .int 0, [])) (y_s := (32, [some (.ref _), some (.int _), _, _, _, _], [.int _], _)) rfl (u_ rfl) ?_
    refine w_t (pc := 32) (e_s := (4, 1, 1, 0, 0, .null, [])) (y_s := (33, [some (.ref _), some (.int _), _, _, _, _], [], _)) rfl (u_ rfl) ?_
    exact t_s
/-- ColdShodModel.settled()I, from 33 on -/
theorem sg_200_33 {F_s : Nat} {x1_s : Int32} {l2 l3 l4 l5 : Option Value} {h_s : zH} {K_s : Int32 → zH → Prop} (hk : hKn h_s) (t_s : (x1_s.toInt < (h_s.2.1 102 7).toInt → wF F_s 200 (43, [some (.ref 102), some (.int x1_s), some (.int 0), l3, l4, l5], [], h_s) (gI K_s)) ∧ (¬ x1_s.toInt < (h_s.2.1 102 7).toInt → wF F_s 200 (88, [some (.ref 102), some (.int 0), l2, l3, l4, l5], [], h_s) (gI K_s))) : wF (F_s + 1) 200 (33, [some (.ref 102), some (.int x1_s), l2, l3, l4, l5], [], h_s) (gI K_s) := by
  refine w_0 (pc := 33) (e_s := (1, 1, 1, 0, 0, .null, [])) (y_s := (34, [some (.ref _), some (.int _), _, _, _, _], [.int _], _)) rfl (u_ rfl) ?_
  refine w_t (pc := 34) (e_s := (3, 1, 0, 0, 0, .null, [])) (y_s := (35, [some (.ref _), some (.int _), _, _, _, _], [.ref _, .int _], _)) rfl (u_ rfl) ?_
  refine w20 (pc := 35) (len_s := 3) rfl ?_
  refine wi3 (pc := 38) (len_s := 3) rfl rfl rfl (fun c1_s => ?_) (fun c1_s => ?_)
  · replace t_s := t_s.1 c1_s
    refine w_t (pc := 41) (e_s := (0, 1, 0, 0, 0, .int 0, [])) (y_s := (42, [some (.ref _), some (.int _), _, _, _, _], [.int _], _)) rfl (u_ rfl) ?_
    refine w_t (pc := 42) (e_s := (4, 1, 2, 0, 0, .null, [])) (y_s := (43, [some (.ref _), some (.int _), some (.int _), _, _, _], [], _)) rfl (u_ rfl) ?_
    exact t_s
  · replace t_s := t_s.2 c1_s
    refine w_t (pc := 86) (e_s := (0, 1, 0, 0, 0, .int 0, [])) (y_s := (87, [some (.ref _), some (.int _), _, _, _, _], [.int _], _)) rfl (u_ rfl) ?_
    refine w_t (pc := 87) (e_s := (4, 1, 1, 0, 0, .null, [])) (y_s := (88, [some (.ref _), some (.int _), _, _, _, _], [], _)) rfl (u_ rfl) ?_
    exact t_s
/-- ColdShodModel.settled()I, from 43 on -/
theorem sg_200_43 {F_s : Nat} {x1_s x2_s : Int32} {l3 l4 l5 : Option Value} {h_s : zH} {K_s : Int32 → zH → Prop} (hk : hKn h_s) (t_s : (x2_s.toInt < x1_s.toInt → (zix x1_s < 8 → ((h_s.2.1 116 (zix x1_s)).toInt < 0 → wF F_s 200 (43, [some (.ref 102), some (.int x1_s), some (.int (x2_s + 1)), l3, l4, l5], [], h_s) (gI K_s)) ∧ (¬ (h_s.2.1 116 (zix x1_s)).toInt < 0 → (zix x2_s < 8 → ((h_s.2.1 116 (zix x1_s)).toInt = (h_s.2.1 116 (zix x2_s)).toInt → K_s 0 h_s) ∧ (¬ (h_s.2.1 116 (zix x1_s)).toInt = (h_s.2.1 116 (zix x2_s)).toInt → wF F_s 200 (43, [some (.ref 102), some (.int x1_s), some (.int (x2_s + 1)), l3, l4, l5], [], h_s) (gI K_s)))))) ∧ (¬ x2_s.toInt < x1_s.toInt → wF F_s 200 (33, [some (.ref 102), some (.int (x1_s + 1)), some (.int x2_s), l3, l4, l5], [], h_s) (gI K_s))) : wF (F_s + 1) 200 (43, [some (.ref 102), some (.int x1_s), some (.int x2_s), l3, l4, l5], [], h_s) (gI K_s) := by
  refine w_0 (pc := 43) (e_s := (1, 1, 2, 0, 0, .null, [])) (y_s := (44, [some (.ref _), some (.int _), some (.int _), _, _, _], [.int _], _)) rfl (u_ rfl) ?_
  refine w_t (pc := 44) (e_s := (1, 1, 1, 0, 0, .null, [])) (y_s := (45, [some (.ref _), some (.int _), some (.int _), _, _, _], [.int _, .int _], _)) rfl (u_ rfl) ?_
  refine wi3 (pc := 45) (len_s := 3) rfl rfl rfl (fun c1_s => ?_) (fun c1_s => ?_)
  · replace t_s := t_s.1 c1_s
    refine w_t (pc := 48) (e_s := (3, 1, 0, 0, 0, .null, [])) (y_s := (49, [some (.ref _), some (.int _), some (.int _), _, _, _], [.ref _], _)) rfl (u_ rfl) ?_
    refine w20r (pc := 49) (len_s := 3) (q_s := 116) rfl (krq hk rfl) ?_
    refine w_t (pc := 52) (e_s := (1, 1, 1, 0, 0, .null, [])) (y_s := (53, [some (.ref _), some (.int _), some (.int _), _, _, _], [.int _, .ref _], _)) rfl (u_ rfl) ?_
    refine w22 (pc := 53) (len_s := 1) rfl (hk.1 116 0 8 rfl rfl) (fun c2_s => ?_)
    replace t_s := t_s c2_s
    refine wq2 (pc := 54) (len_s := 3) rfl rfl (fun c3_s => ?_) (fun c3_s => ?_)
    · replace t_s := t_s.1 c3_s
      refine w_t (pc := 74) (e_s := (19, 3, 2, 0, 0, .int 1, [])) (y_s := (77, [some (.ref _), some (.int _), some (.int _), _, _, _], [], _)) rfl (u_ rfl) ?_
      refine w_t (pc := 77) (e_s := (17, 3, 43, 0, 0, .null, [])) (y_s := (43, [some (.ref _), some (.int _), some (.int _), _, _, _], [], _)) rfl (u_ rfl) ?_
      exact t_s
    · replace t_s := t_s.2 c3_s
      refine w_t (pc := 57) (e_s := (3, 1, 0, 0, 0, .null, [])) (y_s := (58, [some (.ref _), some (.int _), some (.int _), _, _, _], [.ref _], _)) rfl (u_ rfl) ?_
      refine w20r (pc := 58) (len_s := 3) (q_s := 116) rfl (krq hk rfl) ?_
      refine w_t (pc := 61) (e_s := (1, 1, 1, 0, 0, .null, [])) (y_s := (62, [some (.ref _), some (.int _), some (.int _), _, _, _], [.int _, .ref _], _)) rfl (u_ rfl) ?_
      refine w22 (pc := 62) (len_s := 1) rfl (hk.1 116 0 8 rfl rfl) (fun c4_s => ?_)
      refine w_t (pc := 63) (e_s := (3, 1, 0, 0, 0, .null, [])) (y_s := (64, [some (.ref _), some (.int _), some (.int _), _, _, _], [.ref _, .int _], _)) rfl (u_ rfl) ?_
      refine w20r (pc := 64) (len_s := 3) (q_s := 116) rfl (krq hk rfl) ?_
      refine w_t (pc := 67) (e_s := (1, 1, 2, 0, 0, .null, [])) (y_s := (68, [some (.ref _), some (.int _), some (.int _), _, _, _], [.int _, .ref _, .int _], _)) rfl (u_ rfl) ?_
      refine w22 (pc := 68) (len_s := 1) rfl (hk.1 116 0 8 rfl rfl) (fun c5_s => ?_)
      replace t_s := t_s c5_s
      refine wi1 (pc := 69) (len_s := 3) rfl rfl rfl (fun c6_s => ?_) (fun c6_s => ?_)
      · replace t_s := t_s.1 c6_s
        refine w_t (pc := 72) (e_s := (0, 1, 0, 0, 0, .int 0, [])) (y_s := (73, [some (.ref _), some (.int _), some (.int _), _, _, _], [.int _], _)) rfl (u_ rfl) ?_
        exact wrI (pc := 73) (len_s := 1) rfl hk t_s
      · replace t_s := t_s.2 c6_s
        refine w_t (pc := 74) (e_s := (19, 3, 2, 0, 0, .int 1, [])) (y_s := (77, [some (.ref _), some (.int _), some (.int _), _, _, _], [], _)) rfl (u_ rfl) ?_
        refine w_t (pc := 77) (e_s := (17, 3, 43, 0, 0, .null, [])) (y_s := (43, [some (.ref _), some (.int _), some (.int _), _, _, _], [], _)) rfl (u_ rfl) ?_
        exact t_s
  · replace t_s := t_s.2 c1_s
    refine w_t (pc := 80) (e_s := (19, 3, 1, 0, 0, .int 1, [])) (y_s := (83, [some (.ref _), some (.int _), some (.int _), _, _, _], [], _)) rfl (u_ rfl) ?_
    refine w_t (pc := 83) (e_s := (17, 3, 33, 0, 0, .null, [])) (y_s := (33, [some (.ref _), some (.int _), some (.int _), _, _, _], [], _)) rfl (u_ rfl) ?_
    exact t_s
/-- ColdShodModel.settled()I, from 88 on -/
theorem sg_200_88 {F_s : Nat} {x1_s : Int32} {l2 l3 l4 l5 : Option Value} {h_s : zH} {K_s : Int32 → zH → Prop} (hk : hKn h_s) (t_s : (x1_s.toInt < (h_s.2.1 102 6).toInt → wF F_s 197 (0, [some (.ref 102), some (.int x1_s), none], [], h_s) (gI (fun v2 h2 => hKn h2 → wF F_s 200 (104, [some (.ref 102), some (.int x1_s), some (.int v2), some (.int 0), l4, l5], [], h2) (gI K_s)))) ∧ (¬ x1_s.toInt < (h_s.2.1 102 6).toInt → K_s 1 h_s)) : wF (F_s + 1) 200 (88, [some (.ref 102), some (.int x1_s), l2, l3, l4, l5], [], h_s) (gI K_s) := by
  refine w_0 (pc := 88) (e_s := (1, 1, 1, 0, 0, .null, [])) (y_s := (89, [some (.ref _), some (.int _), _, _, _, _], [.int _], _)) rfl (u_ rfl) ?_
  refine w_t (pc := 89) (e_s := (3, 1, 0, 0, 0, .null, [])) (y_s := (90, [some (.ref _), some (.int _), _, _, _, _], [.ref _, .int _], _)) rfl (u_ rfl) ?_
  refine w20 (pc := 90) (len_s := 3) rfl ?_
  refine wi3 (pc := 93) (len_s := 3) rfl rfl rfl (fun c1_s => ?_) (fun c1_s => ?_)
  · replace t_s := t_s.1 c1_s
    refine w_t (pc := 96) (e_s := (3, 1, 0, 0, 0, .null, [])) (y_s := (97, [some (.ref _), some (.int _), _, _, _, _], [.ref _], _)) rfl (u_ rfl) ?_
    refine w_t (pc := 97) (e_s := (1, 1, 1, 0, 0, .null, [])) (y_s := (98, [some (.ref _), some (.int _), _, _, _, _], [.int _, .ref _], _)) rfl (u_ rfl) ?_
    refine wcI (pc := 98) (len_s := 3) rfl rfl (l := [some (.ref _), some (.int _), none]) rfl (wmI t_s (fun v2 h2 hk t_s => ?_))
    replace t_s := t_s hk
    refine w_t (pc := 101) (e_s := (4, 1, 2, 0, 0, .null, [])) (y_s := (102, [some (.ref _), some (.int _), some (.int _), _, _, _], [], _)) rfl (u_ rfl) ?_
    refine w_t (pc := 102) (e_s := (0, 1, 0, 0, 0, .int 0, [])) (y_s := (103, [some (.ref _), some (.int _), some (.int _), _, _, _], [.int _], _)) rfl (u_ rfl) ?_
    refine w_t (pc := 103) (e_s := (4, 1, 3, 0, 0, .null, [])) (y_s := (104, [some (.ref _), some (.int _), some (.int _), some (.int _), _, _], [], _)) rfl (u_ rfl) ?_
    exact t_s
  · replace t_s := t_s.2 c1_s
    refine w_t (pc := 202) (e_s := (0, 1, 0, 0, 0, .int 1, [])) (y_s := (203, [some (.ref _), some (.int _), _, _, _, _], [.int _], _)) rfl (u_ rfl) ?_
    exact wrI (pc := 203) (len_s := 1) rfl hk t_s
/-- ColdShodModel.settled()I, from 104 on -/
theorem sg_200_104 {F_s : Nat} {x1_s x2_s x3 : Int32} {l4 l5 : Option Value} {h_s : zH} {K_s : Int32 → zH → Prop} (hk : hKn h_s) (t_s : (x3.toInt < (h_s.2.1 102 7).toInt → ((x2_s.toInt < 0 → wF F_s 200 (138, [some (.ref 102), some (.int x1_s), some (.int x2_s), some (.int x3), some (.int 1), l5], [], h_s) (gI K_s)) ∧ (¬ x2_s.toInt < 0 → ((x2_s.toInt = x3.toInt → wF F_s 200 (138, [some (.ref 102), some (.int x1_s), some (.int x2_s), some (.int x3), some (.int 0), l5], [], h_s) (gI K_s)) ∧ (¬ x2_s.toInt = x3.toInt → wF F_s 195 (0, [some (.ref 102), some (.int x1_s), some (.int x3), some (.int x2_s), none, none], [], h_s) (gI (fun v4_s h4 => hKn h4 → (v4_s.toInt = 0 → wF F_s 200 (138, [some (.ref 102), some (.int x1_s), some (.int x2_s), some (.int x3), some (.int 0), l5], [], h4) (gI K_s)) ∧ (¬ v4_s.toInt = 0 → wF F_s 200 (138, [some (.ref 102), some (.int x1_s), some (.int x2_s), some (.int x3), some (.int 1), l5], [], h4) (gI K_s))))))))) ∧ (¬ x3.toInt < (h_s.2.1 102 7).toInt → wF F_s 200 (88, [some (.ref 102), some (.int (x1_s + 1)), some (.int x2_s), some (.int x3), l4, l5], [], h_s) (gI K_s))) : wF (F_s + 1) 200 (104, [some (.ref 102), some (.int x1_s), some (.int x2_s), some (.int x3), l4, l5], [], h_s) (gI K_s) := by
  refine w_0 (pc := 104) (e_s := (1, 1, 3, 0, 0, .null, [])) (y_s := (105, [some (.ref _), some (.int _), some (.int _), some (.int _), _, _], [.int _], _)) rfl (u_ rfl) ?_
  refine w_t (pc := 105) (e_s := (3, 1, 0, 0, 0, .null, [])) (y_s := (106, [some (.ref _), some (.int _), some (.int _), some (.int _), _, _], [.ref _, .int _], _)) rfl (u_ rfl) ?_
  refine w20 (pc := 106) (len_s := 3) rfl ?_
  refine wi3 (pc := 109) (len_s := 3) rfl rfl rfl (fun c1_s => ?_) (fun c1_s => ?_)
  · replace t_s := t_s.1 c1_s
    refine w_t (pc := 112) (e_s := (1, 1, 2, 0, 0, .null, [])) (y_s := (113, [some (.ref _), some (.int _), some (.int _), some (.int _), _, _], [.int _], _)) rfl (u_ rfl) ?_
    refine wq2 (pc := 113) (len_s := 3) rfl rfl (fun c2_s => ?_) (fun c2_s => ?_)
    · replace t_s := t_s.1 c2_s
      refine w_t (pc := 131) (e_s := (0, 1, 0, 0, 0, .int 1, [])) (y_s := (132, [some (.ref _), some (.int _), some (.int _), some (.int _), _, _], [.int _], _)) rfl (u_ rfl) ?_
      refine w_t (pc := 132) (e_s := (17, 3, 136, 0, 0, .null, [])) (y_s := (136, [some (.ref _), some (.int _), some (.int _), some (.int _), _, _], [.int _], _)) rfl (u_ rfl) ?_
      refine w_t (pc := 136) (e_s := (4, 2, 4, 0, 0, .null, [])) (y_s := (138, [some (.ref _), some (.int _), some (.int _), some (.int _), some (.int _), _], [], _)) rfl (u_ rfl) ?_
      exact t_s
    · replace t_s := t_s.2 c2_s
      refine w_t (pc := 116) (e_s := (1, 1, 2, 0, 0, .null, [])) (y_s := (117, [some (.ref _), some (.int _), some (.int _), some (.int _), _, _], [.int _], _)) rfl (u_ rfl) ?_
      refine w_t (pc := 117) (e_s := (1, 1, 3, 0, 0, .null, [])) (y_s := (118, [some (.ref _), some (.int _), some (.int _), some (.int _), _, _], [.int _, .int _], _)) rfl (u_ rfl) ?_
      refine wi0 (pc := 118) (len_s := 3) rfl rfl rfl (fun c3_s => ?_) (fun c3_s => ?_)
      · replace t_s := t_s.1 c3_s
        refine w_t (pc := 135) (e_s := (0, 1, 0, 0, 0, .int 0, [])) (y_s := (136, [some (.ref _), some (.int _), some (.int _), some (.int _), _, _], [.int _], _)) rfl (u_ rfl) ?_
        refine w_t (pc := 136) (e_s := (4, 2, 4, 0, 0, .null, [])) (y_s := (138, [some (.ref _), some (.int _), some (.int _), some (.int _), some (.int _), _], [], _)) rfl (u_ rfl) ?_
        exact t_s
      · replace t_s := t_s.2 c3_s
        refine w_t (pc := 121) (e_s := (3, 1, 0, 0, 0, .null, [])) (y_s := (122, [some (.ref _), some (.int _), some (.int _), some (.int _), _, _], [.ref _], _)) rfl (u_ rfl) ?_
        refine w_t (pc := 122) (e_s := (1, 1, 1, 0, 0, .null, [])) (y_s := (123, [some (.ref _), some (.int _), some (.int _), some (.int _), _, _], [.int _, .ref _], _)) rfl (u_ rfl) ?_
        refine w_t (pc := 123) (e_s := (1, 1, 3, 0, 0, .null, [])) (y_s := (124, [some (.ref _), some (.int _), some (.int _), some (.int _), _, _], [.int _, .int _, .ref _], _)) rfl (u_ rfl) ?_
        refine w_t (pc := 124) (e_s := (1, 1, 2, 0, 0, .null, [])) (y_s := (125, [some (.ref _), some (.int _), some (.int _), some (.int _), _, _], [.int _, .int _, .int _, .ref _], _)) rfl (u_ rfl) ?_
        refine wcI (pc := 125) (len_s := 3) rfl rfl (l := [some (.ref _), some (.int _), some (.int _), some (.int _), none, none]) rfl (wmI t_s (fun v4_s h4 hk t_s => ?_))
        replace t_s := t_s hk
        refine wq0 (pc := 128) (len_s := 3) rfl rfl (fun c5_s => ?_) (fun c5_s => ?_)
        · replace t_s := t_s.1 c5_s
          refine w_t (pc := 135) (e_s := (0, 1, 0, 0, 0, .int 0, [])) (y_s := (136, [some (.ref _), some (.int _), some (.int _), some (.int _), _, _], [.int _], _)) rfl (u_ rfl) ?_
          refine w_t (pc := 136) (e_s := (4, 2, 4, 0, 0, .null, [])) (y_s := (138, [some (.ref _), some (.int _), some (.int _), some (.int _), some (.int _), _], [], _)) rfl (u_ rfl) ?_
          exact t_s
        · replace t_s := t_s.2 c5_s
          refine w_t (pc := 131) (e_s := (0, 1, 0, 0, 0, .int 1, [])) (y_s := (132, [some (.ref _), some (.int _), some (.int _), some (.int _), _, _], [.int _], _)) rfl (u_ rfl) ?_
          refine w_t (pc := 132) (e_s := (17, 3, 136, 0, 0, .null, [])) (y_s := (136, [some (.ref _), some (.int _), some (.int _), some (.int _), _, _], [.int _], _)) rfl (u_ rfl) ?_
          refine w_t (pc := 136) (e_s := (4, 2, 4, 0, 0, .null, [])) (y_s := (138, [some (.ref _), some (.int _), some (.int _), some (.int _), some (.int _), _], [], _)) rfl (u_ rfl) ?_
          exact t_s
  · replace t_s := t_s.2 c1_s
    refine w_t (pc := 196) (e_s := (19, 3, 1, 0, 0, .int 1, [])) (y_s := (199, [some (.ref _), some (.int _), some (.int _), some (.int _), _, _], [], _)) rfl (u_ rfl) ?_
    refine w_t (pc := 199) (e_s := (17, 3, 88, 0, 0, .null, [])) (y_s := (88, [some (.ref _), some (.int _), some (.int _), some (.int _), _, _], [], _)) rfl (u_ rfl) ?_
    exact t_s
/-- ColdShodModel.settled()I, from 138 on -/
theorem sg_200_138 {F_s : Nat} {x1_s x2_s x3 x4_s : Int32} {l5 : Option Value} {h_s : zH} {K_s : Int32 → zH → Prop} (hk : hKn h_s) (t_s : (zix x3 < 8 → ((h_s.2.1 116 (zix x3)).toInt < 0 → wF F_s 200 (178, [some (.ref 102), some (.int x1_s), some (.int x2_s), some (.int x3), some (.int x4_s), some (.int 1)], [], h_s) (gI K_s)) ∧ (¬ (h_s.2.1 116 (zix x3)).toInt < 0 → (((h_s.2.1 116 (zix x3)).toInt = x1_s.toInt → wF F_s 200 (178, [some (.ref 102), some (.int x1_s), some (.int x2_s), some (.int x3), some (.int x4_s), some (.int 0)], [], h_s) (gI K_s)) ∧ (¬ (h_s.2.1 116 (zix x3)).toInt = x1_s.toInt → wF F_s 196 (0, [some (.ref 102), some (.int x1_s), some (.int (h_s.2.1 116 (zix x3)))], [], h_s) (gI (fun v6 h6 => hKn h6 → (v6.toInt = 0 → wF F_s 200 (178, [some (.ref 102), some (.int x1_s), some (.int x2_s), some (.int x3), some (.int x4_s), some (.int 0)], [], h6) (gI K_s)) ∧ (¬ v6.toInt = 0 → wF F_s 200 (178, [some (.ref 102), some (.int x1_s), some (.int x2_s), some (.int x3), some (.int x4_s), some (.int 1)], [], h6) (gI K_s))))))))) : wF (F_s + 1) 200 (138, [some (.ref 102), some (.int x1_s), some (.int x2_s), some (.int x3), some (.int x4_s), l5], [], h_s) (gI K_s) := by
  refine w_0 (pc := 138) (e_s := (3, 1, 0, 0, 0, .null, [])) (y_s := (139, [some (.ref _), some (.int _), some (.int _), some (.int _), some (.int _), _], [.ref _], _)) rfl (u_ rfl) ?_
  refine w20r (pc := 139) (len_s := 3) (q_s := 116) rfl (krq hk rfl) ?_
  refine w_t (pc := 142) (e_s := (1, 1, 3, 0, 0, .null, [])) (y_s := (143, [some (.ref _), some (.int _), some (.int _), some (.int _), some (.int _), _], [.int _, .ref _], _)) rfl (u_ rfl) ?_
  refine w22 (pc := 143) (len_s := 1) rfl (hk.1 116 0 8 rfl rfl) (fun c1_s => ?_)
  replace t_s := t_s c1_s
  refine wq2 (pc := 144) (len_s := 3) rfl rfl (fun c2_s => ?_) (fun c2_s => ?_)
  · replace t_s := t_s.1 c2_s
    refine w_t (pc := 171) (e_s := (0, 1, 0, 0, 0, .int 1, [])) (y_s := (172, [some (.ref _), some (.int _), some (.int _), some (.int _), some (.int _), _], [.int _], _)) rfl (u_ rfl) ?_
    refine w_t (pc := 172) (e_s := (17, 3, 176, 0, 0, .null, [])) (y_s := (176, [some (.ref _), some (.int _), some (.int _), some (.int _), some (.int _), _], [.int _], _)) rfl (u_ rfl) ?_
    refine w_t (pc := 176) (e_s := (4, 2, 5, 0, 0, .null, [])) (y_s := (178, [some (.ref _), some (.int _), some (.int _), some (.int _), some (.int _), some (.int _)], [], _)) rfl (u_ rfl) ?_
    exact t_s
  · replace t_s := t_s.2 c2_s
    refine w_t (pc := 147) (e_s := (3, 1, 0, 0, 0, .null, [])) (y_s := (148, [some (.ref _), some (.int _), some (.int _), some (.int _), some (.int _), _], [.ref _], _)) rfl (u_ rfl) ?_
    refine w20r (pc := 148) (len_s := 3) (q_s := 116) rfl (krq hk rfl) ?_
    refine w_t (pc := 151) (e_s := (1, 1, 3, 0, 0, .null, [])) (y_s := (152, [some (.ref _), some (.int _), some (.int _), some (.int _), some (.int _), _], [.int _, .ref _], _)) rfl (u_ rfl) ?_
    refine w22 (pc := 152) (len_s := 1) rfl (hk.1 116 0 8 rfl rfl) (fun c3_s => ?_)
    refine w_t (pc := 153) (e_s := (1, 1, 1, 0, 0, .null, [])) (y_s := (154, [some (.ref _), some (.int _), some (.int _), some (.int _), some (.int _), _], [.int _, .int _], _)) rfl (u_ rfl) ?_
    refine wi0 (pc := 154) (len_s := 3) rfl rfl rfl (fun c4_s => ?_) (fun c4_s => ?_)
    · replace t_s := t_s.1 c4_s
      refine w_t (pc := 175) (e_s := (0, 1, 0, 0, 0, .int 0, [])) (y_s := (176, [some (.ref _), some (.int _), some (.int _), some (.int _), some (.int _), _], [.int _], _)) rfl (u_ rfl) ?_
      refine w_t (pc := 176) (e_s := (4, 2, 5, 0, 0, .null, [])) (y_s := (178, [some (.ref _), some (.int _), some (.int _), some (.int _), some (.int _), some (.int _)], [], _)) rfl (u_ rfl) ?_
      exact t_s
    · replace t_s := t_s.2 c4_s
      refine w_t (pc := 157) (e_s := (3, 1, 0, 0, 0, .null, [])) (y_s := (158, [some (.ref _), some (.int _), some (.int _), some (.int _), some (.int _), _], [.ref _], _)) rfl (u_ rfl) ?_
      refine w_t (pc := 158) (e_s := (1, 1, 1, 0, 0, .null, [])) (y_s := (159, [some (.ref _), some (.int _), some (.int _), some (.int _), some (.int _), _], [.int _, .ref _], _)) rfl (u_ rfl) ?_
      refine w_t (pc := 159) (e_s := (3, 1, 0, 0, 0, .null, [])) (y_s := (160, [some (.ref _), some (.int _), some (.int _), some (.int _), some (.int _), _], [.ref _, .int _, .ref _], _)) rfl (u_ rfl) ?_
      refine w20r (pc := 160) (len_s := 3) (q_s := 116) rfl (krq hk rfl) ?_
      refine w_t (pc := 163) (e_s := (1, 1, 3, 0, 0, .null, [])) (y_s := (164, [some (.ref _), some (.int _), some (.int _), some (.int _), some (.int _), _], [.int _, .ref _, .int _, .ref _], _)) rfl (u_ rfl) ?_
      refine w22 (pc := 164) (len_s := 1) rfl (hk.1 116 0 8 rfl rfl) (fun c5_s => ?_)
      refine wcI (pc := 165) (len_s := 3) rfl rfl (l := [some (.ref _), some (.int _), some (.int _)]) rfl (wmI t_s (fun v6 h6 hk t_s => ?_))
      replace t_s := t_s hk
      refine wq0 (pc := 168) (len_s := 3) rfl rfl (fun c7_s => ?_) (fun c7_s => ?_)
      · replace t_s := t_s.1 c7_s
        refine w_t (pc := 175) (e_s := (0, 1, 0, 0, 0, .int 0, [])) (y_s := (176, [some (.ref _), some (.int _), some (.int _), some (.int _), some (.int _), _], [.int _], _)) rfl (u_ rfl) ?_
        refine w_t (pc := 176) (e_s := (4, 2, 5, 0, 0, .null, [])) (y_s := (178, [some (.ref _), some (.int _), some (.int _), some (.int _), some (.int _), some (.int _)], [], _)) rfl (u_ rfl) ?_
        exact t_s
      · replace t_s := t_s.2 c7_s
        refine w_t (pc := 171) (e_s := (0, 1, 0, 0, 0, .int 1, [])) (y_s := (172, [some (.ref _), some (.int _), some (.int _), some (.int _), some (.int _), _], [.int _], _)) rfl (u_ rfl) ?_
        refine w_t (pc := 172) (e_s := (17, 3, 176, 0, 0, .null, [])) (y_s := (176, [some (.ref _), some (.int _), some (.int _), some (.int _), some (.int _), _], [.int _], _)) rfl (u_ rfl) ?_
        refine w_t (pc := 176) (e_s := (4, 2, 5, 0, 0, .null, [])) (y_s := (178, [some (.ref _), some (.int _), some (.int _), some (.int _), some (.int _), some (.int _)], [], _)) rfl (u_ rfl) ?_
        exact t_s
/-- ColdShodModel.settled()I, from 178 on -/
theorem sg_200_178 {F_s : Nat} {x1_s x2_s x3 x4_s x5_s : Int32} {h_s : zH} {K_s : Int32 → zH → Prop} (hk : hKn h_s) (t_s : (x4_s.toInt = 0 → wF F_s 200 (104, [some (.ref 102), some (.int x1_s), some (.int x2_s), some (.int (x3 + 1)), some (.int x4_s), some (.int x5_s)], [], h_s) (gI K_s)) ∧ (¬ x4_s.toInt = 0 → ((x5_s.toInt = 0 → wF F_s 200 (104, [some (.ref 102), some (.int x1_s), some (.int x2_s), some (.int (x3 + 1)), some (.int x4_s), some (.int x5_s)], [], h_s) (gI K_s)) ∧ (¬ x5_s.toInt = 0 → K_s 0 h_s)))) : wF (F_s + 1) 200 (178, [some (.ref 102), some (.int x1_s), some (.int x2_s), some (.int x3), some (.int x4_s), some (.int x5_s)], [], h_s) (gI K_s) := by
  refine w_0 (pc := 178) (e_s := (1, 2, 4, 0, 0, .null, [])) (y_s := (180, [some (.ref _), some (.int _), some (.int _), some (.int _), some (.int _), some (.int _)], [.int _], _)) rfl (u_ rfl) ?_
  refine wq0 (pc := 180) (len_s := 3) rfl rfl (fun c1_s => ?_) (fun c1_s => ?_)
  · replace t_s := t_s.1 c1_s
    refine w_t (pc := 190) (e_s := (19, 3, 3, 0, 0, .int 1, [])) (y_s := (193, [some (.ref _), some (.int _), some (.int _), some (.int _), some (.int _), some (.int _)], [], _)) rfl (u_ rfl) ?_
    refine w_t (pc := 193) (e_s := (17, 3, 104, 0, 0, .null, [])) (y_s := (104, [some (.ref _), some (.int _), some (.int _), some (.int _), some (.int _), some (.int _)], [], _)) rfl (u_ rfl) ?_
    exact t_s
  · replace t_s := t_s.2 c1_s
    refine w_t (pc := 183) (e_s := (1, 2, 5, 0, 0, .null, [])) (y_s := (185, [some (.ref _), some (.int _), some (.int _), some (.int _), some (.int _), some (.int _)], [.int _], _)) rfl (u_ rfl) ?_
    refine wq0 (pc := 185) (len_s := 3) rfl rfl (fun c2_s => ?_) (fun c2_s => ?_)
    · replace t_s := t_s.1 c2_s
      refine w_t (pc := 190) (e_s := (19, 3, 3, 0, 0, .int 1, [])) (y_s := (193, [some (.ref _), some (.int _), some (.int _), some (.int _), some (.int _), some (.int _)], [], _)) rfl (u_ rfl) ?_
      refine w_t (pc := 193) (e_s := (17, 3, 104, 0, 0, .null, [])) (y_s := (104, [some (.ref _), some (.int _), some (.int _), some (.int _), some (.int _), some (.int _)], [], _)) rfl (u_ rfl) ?_
      exact t_s
    · replace t_s := t_s.2 c2_s
      refine w_t (pc := 188) (e_s := (0, 1, 0, 0, 0, .int 0, [])) (y_s := (189, [some (.ref _), some (.int _), some (.int _), some (.int _), some (.int _), some (.int _)], [.int _], _)) rfl (u_ rfl) ?_
      exact wrI (pc := 189) (len_s := 1) rfl hk t_s
