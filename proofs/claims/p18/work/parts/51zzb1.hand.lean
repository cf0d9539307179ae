/-! LONGS that are kept by the calls that copy rows of ints. -/
section KJ
variable {F_s : Nat} {h_s : zH} {g_s : Nat → Nat → Int64} {x1_s x2_s x3 x4_s x5_s x6 : Int32} {l7 l8 : Option Value} {d_s : Nat}
theorem kj_10 (hk : hKn h_s) (hg : h_s.2.2.1 = g_s) : wF F_s 10 (0, [some (.ref 42)], [], h_s) (gV (fun h1 => h1.2.2.1 = g_s)) := wF_le (Nat.le_succ F_s) (sg_10_0 hk (fun _ _ _ _ => hg))
theorem kj_9 (hk : hKn h_s) (hg : h_s.2.2.1 = g_s) : wF F_s 9 (0, [some (.ref 42), some (.int x1_s), some (.int x2_s), some (.int x3), some (.int x4_s)], [], h_s) (gV (fun h1 => h1.2.2.1 = g_s)) := wF_le (Nat.le_succ F_s) (sg_9_0 hk ⟨fun _ _ => hg, fun _ => wmV (kj_10 (h_s := (h_s.1, zup h_s.2.1 42 1 0, h_s.2.2.1, h_s.2.2.2)) hk hg) (fun _ _ e6_s _ _ => e6_s)⟩)
theorem kj_98 (hk : hKn h_s) (hg : h_s.2.2.1 = g_s) : wF F_s 98 (0, [some (.ref 6), some (.int x1_s), some (.int x2_s), some (.int x3), none], [], h_s) (gI (fun _ h1 => h1.2.2.1 = g_s)) :=
  wF_le (Nat.le_succ F_s) (sg_98_0 hk (wmI (wPI hk rfl rfl rfl) (fun _ h1 k1_s e1_s _ => ⟨fun _ => e1_s.trans hg, fun _ => wmI (wPI k1_s rfl rfl rfl) (fun _ h3 k3_s e3_s _ => ⟨fun _ => (e3_s.trans e1_s).trans hg, fun _ => wmI (wPI k3_s rfl rfl rfl) (fun _ h5 k5_s e5_s _ => ⟨fun _ => ((e5_s.trans e3_s).trans e1_s).trans hg, fun _ => wmV (wPV k5_s rfl rfl rfl) (fun h7 k7_s e7_s _ => wmV (kj_9 k7_s ((((e7_s.trans e5_s).trans e3_s).trans e1_s).trans hg)) (fun _ _ e8 _ => e8))⟩)⟩)⟩)))
theorem kj_91 (hk : hKn h_s) (hg : h_s.2.2.1 = g_s) : wF F_s 91 (0, [some (.ref 59), some (.int x1_s), none, none], [], h_s) (gV (fun h1 => h1.2.2.1 = g_s)) := by
  refine wF_le (Nat.le_succ F_s) (sg_91_0 hk fun c1_s => ⟨fun c2_s => fun c3_s => ?_, fun c2_s => ⟨fun c4_s => fun c5_s => ?_, fun c4_s => ⟨fun c6_s => ⟨fun c7_s => fun c8_s => ?_, fun c7_s => ?_⟩, fun c6_s => ?_⟩⟩⟩)
  all_goals exact hg
theorem kj_90 : ∀ F_s, (∀ (h_s : zH) (x2_s x3 x4_s x5_s : Int32), hKn h_s → h_s.2.2.1 = g_s → wF F_s 90 (0, [some (.ref 59), some (.ref 7), some (.int x2_s), some (.int x3), some (.int x4_s), some (.int x5_s), none, none, none], [], h_s) (gV (fun h1 => h1.2.2.1 = g_s))) ∧ (∀ (h_s : zH) (x2_s x3 x4_s x5_s x6 : Int32) (l7 l8 : Option Value), hKn h_s → h_s.2.2.1 = g_s → wF F_s 90 (32, [some (.ref 59), some (.ref 7), some (.int x2_s), some (.int x3), some (.int x4_s), some (.int x5_s), some (.int x6), l7, l8], [], h_s) (gV (fun h1 => h1.2.2.1 = g_s)))
  | 0 => ⟨fun _ _ _ _ _ _ _ => wF_zero, fun _ _ _ _ _ _ _ _ _ _ => wF_zero⟩
  | F_s + 1 => by
    obtain ⟨i0_s, i32⟩ := kj_90 F_s
    refine ⟨fun h_s x2_s x3 x4_s x5_s hk hg => sg_90_0 hk ⟨fun _ => wmV (kj_91 hk hg) (fun _ _ e_s _ => e_s), fun _ => ⟨fun _ => i32 h_s x2_s x3 x4_s x5_s 0 none none hk hg, fun _ => hg⟩⟩, fun h_s x2_s x3 x4_s x5_s x6 l7 l8 hk hg => sg_90_32 hk ⟨fun _ _ => wmI (wPI hk rfl rfl rfl) (fun v3 h3 k3_s e3_s _ => ?_), fun _ => hg⟩⟩
    have g3_s := e3_s.trans hg
    refine ⟨fun _ => i32 h3 _ _ _ _ _ _ _ k3_s g3_s, fun _ => ⟨fun _ _ _ => wmV (wPV k3_s rfl rfl rfl) (fun h8 k8_s e8 _ => wmI (wPI k8_s rfl rfl rfl) (fun v10 h10 k10 e10_s _ => ?_)), fun _ => i32 h3 _ _ _ _ _ _ _ k3_s g3_s⟩⟩
    have g10 := (e10_s.trans e8).trans g3_s
    exact ⟨fun _ => i32 h10 _ _ _ _ _ _ _ k10 g10, fun _ => wmV (i0_s (h10.1, zup h10.2.1 61 (zix x5_s) x6, h10.2.2.1, h10.2.2.2) _ _ _ _ k10 g10) (fun h13 k13 e13_s _ => i32 h13 _ _ _ _ _ _ _ k13 e13_s)⟩
theorem kj_89 (hk : hKn h_s) (hg : h_s.2.2.1 = g_s) : wF F_s 89 (0, [some (.ref 59), some (.ref 7), some (.ref d_s), some (.int x3), some (.int x4_s)], [], h_s) (gV (fun h1 => h1.2.2.1 = g_s)) := by
  refine wF_le (Nat.le_succ F_s) (sg_89_0 hk (wmV (wPV (h_s := (h_s.1, zup h_s.2.1 59 1 (-2), h_s.2.2.1, h_s.2.2.2)) hk rfl rfl rfl) (fun h2 k2_s e2_s _ => ?_)))
  exact wmV ((kj_90 F_s).1 h2 _ _ _ _ k2_s (e2_s.trans hg)) (fun _ _ e_s _ => e_s)
theorem kj_105 (hk : hKn h_s) (hg : h_s.2.2.1 = g_s) : wF F_s 105 (0, [some (.ref 6), some (.int x1_s), some (.int x2_s), some (.int x3)], [], h_s) (gI (fun _ h1 => h1.2.2.1 = g_s)) := by
  refine wF_le (Nat.le_succ F_s) (sg_105_0 hk ⟨fun c1_s => ?_, fun c1_s => ⟨fun c2_s => ⟨fun c3_s => ?_, fun c3_s => ⟨fun c4_s => ?_, fun c4_s => ⟨fun c5_s => ⟨fun c6_s => ?_, fun c6_s => ⟨fun c7_s => ⟨fun c8_s => ?_, fun c8_s => ⟨fun c9_s => ?_, fun c9_s => fun c10_s => ?_⟩⟩, fun c7_s => ?_⟩⟩, fun c5_s => ?_⟩⟩⟩, fun c2_s => ?_⟩⟩)
  all_goals first
    | exact hg
    | exact wmV (kj_89 hk hg) (fun h11 k11 e11_s _ => ⟨fun _ => e11_s, fun _ => ⟨fun _ => ⟨fun _ => e11_s, fun _ => ⟨fun _ => e11_s, fun _ => fun _ => e11_s⟩⟩, fun _ => e11_s⟩⟩)
theorem kj_121l : ∀ (F_s : Nat) (h_s : zH) (x1_s : Int32), hKn h_s → h_s.2.2.1 = g_s → wF F_s 121 (2, [some (.ref 6), some (.int x1_s)], [], h_s) (gI (fun _ h1 => h1.2.2.1 = g_s))
  | 0, _, _, _, _ => wF_zero
  | F_s + 1, h_s, x1_s, hk, hg => sg_121_2 hk ⟨fun _ _ => wmV (wPV hk rfl rfl rfl) (fun h4 k4_s e4_s _ => kj_121l F_s h4 _ k4_s (e4_s.trans hg)), fun _ _ => hg⟩
theorem kj_121 (hk : hKn h_s) (hg : h_s.2.2.1 = g_s) : wF F_s 121 (0, [some (.ref 6), none], [], h_s) (gI (fun _ h1 => h1.2.2.1 = g_s)) := wF_le (Nat.le_succ F_s) (sg_121_0 hk (kj_121l F_s h_s 0 hk hg))
theorem kj_122l : ∀ (F_s : Nat) (h_s : zH) (x1_s : Int32), hKn h_s → h_s.2.2.1 = g_s → wF F_s 122 (13, [some (.ref 6), some (.int x1_s)], [], h_s) (gI (fun _ h1 => h1.2.2.1 = g_s))
  | 0, _, _, _, _ => wF_zero
  | F_s + 1, h_s, x1_s, hk, hg => sg_122_13 hk ⟨fun _ _ => wmV (wPV hk rfl rfl rfl) (fun h4 k4_s e4_s _ => kj_122l F_s h4 _ k4_s (e4_s.trans hg)), fun _ _ => hg⟩
theorem kj_122 (hk : hKn h_s) (hg : h_s.2.2.1 = g_s) : wF F_s 122 (0, [some (.ref 6), none], [], h_s) (gI (fun _ h1 => h1.2.2.1 = g_s)) := wF_le (Nat.le_succ F_s) (sg_122_0 hk ⟨fun _ => hg, fun _ => kj_122l F_s h_s 0 hk hg⟩)
end KJ
