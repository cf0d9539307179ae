/-! THE REFERENCE READS A TEXT: comparisons, sums, products. -/
section RX
variable {F_s : Nat} {h_s : zH} {K_s : Int32 → zH → Prop} {f_s : Nat → Nat → Int32}
theorem sp_166x (hk : hKn h_s) (t_s : ∀ v_s, K_s v_s (h_s.1, f_s, h_s.2.2.1, h_s.2.2.2)) : wF F_s 166 (0, [some (.ref 102)], [], (h_s.1, f_s, h_s.2.2.1, h_s.2.2.2)) (gI K_s) := wF_le (Nat.le_succ F_s) (sg_166_0 (h_s := (h_s.1, f_s, h_s.2.2.1, h_s.2.2.2)) hk ⟨fun _ => ⟨fun _ => fun _ => t_s _, fun _ => fun _ => t_s _⟩, fun _ => t_s _⟩)
end RX
theorem prR_up {tk : Nat → Int} {nm : Nat → Int32} {n_s op_s a_s : Nat} {f_s : Nat → Nat → Int32} (hp : prR tk nm n_s op_s a_s f_s) (hl : a_s < n_s) : frR f_s (zup f_s 102 16 (f_s 102 16 + 1)) ∧ prR tk nm n_s op_s (a_s + 1) (zup f_s 102 16 (f_s 102 16 + 1)) := by
  obtain ⟨p1_s, p2_s, p3_s, p4_s, p5_s, p6_s, p7_s, p8_s⟩ := hp
  have fr_s : frR f_s (zup f_s 102 16 (f_s 102 16 + 1)) := frR_16 (fun o k_s hq => zne_up hq)
  refine ⟨fr_s, prR_fr fr_s ⟨p1_s, p2_s, p3_s, p4_s, p5_s, p6_s, p7_s, p8_s⟩ ?_ ?_ hl ?_ p7_s⟩
  · rw [zne_up (by omega)]
    exact p1_s
  · rw [zsame_up, in1_ (by omega)]
    omega
  · rw [zne_up (by omega)]
    exact p6_s
theorem prR_lt {tk : Nat → Int} {nm : Nat → Int32} {n_s op_s a_s : Nat} {f_s : Nat → Nat → Int32} (hp : prR tk nm n_s op_s a_s f_s) (hl : tk a_s ≠ -1) : a_s < n_s := by
  obtain ⟨p1_s, p2_s, p3_s, p4_s, p5_s, p6_s, p7_s, p8_s, p9_s, p10, p11⟩ := hp
  by_cases e_s : a_s < n_s
  · exact e_s
  · exfalso
    rw [← p10] at hl
    unfold tkR at hl
    rw [if_neg (by omega)] at hl
    exact hl rfl
theorem r71_s {F_s : Nat} (i72 : R72 F_s) : R71 (F_s + 1) := by
  intro h_s K_s tk nm n_s op_s a_s f_s hk hp t_s
  have hp7 := hp.2.2.2.2.2.2.1
  refine sg_171_0 (h_s := (h_s.1, f_s, h_s.2.2.1, h_s.2.2.2)) hk ?_
  refine i72 h_s _ tk nm n_s op_s a_s f_s hk hp (fun v1_s f1_s fr1 hr _ => ?_)
  obtain ⟨r_s, hq, hpo⟩ := hr
  match r_s, hq, hpo with
  | .inl e_s, hq, hpo =>
    have hpo : (f1_s 102 18).toInt = (e_s : Int) := hpo
    exact sp_166x hk (fun v2 _ => ⟨fun (c_s : (f1_s 102 18).toInt < 0) => absurd c_s (by omega), fun _ => t_s v1_s f1_s fr1 ⟨.inl e_s, pP_levF (by omega) hq, hpo⟩⟩)
  | .inr p_s, hq, hpo =>
    obtain ⟨g1, g2, g3_s, g4, g5_s⟩ := hpo
    have hp1 : prR tk nm n_s op_s p_s.1 f1_s := prR_fr fr1 hp g1 g2 g3_s g4 hp7
    have don : ¬ lvl (tk p_s.1) = 2 → K_s v1_s (h_s.1, f1_s, h_s.2.2.1, h_s.2.2.2) := fun w_s => t_s v1_s f1_s fr1 ⟨.inr p_s, pP_lev (by omega) hq (pP_end (by omega) (fun u_s => w_s u_s)), g1, g2, g3_s, g4, g5_s⟩
    have cmp_s : ∀ (s_s : Int) (C_s : Int32 → zH → Prop), tk p_s.1 = s_s → lvl s_s = 2 → (∀ v5 f2_s, K_s (jnv v1_s s_s v5) (h_s.1, f2_s, h_s.2.2.1, h_s.2.2.2) → C_s v5 (h_s.1, f2_s, h_s.2.2.1, h_s.2.2.2)) → wF F_s 172 (0, [some (.ref 102), none, none, none], [], (h_s.1, zup f1_s 102 16 (f1_s 102 16 + 1), h_s.2.2.1, h_s.2.2.2)) (gI (fun v5 h5 => hKn h5 → C_s v5 h5)) := by
      intro s_s C_s hs hl hC
      have hlt := prR_lt hp1 (fun w_s => by
        rw [← hs, w_s] at hl
        exact absurd hl (by decide))
      obtain ⟨fr2, hp2⟩ := prR_up hp1 hlt
      refine i72 h_s _ tk nm n_s op_s (p_s.1 + 1) (zup f1_s 102 16 (f1_s 102 16 + 1)) hk hp2 (fun v5 f3_s fr3 hr _ => hC v5 f3_s ?_)
      obtain ⟨r_s, hq2, hpo⟩ := hr
      match r_s, hq2, hpo with
      | .inl e_s, hq2, hpo => exact t_s _ f3_s (frR_tr (frR_tr fr1 fr2) fr3) ⟨.inl e_s, pP_lev (by omega) hq (pP_sgF (by omega) (by rw [hs, hl]; rfl) hq2), hpo⟩
      | .inr y_s, hq2, hpo =>
        obtain ⟨y1, y2, y3, y4, y5⟩ := hpo
        exact t_s _ f3_s (frR_tr (frR_tr fr1 fr2) fr3) ⟨.inr (y_s.1, pjn p_s.2 (tk p_s.1) y_s.2), pP_lev (by omega) hq (pP_sg8 (by rw [hs, hl]) hq2), y1, y2, y3, y4, by rw [hs, g5_s, y5]; rfl⟩
    refine sp_166 hk hp1 (fun v2 hv2 _ => ⟨fun _ => ⟨fun c_s => cmp_s 60 _ (by omega) rfl (fun v5 f2_s hK_s => ?_), fun c_s => ⟨fun c1_s => cmp_s 61 _ (by omega) rfl (fun v5 f2_s hK_s => ?_), fun c1_s => ⟨fun c2_s => cmp_s 62 _ (by omega) rfl (fun v5 f2_s hK_s => ?_), fun c2_s => don ?_⟩⟩⟩, fun (c_s : ¬ (f1_s 102 18).toInt < 0) => absurd g1 (by omega)⟩)
    · unfold jnv at hK_s
      rw [if_neg (by decide), if_neg (by decide), if_pos rfl] at hK_s
      refine ⟨fun e_s => ?_, fun e_s => ?_⟩
      · rw [if_pos e_s] at hK_s
        exact hK_s
      · rw [if_neg e_s] at hK_s
        exact hK_s
    · unfold jnv at hK_s
      rw [if_neg (by decide), if_neg (by decide), if_neg (by decide), if_pos rfl] at hK_s
      refine ⟨fun e_s => ?_, fun e_s => ?_⟩
      · rw [if_pos (Int32.toInt_inj.mp e_s)] at hK_s
        exact hK_s
      · rw [if_neg (fun w_s => e_s (by rw [w_s]))] at hK_s
        exact hK_s
    · unfold jnv at hK_s
      rw [if_neg (by decide), if_neg (by decide), if_neg (by decide), if_neg (by decide), if_pos rfl] at hK_s
      refine ⟨fun e_s => ?_, fun e_s => ?_⟩
      · rw [if_pos e_s] at hK_s
        exact hK_s
      · rw [if_neg e_s] at hK_s
        exact hK_s
    · have q9_s := lvl_in (tk p_s.1)
      omega
theorem l72_s {F_s : Nat} (i73 : R73 F_s) (i72 : RL3 F_s) : RL3 (F_s + 1) := by
  intro h_s K_s tk nm n_s op_s a_s x1_s l2 l3 f_s z_s hk hp hx t_s
  have hp1 := hp.1
  have hp2 := hp.2.1
  have hp3 := hp.2.2.1
  have hp6 := hp.2.2.2.2.2.1
  have hp7 := hp.2.2.2.2.2.2.1
  have sub_s : ∀ (s_s : Int) (g_s : Int32 → Int32) (l : Option Value), tk a_s = s_s → lvl s_s = 3 → (∀ w_s, g_s w_s = jnv x1_s s_s w_s) → wF F_s 173 (0, [some (.ref 102), none, none, none], [], (h_s.1, zup f_s 102 16 (f_s 102 16 + 1), h_s.2.2.1, h_s.2.2.2)) (gI (fun v6 h6 => hKn h6 → wF F_s 172 (5, [some (.ref 102), some (.int (g_s v6)), l, some (.int v6)], [], h6) (gI K_s))) := by
    intro s_s g_s l hs hl hg
    have hlv : lvl (tk a_s) = ((9 : Nat) : Int) - 6 := by rw [hs, hl]; rfl
    have hlt := prR_lt hp (fun w_s => by
      rw [← hs, w_s] at hl
      exact absurd hl (by decide))
    obtain ⟨fr1, hq1⟩ := prR_up hp hlt
    refine i73 h_s _ tk nm n_s op_s (a_s + 1) (zup f_s 102 16 (f_s 102 16 + 1)) hk hq1 (fun v6 f2_s fr2 hr _ => ?_)
    obtain ⟨r_s, hq, hpo⟩ := hr
    match r_s, hq, hpo with
    | .inl e_s, hq, hpo =>
      have hpo : (f2_s 102 18).toInt = (e_s : Int) := hpo
      exact f72 hk (by omega) (t_s _ f2_s (frR_tr fr1 fr2) ⟨.inl e_s, pP_sgF (by omega) hlv hq, hpo⟩)
    | .inr p_s, hq, hpo =>
      obtain ⟨g1, g2, g3_s, g4, g5_s⟩ := hpo
      refine i72 h_s K_s tk nm n_s op_s p_s.1 (g_s v6) l _ f2_s (pjn z_s (tk a_s) p_s.2) hk (prR_fr (frR_tr fr1 fr2) hp g1 g2 g3_s g4 hp7) (by rw [hg, hx, g5_s, hs]; rfl) (fun v1_s f3_s fr3 hr => ?_)
      obtain ⟨r_s, hr1, hr2⟩ := hr
      exact t_s v1_s f3_s (frR_tr (frR_tr fr1 fr2) fr3) ⟨r_s, pP_sg (by omega) (by omega) hlv hq hr1, hr2⟩
  have pl : ∀ w_s, x1_s + w_s = jnv x1_s 43 w_s := fun w_s => by
    unfold jnv
    rw [if_neg (by decide), if_neg (by decide), if_neg (by decide), if_neg (by decide), if_neg (by decide), if_pos rfl]
  have mi_ : ∀ w_s, x1_s - w_s = jnv x1_s 45 w_s := fun w_s => by
    unfold jnv
    rw [if_neg (by decide), if_neg (by decide), if_neg (by decide), if_neg (by decide), if_neg (by decide), if_neg (by decide), if_pos rfl]
  refine sg_172_5 (h_s := (h_s.1, f_s, h_s.2.2.1, h_s.2.2.2)) hk ⟨fun _ => ?_, fun (c_s : ¬ (f_s 102 18).toInt < 0) => absurd hp1 (by omega)⟩
  refine sp_166 hk hp (fun v2 hv2 _ => ⟨fun c1_s => ?_, fun c1_s => ?_⟩)
  · refine sp_166 hk hp (fun v4_s hv4 _ => ⟨fun c2_s => ?_, fun c2_s => absurd c2_s (by omega)⟩)
    exact sub_s 43 (fun w_s => x1_s + w_s) _ (by omega) rfl pl
  · refine sp_166 hk hp (fun v8 hv8 _ => ⟨fun c2_s => ?_, fun c2_s => ?_⟩)
    · refine sp_166 hk hp (fun v9 hv9 _ => ⟨fun c3_s => absurd c3_s (by omega), fun c3_s => ?_⟩)
      exact sub_s 45 (fun w_s => x1_s - w_s) _ (by omega) rfl mi_
    · refine t_s x1_s f_s frR_rf ⟨.inr (a_s, z_s), pP_end (by omega) ?_, hp1, hp2, hp3, hp6, hx⟩
      have q9_s := lvl_in (tk a_s)
      omega
theorem l73_s {F_s : Nat} (i75 : R75 F_s) (i73 : RL4 F_s) : RL4 (F_s + 1) := by
  intro h_s K_s tk nm n_s op_s a_s x1_s x2_s l3 f_s z_s hk hp hx hx2 t_s
  have hp1 := hp.1
  have hp2 := hp.2.1
  have hp3 := hp.2.2.1
  have hp6 := hp.2.2.2.2.2.1
  have hp7 := hp.2.2.2.2.2.2.1
  have sub_s : ∀ (s_s : Int) (C_s : Int32 → zH → Prop), tk a_s = s_s → lvl s_s = 4 → (∀ v3 f2_s, (∀ y_s, y_s = jnv x1_s s_s v3 → wF F_s 166 (0, [some (.ref 102)], [], (h_s.1, f2_s, h_s.2.2.1, h_s.2.2.2)) (gI (fun v5 h5 => hKn h5 → wF F_s 173 (10, [some (.ref 102), some (.int y_s), some (.int v5), some (.int v3)], [], h5) (gI K_s)))) → C_s v3 (h_s.1, f2_s, h_s.2.2.1, h_s.2.2.2)) → wF F_s 175 (0, [some (.ref 102), none, none, none, none], [], (h_s.1, zup f_s 102 16 (f_s 102 16 + 1), h_s.2.2.1, h_s.2.2.2)) (gI (fun v3 h3 => hKn h3 → C_s v3 h3)) := by
    intro s_s C_s hs hl hC
    have hlv : lvl (tk a_s) = ((10 : Nat) : Int) - 6 := by rw [hs, hl]; rfl
    have hlt := prR_lt hp (fun w_s => by
      rw [← hs, w_s] at hl
      exact absurd hl (by decide))
    obtain ⟨fr1, hq1⟩ := prR_up hp hlt
    refine i75 h_s _ tk nm n_s op_s (a_s + 1) (zup f_s 102 16 (f_s 102 16 + 1)) hk hq1 (fun v3 f2_s fr2 hr _ => hC v3 f2_s (fun y_s hy => ?_))
    obtain ⟨r_s, hq, hpo⟩ := hr
    match r_s, hq, hpo with
    | .inl e_s, hq, hpo =>
      have hpo : (f2_s 102 18).toInt = (e_s : Int) := hpo
      exact sp_166x hk (fun v5 _ => f73 hk (by omega) (t_s _ f2_s (frR_tr fr1 fr2) ⟨.inl e_s, pP_sgF (by omega) hlv hq, hpo⟩))
    | .inr p_s, hq, hpo =>
      obtain ⟨g1, g2, g3_s, g4, g5_s⟩ := hpo
      have hq2 : prR tk nm n_s op_s p_s.1 f2_s := prR_fr (frR_tr fr1 fr2) hp g1 g2 g3_s g4 hp7
      refine sp_166 hk hq2 (fun v5 hv5 _ => ?_)
      refine i73 h_s K_s tk nm n_s op_s p_s.1 y_s v5 _ f2_s (pjn z_s (tk a_s) p_s.2) hk hq2 (by rw [hy, hx, g5_s, hs]; rfl) hv5 (fun v1_s f3_s fr3 hr => ?_)
      obtain ⟨r_s, hr1, hr2⟩ := hr
      exact t_s v1_s f3_s (frR_tr (frR_tr fr1 fr2) fr3) ⟨r_s, pP_sg (by omega) (by omega) hlv hq hr1, hr2⟩
  refine sg_173_10 (h_s := (h_s.1, f_s, h_s.2.2.1, h_s.2.2.2)) hk ⟨fun _ => ⟨fun c1_s => sub_s 42 _ (by omega) rfl (fun v3 f2_s go_s => go_s _ ?_), fun c1_s => ⟨fun c2_s => sub_s 47 _ (by omega) rfl (fun v3 f2_s go_s => ⟨fun e_s => go_s _ ?_, fun e_s => go_s _ ?_⟩), fun c2_s => ⟨fun c3_s => sub_s 37 _ (by omega) rfl (fun v3 f2_s go_s => ⟨fun e_s => go_s _ ?_, fun e_s => go_s _ ?_⟩), fun c3_s => ?_⟩⟩⟩, fun (c_s : ¬ (f_s 102 18).toInt < 0) => absurd hp1 (by omega)⟩
  · unfold jnv
    rw [if_neg (by decide), if_neg (by decide), if_neg (by decide), if_neg (by decide), if_neg (by decide), if_neg (by decide), if_neg (by decide), if_pos rfl]
  · unfold jnv
    rw [if_neg (by decide), if_neg (by decide), if_neg (by decide), if_neg (by decide), if_neg (by decide), if_neg (by decide), if_neg (by decide), if_neg (by decide), if_pos rfl, if_pos (i0_ e_s)]
  · unfold jnv
    rw [if_neg (by decide), if_neg (by decide), if_neg (by decide), if_neg (by decide), if_neg (by decide), if_neg (by decide), if_neg (by decide), if_neg (by decide), if_pos rfl, if_neg (n0_ e_s)]
  · unfold jnv
    rw [if_neg (by decide), if_neg (by decide), if_neg (by decide), if_neg (by decide), if_neg (by decide), if_neg (by decide), if_neg (by decide), if_neg (by decide), if_neg (by decide), if_pos rfl, if_pos (i0_ e_s)]
  · unfold jnv
    rw [if_neg (by decide), if_neg (by decide), if_neg (by decide), if_neg (by decide), if_neg (by decide), if_neg (by decide), if_neg (by decide), if_neg (by decide), if_neg (by decide), if_pos rfl, if_neg (n0_ e_s)]
  · refine t_s x1_s f_s frR_rf ⟨.inr (a_s, z_s), pP_end (by omega) ?_, hp1, hp2, hp3, hp6, hx⟩
    have q9_s := lvl_in (tk a_s)
    omega
theorem r69_s {F_s : Nat} (i70 : R70 F_s) (i69 : RL1 169 6 F_s) : R69 (F_s + 1) := by
  intro h_s K_s tk nm n_s op_s a_s f_s hk hp t_s
  refine sg_169_0 (h_s := (h_s.1, f_s, h_s.2.2.1, h_s.2.2.2)) hk ?_
  refine i70 h_s _ tk nm n_s op_s a_s f_s hk hp (fun v1_s f1_s fr1 hr _ => ?_)
  obtain ⟨r_s, hq, hpo⟩ := hr
  match r_s, hq, hpo with
  | .inl e_s, hq, hpo =>
    have hpo : (f1_s 102 18).toInt = (e_s : Int) := hpo
    exact f69 hk (by omega) (t_s v1_s f1_s fr1 ⟨.inl e_s, pP_levF (by omega) hq, hpo⟩)
  | .inr p_s, hq, hpo =>
    obtain ⟨g1, g2, g3_s, g4, g5_s⟩ := hpo
    refine i69 h_s K_s tk nm n_s op_s p_s.1 v1_s none f1_s p_s.2 hk (prR_fr fr1 hp g1 g2 g3_s g4 hp.2.2.2.2.2.2.1) g5_s (fun v2 f2_s fr2 hr => ?_)
    obtain ⟨r_s, hr1, hr2⟩ := hr
    exact t_s v2 f2_s (frR_tr fr1 fr2) ⟨r_s, pP_lev (by omega) hq hr1, hr2⟩
theorem r70_s {F_s : Nat} (i71 : R71 F_s) (i70 : RL1 170 7 F_s) : R70 (F_s + 1) := by
  intro h_s K_s tk nm n_s op_s a_s f_s hk hp t_s
  refine sg_170_0 (h_s := (h_s.1, f_s, h_s.2.2.1, h_s.2.2.2)) hk ?_
  refine i71 h_s _ tk nm n_s op_s a_s f_s hk hp (fun v1_s f1_s fr1 hr _ => ?_)
  obtain ⟨r_s, hq, hpo⟩ := hr
  match r_s, hq, hpo with
  | .inl e_s, hq, hpo =>
    have hpo : (f1_s 102 18).toInt = (e_s : Int) := hpo
    exact f70 hk (by omega) (t_s v1_s f1_s fr1 ⟨.inl e_s, pP_levF (by omega) hq, hpo⟩)
  | .inr p_s, hq, hpo =>
    obtain ⟨g1, g2, g3_s, g4, g5_s⟩ := hpo
    refine i70 h_s K_s tk nm n_s op_s p_s.1 v1_s none f1_s p_s.2 hk (prR_fr fr1 hp g1 g2 g3_s g4 hp.2.2.2.2.2.2.1) g5_s (fun v2 f2_s fr2 hr => ?_)
    obtain ⟨r_s, hr1, hr2⟩ := hr
    exact t_s v2 f2_s (frR_tr fr1 fr2) ⟨r_s, pP_lev (by omega) hq hr1, hr2⟩
theorem r72_s {F_s : Nat} (i73 : R73 F_s) (i72 : RL3 F_s) : R72 (F_s + 1) := by
  intro h_s K_s tk nm n_s op_s a_s f_s hk hp t_s
  refine sg_172_0 (h_s := (h_s.1, f_s, h_s.2.2.1, h_s.2.2.2)) hk ?_
  refine i73 h_s _ tk nm n_s op_s a_s f_s hk hp (fun v1_s f1_s fr1 hr _ => ?_)
  obtain ⟨r_s, hq, hpo⟩ := hr
  match r_s, hq, hpo with
  | .inl e_s, hq, hpo =>
    have hpo : (f1_s 102 18).toInt = (e_s : Int) := hpo
    exact f72 hk (by omega) (t_s v1_s f1_s fr1 ⟨.inl e_s, pP_levF (by omega) hq, hpo⟩)
  | .inr p_s, hq, hpo =>
    obtain ⟨g1, g2, g3_s, g4, g5_s⟩ := hpo
    refine i72 h_s K_s tk nm n_s op_s p_s.1 v1_s none none f1_s p_s.2 hk (prR_fr fr1 hp g1 g2 g3_s g4 hp.2.2.2.2.2.2.1) g5_s (fun v2 f2_s fr2 hr => ?_)
    obtain ⟨r_s, hr1, hr2⟩ := hr
    exact t_s v2 f2_s (frR_tr fr1 fr2) ⟨r_s, pP_lev (by omega) hq hr1, hr2⟩
theorem r73_s {F_s : Nat} (i75 : R75 F_s) (i73 : RL4 F_s) : R73 (F_s + 1) := by
  intro h_s K_s tk nm n_s op_s a_s f_s hk hp t_s
  refine sg_173_0 (h_s := (h_s.1, f_s, h_s.2.2.1, h_s.2.2.2)) hk ?_
  refine i75 h_s _ tk nm n_s op_s a_s f_s hk hp (fun v1_s f1_s fr1 hr _ => ?_)
  obtain ⟨r_s, hq, hpo⟩ := hr
  match r_s, hq, hpo with
  | .inl e_s, hq, hpo =>
    have hpo : (f1_s 102 18).toInt = (e_s : Int) := hpo
    exact sp_166x hk (fun v2 _ => f73 hk (by omega) (t_s v1_s f1_s fr1 ⟨.inl e_s, pP_levF (by omega) hq, hpo⟩))
  | .inr p_s, hq, hpo =>
    obtain ⟨g1, g2, g3_s, g4, g5_s⟩ := hpo
    have hp1 : prR tk nm n_s op_s p_s.1 f1_s := prR_fr fr1 hp g1 g2 g3_s g4 hp.2.2.2.2.2.2.1
    refine sp_166 hk hp1 (fun v2 hv2 _ => ?_)
    refine i73 h_s K_s tk nm n_s op_s p_s.1 v1_s v2 none f1_s p_s.2 hk hp1 g5_s hv2 (fun v3 f2_s fr2 hr => ?_)
    obtain ⟨r_s, hr1, hr2⟩ := hr
    exact t_s v3 f2_s (frR_tr fr1 fr2) ⟨r_s, pP_lev (by omega) hq hr1, hr2⟩
