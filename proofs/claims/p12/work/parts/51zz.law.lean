/-! the law keeps its contract -/
theorem kokl : aOK kS krf kB kEl := kok1150
/-! WHAT RUNS KEEP: shapes, references (but by law()), longs (where no row of longs is written), and what comes back. -/
noncomputable def noR (e_s : zI) : Bool := (!(Nat.beq e_s.1 21 && Nat.beq e_s.2.2.2.2.1 1) && !Nat.beq e_s.1 27) && (!Nat.beq e_s.1 29 && !Nat.beq e_s.1 30)
noncomputable def noJ (e_s : zI) : Bool := !Nat.beq e_s.1 26 && !Nat.beq e_s.1 34
noncomputable def rfO (e_s : zI) (x_s : zC) : zO → Prop
  | .inl y_s => y_s.2.2.2.1 = x_s.2.2.2.1 ∧ y_s.2.2.2.2.2.2 = x_s.2.2.2.2.2.2 ∧ (noJ e_s = true → y_s.2.2.2.2.2.1 = x_s.2.2.2.2.2.1)
  | .inr (.inl c_s) => c_s.2.2.2.2.2 = x_s.2.2.2 ∧ e_s.1 = 32 ∧ e_s.2.2.1 = c_s.1
  | .inr (.inr r_s) => (35 ≤ e_s.1 ∧ e_s.1 ≤ 38) ∧ (e_s.1 = 35 → ∃ v_s, r_s = some (.int v_s)) ∧ (e_s.1 = 36 → ∃ v_s, r_s = some (.long v_s)) ∧ (e_s.1 = 38 → r_s = none)
section RF
variable {len_s a_s b_s c_s pc : Nat} {v_s : Value} {sw_s : List (Int32 × Nat)} {lo_s : List (Option Value)} {st_s : List Value} {h_s : zH} {w_s : zO}
theorem rf_0 (hw : zstep (0, len_s, a_s, b_s, c_s, v_s, sw_s) (pc, lo_s, st_s, h_s) = some w_s) : rfO (0, len_s, a_s, b_s, c_s, v_s, sw_s) (pc, lo_s, st_s, h_s) w_s := by
  have hw : zs0 len_s v_s (pc, lo_s, st_s, h_s) = some w_s := hw
  simp only [zs0, Bool.cond_eq_ite, zgo] at hw
  all_goals first | (cases hw; done) | (cases hw; exact ⟨rfl, rfl, fun _ => rfl⟩)
theorem rf_1 (hw : zstep (1, len_s, a_s, b_s, c_s, v_s, sw_s) (pc, lo_s, st_s, h_s) = some w_s) : rfO (1, len_s, a_s, b_s, c_s, v_s, sw_s) (pc, lo_s, st_s, h_s) w_s := by
  have hw : zs1 len_s a_s (pc, lo_s, st_s, h_s) = some w_s := hw
  simp only [zs1, Bool.cond_eq_ite, zgo] at hw
  repeat' split at hw
  all_goals first | (cases hw; done) | (cases hw; exact ⟨rfl, rfl, fun _ => rfl⟩)
theorem rf_2 (hw : zstep (2, len_s, a_s, b_s, c_s, v_s, sw_s) (pc, lo_s, st_s, h_s) = some w_s) : rfO (2, len_s, a_s, b_s, c_s, v_s, sw_s) (pc, lo_s, st_s, h_s) w_s := by
  have hw : zs2 len_s a_s (pc, lo_s, st_s, h_s) = some w_s := hw
  simp only [zs2, Bool.cond_eq_ite, zgo] at hw
  repeat' split at hw
  all_goals first | (cases hw; done) | (cases hw; exact ⟨rfl, rfl, fun _ => rfl⟩)
theorem rf_3 (hw : zstep (3, len_s, a_s, b_s, c_s, v_s, sw_s) (pc, lo_s, st_s, h_s) = some w_s) : rfO (3, len_s, a_s, b_s, c_s, v_s, sw_s) (pc, lo_s, st_s, h_s) w_s := by
  have hw : zs3 len_s a_s (pc, lo_s, st_s, h_s) = some w_s := hw
  simp only [zs3, Bool.cond_eq_ite, zgo] at hw
  repeat' split at hw
  all_goals first | (cases hw; done) | (cases hw; exact ⟨rfl, rfl, fun _ => rfl⟩)
theorem rf_4 (hw : zstep (4, len_s, a_s, b_s, c_s, v_s, sw_s) (pc, lo_s, st_s, h_s) = some w_s) : rfO (4, len_s, a_s, b_s, c_s, v_s, sw_s) (pc, lo_s, st_s, h_s) w_s := by
  have hw : zs4 len_s a_s (pc, lo_s, st_s, h_s) = some w_s := hw
  simp only [zs4, Bool.cond_eq_ite, zgo] at hw
  repeat' split at hw
  all_goals first | (cases hw; done) | (cases hw; exact ⟨rfl, rfl, fun _ => rfl⟩)
theorem rf_5 (hw : zstep (5, len_s, a_s, b_s, c_s, v_s, sw_s) (pc, lo_s, st_s, h_s) = some w_s) : rfO (5, len_s, a_s, b_s, c_s, v_s, sw_s) (pc, lo_s, st_s, h_s) w_s := by
  have hw : zs5 len_s a_s (pc, lo_s, st_s, h_s) = some w_s := hw
  simp only [zs5, Bool.cond_eq_ite, zgo] at hw
  repeat' split at hw
  all_goals first | (cases hw; done) | (cases hw; exact ⟨rfl, rfl, fun _ => rfl⟩)
theorem rf_6 (hw : zstep (6, len_s, a_s, b_s, c_s, v_s, sw_s) (pc, lo_s, st_s, h_s) = some w_s) : rfO (6, len_s, a_s, b_s, c_s, v_s, sw_s) (pc, lo_s, st_s, h_s) w_s := by
  have hw : zs6 len_s a_s (pc, lo_s, st_s, h_s) = some w_s := hw
  simp only [zs6, Bool.cond_eq_ite, zgo] at hw
  repeat' split at hw
  all_goals first | (cases hw; done) | (cases hw; exact ⟨rfl, rfl, fun _ => rfl⟩)
theorem rf_7 (hw : zstep (7, len_s, a_s, b_s, c_s, v_s, sw_s) (pc, lo_s, st_s, h_s) = some w_s) : rfO (7, len_s, a_s, b_s, c_s, v_s, sw_s) (pc, lo_s, st_s, h_s) w_s := by
  have hw : zs7 len_s b_s (pc, lo_s, st_s, h_s) = some w_s := hw
  simp only [zs7, Bool.cond_eq_ite, zgo] at hw
  repeat' split at hw
  all_goals first | (cases hw; done) | (cases hw; exact ⟨rfl, rfl, fun _ => rfl⟩)
theorem rf_8 (hw : zstep (8, len_s, a_s, b_s, c_s, v_s, sw_s) (pc, lo_s, st_s, h_s) = some w_s) : rfO (8, len_s, a_s, b_s, c_s, v_s, sw_s) (pc, lo_s, st_s, h_s) w_s := by
  have hw : zs8 len_s b_s (pc, lo_s, st_s, h_s) = some w_s := hw
  simp only [zs8, Bool.cond_eq_ite, zgo] at hw
  repeat' split at hw
  all_goals first | (cases hw; done) | (cases hw; exact ⟨rfl, rfl, fun _ => rfl⟩)
theorem rf_9 (hw : zstep (9, len_s, a_s, b_s, c_s, v_s, sw_s) (pc, lo_s, st_s, h_s) = some w_s) : rfO (9, len_s, a_s, b_s, c_s, v_s, sw_s) (pc, lo_s, st_s, h_s) w_s := by
  have hw : zs9 len_s b_s (pc, lo_s, st_s, h_s) = some w_s := hw
  simp only [zs9, Bool.cond_eq_ite, zgo] at hw
  repeat' split at hw
  all_goals first | (cases hw; done) | (cases hw; exact ⟨rfl, rfl, fun _ => rfl⟩)
theorem rf_10 (hw : zstep (10, len_s, a_s, b_s, c_s, v_s, sw_s) (pc, lo_s, st_s, h_s) = some w_s) : rfO (10, len_s, a_s, b_s, c_s, v_s, sw_s) (pc, lo_s, st_s, h_s) w_s := by
  have hw : zs10 len_s (pc, lo_s, st_s, h_s) = some w_s := hw
  simp only [zs10, Bool.cond_eq_ite, zgo] at hw
  repeat' split at hw
  all_goals first | (cases hw; done) | (cases hw; exact ⟨rfl, rfl, fun _ => rfl⟩)
theorem rf_11 (hw : zstep (11, len_s, a_s, b_s, c_s, v_s, sw_s) (pc, lo_s, st_s, h_s) = some w_s) : rfO (11, len_s, a_s, b_s, c_s, v_s, sw_s) (pc, lo_s, st_s, h_s) w_s := by
  have hw : zs11 len_s (pc, lo_s, st_s, h_s) = some w_s := hw
  simp only [zs11, Bool.cond_eq_ite, zgo] at hw
  repeat' split at hw
  all_goals first | (cases hw; done) | (cases hw; exact ⟨rfl, rfl, fun _ => rfl⟩)
theorem rf_12 (hw : zstep (12, len_s, a_s, b_s, c_s, v_s, sw_s) (pc, lo_s, st_s, h_s) = some w_s) : rfO (12, len_s, a_s, b_s, c_s, v_s, sw_s) (pc, lo_s, st_s, h_s) w_s := by
  have hw : zs12 len_s b_s (pc, lo_s, st_s, h_s) = some w_s := hw
  simp only [zs12, Bool.cond_eq_ite, zgo] at hw
  repeat' split at hw
  all_goals first | (cases hw; done) | (cases hw; exact ⟨rfl, rfl, fun _ => rfl⟩)
theorem rf_13 (hw : zstep (13, len_s, a_s, b_s, c_s, v_s, sw_s) (pc, lo_s, st_s, h_s) = some w_s) : rfO (13, len_s, a_s, b_s, c_s, v_s, sw_s) (pc, lo_s, st_s, h_s) w_s := by
  have hw : zs13 len_s (pc, lo_s, st_s, h_s) = some w_s := hw
  simp only [zs13, Bool.cond_eq_ite, zgo] at hw
  repeat' split at hw
  all_goals first | (cases hw; done) | (cases hw; exact ⟨rfl, rfl, fun _ => rfl⟩)
theorem rf_14 (hw : zstep (14, len_s, a_s, b_s, c_s, v_s, sw_s) (pc, lo_s, st_s, h_s) = some w_s) : rfO (14, len_s, a_s, b_s, c_s, v_s, sw_s) (pc, lo_s, st_s, h_s) w_s := by
  have hw : zs14 len_s (pc, lo_s, st_s, h_s) = some w_s := hw
  simp only [zs14, Bool.cond_eq_ite, zgo] at hw
  repeat' split at hw
  all_goals first | (cases hw; done) | (cases hw; exact ⟨rfl, rfl, fun _ => rfl⟩)
theorem rf_15 (hw : zstep (15, len_s, a_s, b_s, c_s, v_s, sw_s) (pc, lo_s, st_s, h_s) = some w_s) : rfO (15, len_s, a_s, b_s, c_s, v_s, sw_s) (pc, lo_s, st_s, h_s) w_s := by
  have hw : zs15 len_s a_s b_s (pc, lo_s, st_s, h_s) = some w_s := hw
  simp only [zs15, Bool.cond_eq_ite, zgo] at hw
  repeat' split at hw
  all_goals first | (cases hw; done) | (cases hw; exact ⟨rfl, rfl, fun _ => rfl⟩)
theorem rf_16 (hw : zstep (16, len_s, a_s, b_s, c_s, v_s, sw_s) (pc, lo_s, st_s, h_s) = some w_s) : rfO (16, len_s, a_s, b_s, c_s, v_s, sw_s) (pc, lo_s, st_s, h_s) w_s := by
  have hw : zs16 len_s a_s b_s (pc, lo_s, st_s, h_s) = some w_s := hw
  simp only [zs16, Bool.cond_eq_ite, zgo] at hw
  repeat' split at hw
  all_goals first | (cases hw; done) | (cases hw; exact ⟨rfl, rfl, fun _ => rfl⟩)
theorem rf_17 (hw : zstep (17, len_s, a_s, b_s, c_s, v_s, sw_s) (pc, lo_s, st_s, h_s) = some w_s) : rfO (17, len_s, a_s, b_s, c_s, v_s, sw_s) (pc, lo_s, st_s, h_s) w_s := by
  have hw : zs17 a_s (pc, lo_s, st_s, h_s) = some w_s := hw
  simp only [zs17, Bool.cond_eq_ite, zgo] at hw
  all_goals first | (cases hw; done) | (cases hw; exact ⟨rfl, rfl, fun _ => rfl⟩)
theorem rf_18 (hw : zstep (18, len_s, a_s, b_s, c_s, v_s, sw_s) (pc, lo_s, st_s, h_s) = some w_s) : rfO (18, len_s, a_s, b_s, c_s, v_s, sw_s) (pc, lo_s, st_s, h_s) w_s := by
  have hw : zs18 a_s sw_s (pc, lo_s, st_s, h_s) = some w_s := hw
  simp only [zs18, Bool.cond_eq_ite, zgo] at hw
  repeat' split at hw
  all_goals first | (cases hw; done) | (cases hw; exact ⟨rfl, rfl, fun _ => rfl⟩)
theorem rf_19 (hw : zstep (19, len_s, a_s, b_s, c_s, v_s, sw_s) (pc, lo_s, st_s, h_s) = some w_s) : rfO (19, len_s, a_s, b_s, c_s, v_s, sw_s) (pc, lo_s, st_s, h_s) w_s := by
  have hw : zs19 len_s a_s v_s (pc, lo_s, st_s, h_s) = some w_s := hw
  simp only [zs19, Bool.cond_eq_ite, zgo] at hw
  repeat' split at hw
  all_goals first | (cases hw; done) | (cases hw; exact ⟨rfl, rfl, fun _ => rfl⟩)
theorem rf_20 (hw : zstep (20, len_s, a_s, b_s, c_s, v_s, sw_s) (pc, lo_s, st_s, h_s) = some w_s) : rfO (20, len_s, a_s, b_s, c_s, v_s, sw_s) (pc, lo_s, st_s, h_s) w_s := by
  have hw : zs20 len_s a_s b_s c_s (pc, lo_s, st_s, h_s) = some w_s := hw
  simp only [zs20, Bool.cond_eq_ite, zgo] at hw
  repeat' split at hw
  all_goals first | (cases hw; done) | (cases hw; exact ⟨rfl, rfl, fun _ => rfl⟩)
theorem rf_21 (hc_s : ¬ c_s = 1) (hw : zstep (21, len_s, a_s, b_s, c_s, v_s, sw_s) (pc, lo_s, st_s, h_s) = some w_s) : rfO (21, len_s, a_s, b_s, c_s, v_s, sw_s) (pc, lo_s, st_s, h_s) w_s := by
  have hw : zs21 len_s a_s b_s c_s (pc, lo_s, st_s, h_s) = some w_s := hw
  simp only [zs21, Bool.cond_eq_ite, zgo] at hw
  repeat' split at hw
  all_goals first | (cases hw; done) | (cases hw; exact ⟨rfl, rfl, fun _ => rfl⟩) | (exact absurd rfl hc_s)
theorem rf_22 (hw : zstep (22, len_s, a_s, b_s, c_s, v_s, sw_s) (pc, lo_s, st_s, h_s) = some w_s) : rfO (22, len_s, a_s, b_s, c_s, v_s, sw_s) (pc, lo_s, st_s, h_s) w_s := by
  have hw : zs22 len_s (pc, lo_s, st_s, h_s) = some w_s := hw
  simp only [zs22, Bool.cond_eq_ite, zgo] at hw
  repeat' split at hw
  all_goals first | (cases hw; done) | (cases hw; exact ⟨rfl, rfl, fun _ => rfl⟩)
theorem rf_23 (hw : zstep (23, len_s, a_s, b_s, c_s, v_s, sw_s) (pc, lo_s, st_s, h_s) = some w_s) : rfO (23, len_s, a_s, b_s, c_s, v_s, sw_s) (pc, lo_s, st_s, h_s) w_s := by
  have hw : zs23 len_s (pc, lo_s, st_s, h_s) = some w_s := hw
  simp only [zs23, Bool.cond_eq_ite, zgo] at hw
  repeat' split at hw
  all_goals first | (cases hw; done) | (cases hw; exact ⟨rfl, rfl, fun _ => rfl⟩)
theorem rf_24 (hw : zstep (24, len_s, a_s, b_s, c_s, v_s, sw_s) (pc, lo_s, st_s, h_s) = some w_s) : rfO (24, len_s, a_s, b_s, c_s, v_s, sw_s) (pc, lo_s, st_s, h_s) w_s := by
  have hw : zs24 len_s (pc, lo_s, st_s, h_s) = some w_s := hw
  simp only [zs24, Bool.cond_eq_ite, zgo] at hw
  repeat' split at hw
  all_goals first | (cases hw; done) | (cases hw; exact ⟨rfl, rfl, fun _ => rfl⟩)
theorem rf_25 (hw : zstep (25, len_s, a_s, b_s, c_s, v_s, sw_s) (pc, lo_s, st_s, h_s) = some w_s) : rfO (25, len_s, a_s, b_s, c_s, v_s, sw_s) (pc, lo_s, st_s, h_s) w_s := by
  have hw : zs25 len_s (pc, lo_s, st_s, h_s) = some w_s := hw
  simp only [zs25, Bool.cond_eq_ite, zgo] at hw
  repeat' split at hw
  all_goals first | (cases hw; done) | (cases hw; exact ⟨rfl, rfl, fun _ => rfl⟩)
theorem rf_26 (hw : zstep (26, len_s, a_s, b_s, c_s, v_s, sw_s) (pc, lo_s, st_s, h_s) = some w_s) : rfO (26, len_s, a_s, b_s, c_s, v_s, sw_s) (pc, lo_s, st_s, h_s) w_s := by
  have hw : zs26 len_s (pc, lo_s, st_s, h_s) = some w_s := hw
  simp only [zs26, Bool.cond_eq_ite, zgo] at hw
  repeat' split at hw
  all_goals first | (cases hw; done) | (cases hw; exact ⟨rfl, rfl, fun q_s => absurd q_s Bool.false_ne_true⟩)
theorem rf_28 (hw : zstep (28, len_s, a_s, b_s, c_s, v_s, sw_s) (pc, lo_s, st_s, h_s) = some w_s) : rfO (28, len_s, a_s, b_s, c_s, v_s, sw_s) (pc, lo_s, st_s, h_s) w_s := by
  have hw : zs28 len_s (pc, lo_s, st_s, h_s) = some w_s := hw
  simp only [zs28, Bool.cond_eq_ite, zgo] at hw
  repeat' split at hw
  all_goals first | (cases hw; done) | (cases hw; exact ⟨rfl, rfl, fun _ => rfl⟩)
theorem rf_31 (hw : zstep (31, len_s, a_s, b_s, c_s, v_s, sw_s) (pc, lo_s, st_s, h_s) = some w_s) : rfO (31, len_s, a_s, b_s, c_s, v_s, sw_s) (pc, lo_s, st_s, h_s) w_s := by
  have hw : zs31 len_s b_s (pc, lo_s, st_s, h_s) = some w_s := hw
  simp only [zs31, Bool.cond_eq_ite, zgo] at hw
  repeat' split at hw
  all_goals first | (cases hw; done) | (cases hw; exact ⟨rfl, rfl, fun _ => rfl⟩)
theorem rf_32 (hw : zstep (32, len_s, a_s, b_s, c_s, v_s, sw_s) (pc, lo_s, st_s, h_s) = some w_s) : rfO (32, len_s, a_s, b_s, c_s, v_s, sw_s) (pc, lo_s, st_s, h_s) w_s := by
  have hw : zs32 len_s a_s b_s (c_s % 4) (c_s / 4) (pc, lo_s, st_s, h_s) = some w_s := hw
  simp only [zs32, Bool.cond_eq_ite, zgo] at hw
  repeat' split at hw
  all_goals first | (cases hw; done) | (cases hw; exact ⟨rfl, rfl, rfl⟩)
theorem rf_33 (hw : zstep (33, len_s, a_s, b_s, c_s, v_s, sw_s) (pc, lo_s, st_s, h_s) = some w_s) : rfO (33, len_s, a_s, b_s, c_s, v_s, sw_s) (pc, lo_s, st_s, h_s) w_s := by
  have hw : zs33 len_s (pc, lo_s, st_s, h_s) = some w_s := hw
  simp only [zs33, Bool.cond_eq_ite, zgo] at hw
  repeat' split at hw
  all_goals first | (cases hw; done) | (cases hw; exact ⟨rfl, rfl, fun _ => rfl⟩)
theorem rf_34 (hw : zstep (34, len_s, a_s, b_s, c_s, v_s, sw_s) (pc, lo_s, st_s, h_s) = some w_s) : rfO (34, len_s, a_s, b_s, c_s, v_s, sw_s) (pc, lo_s, st_s, h_s) w_s := by
  have hw : zs34 len_s (pc, lo_s, st_s, h_s) = some w_s := hw
  simp only [zs34, Bool.cond_eq_ite, zgo] at hw
  repeat' split at hw
  all_goals first | (cases hw; done) | (cases hw; exact ⟨rfl, rfl, fun q_s => absurd q_s Bool.false_ne_true⟩)
theorem rf_35 (hw : zstep (35, len_s, a_s, b_s, c_s, v_s, sw_s) (pc, lo_s, st_s, h_s) = some w_s) : rfO (35, len_s, a_s, b_s, c_s, v_s, sw_s) (pc, lo_s, st_s, h_s) w_s := by
  have hw : zs35 c_s (pc, lo_s, st_s, h_s) = some w_s := hw
  simp only [zs35, Bool.cond_eq_ite, zgo] at hw
  repeat' split at hw
  all_goals first | (cases hw; done) | (cases hw; exact ⟨⟨(show 35 ≤ 35 by decide), (show 35 ≤ 38 by decide)⟩, fun _ => ⟨_, rfl⟩, fun q_s => absurd (show (35 : Nat) = 36 from q_s) (by decide), fun q_s => absurd (show (35 : Nat) = 38 from q_s) (by decide)⟩)
theorem rf_36 (hw : zstep (36, len_s, a_s, b_s, c_s, v_s, sw_s) (pc, lo_s, st_s, h_s) = some w_s) : rfO (36, len_s, a_s, b_s, c_s, v_s, sw_s) (pc, lo_s, st_s, h_s) w_s := by
  have hw : zs36 (pc, lo_s, st_s, h_s) = some w_s := hw
  simp only [zs36, Bool.cond_eq_ite, zgo] at hw
  repeat' split at hw
  all_goals first | (cases hw; done) | (cases hw; exact ⟨⟨(show 35 ≤ 36 by decide), (show 36 ≤ 38 by decide)⟩, fun q_s => absurd (show (36 : Nat) = 35 from q_s) (by decide), fun _ => ⟨_, rfl⟩, fun q_s => absurd (show (36 : Nat) = 38 from q_s) (by decide)⟩)
theorem rf_37 (hw : zstep (37, len_s, a_s, b_s, c_s, v_s, sw_s) (pc, lo_s, st_s, h_s) = some w_s) : rfO (37, len_s, a_s, b_s, c_s, v_s, sw_s) (pc, lo_s, st_s, h_s) w_s := by
  have hw : zs37 (pc, lo_s, st_s, h_s) = some w_s := hw
  simp only [zs37, Bool.cond_eq_ite, zgo] at hw
  repeat' split at hw
  all_goals first | (cases hw; done) | (cases hw; exact ⟨⟨(show 35 ≤ 37 by decide), (show 37 ≤ 38 by decide)⟩, fun q_s => absurd (show (37 : Nat) = 35 from q_s) (by decide), fun q_s => absurd (show (37 : Nat) = 36 from q_s) (by decide), fun q_s => absurd (show (37 : Nat) = 38 from q_s) (by decide)⟩)
theorem rf_38 (hw : zstep (38, len_s, a_s, b_s, c_s, v_s, sw_s) (pc, lo_s, st_s, h_s) = some w_s) : rfO (38, len_s, a_s, b_s, c_s, v_s, sw_s) (pc, lo_s, st_s, h_s) w_s := by
  have hw : zs38 (pc, lo_s, st_s, h_s) = some w_s := hw
  simp only [zs38, Bool.cond_eq_ite, zgo] at hw
  repeat' split at hw
  all_goals first | (cases hw; done) | (cases hw; exact ⟨⟨(show 35 ≤ 38 by decide), (show 38 ≤ 38 by decide)⟩, fun q_s => absurd (show (38 : Nat) = 35 from q_s) (by decide), fun q_s => absurd (show (38 : Nat) = 36 from q_s) (by decide), fun _ => rfl⟩)
theorem rf_39 (hw : zstep (39, len_s, a_s, b_s, c_s, v_s, sw_s) (pc, lo_s, st_s, h_s) = some w_s) : rfO (39, len_s, a_s, b_s, c_s, v_s, sw_s) (pc, lo_s, st_s, h_s) w_s := by
  have hw : zs39 len_s (pc, lo_s, st_s, h_s) = some w_s := hw
  simp only [zs39, Bool.cond_eq_ite, zgo] at hw
  repeat' split at hw
  all_goals first | (cases hw; done) | (cases hw; exact ⟨rfl, rfl, fun _ => rfl⟩)
theorem rf_40 (hw : zstep (40, len_s, a_s, b_s, c_s, v_s, sw_s) (pc, lo_s, st_s, h_s) = some w_s) : rfO (40, len_s, a_s, b_s, c_s, v_s, sw_s) (pc, lo_s, st_s, h_s) w_s := by
  have hw : zs40 len_s (pc, lo_s, st_s, h_s) = some w_s := hw
  simp only [zs40, Bool.cond_eq_ite, zgo] at hw
  repeat' split at hw
  all_goals first | (cases hw; done) | (cases hw; exact ⟨rfl, rfl, fun _ => rfl⟩)
theorem rf_41 (hw : zstep (41, len_s, a_s, b_s, c_s, v_s, sw_s) (pc, lo_s, st_s, h_s) = some w_s) : rfO (41, len_s, a_s, b_s, c_s, v_s, sw_s) (pc, lo_s, st_s, h_s) w_s := by
  have hw : zs41 len_s (pc, lo_s, st_s, h_s) = some w_s := hw
  simp only [zs41, Bool.cond_eq_ite, zgo] at hw
  repeat' split at hw
  all_goals first | (cases hw; done) | (cases hw; exact ⟨rfl, rfl, fun _ => rfl⟩)
theorem rf_42 (hw : zstep (42, len_s, a_s, b_s, c_s, v_s, sw_s) (pc, lo_s, st_s, h_s) = some w_s) : rfO (42, len_s, a_s, b_s, c_s, v_s, sw_s) (pc, lo_s, st_s, h_s) w_s := by
  have hw : zs42 len_s (pc, lo_s, st_s, h_s) = some w_s := hw
  simp only [zs42, Bool.cond_eq_ite, zgo] at hw
  repeat' split at hw
  all_goals first | (cases hw; done) | (cases hw; exact ⟨rfl, rfl, fun _ => rfl⟩)
theorem rf_43 (hw : zstep (43, len_s, a_s, b_s, c_s, v_s, sw_s) (pc, lo_s, st_s, h_s) = some w_s) : rfO (43, len_s, a_s, b_s, c_s, v_s, sw_s) (pc, lo_s, st_s, h_s) w_s := by
  have hw : zs43 len_s a_s (pc, lo_s, st_s, h_s) = some w_s := hw
  simp only [zs43, Bool.cond_eq_ite, zgo] at hw
  all_goals first | (cases hw; done) | (cases hw; exact ⟨rfl, rfl, fun _ => rfl⟩)
theorem rf_44 (hw : zstep (44, len_s, a_s, b_s, c_s, v_s, sw_s) (pc, lo_s, st_s, h_s) = some w_s) : rfO (44, len_s, a_s, b_s, c_s, v_s, sw_s) (pc, lo_s, st_s, h_s) w_s := by
  have hw : zs44 len_s (pc, lo_s, st_s, h_s) = some w_s := hw
  simp only [zs44, Bool.cond_eq_ite, zgo] at hw
  repeat' split at hw
  all_goals first | (cases hw; done) | (cases hw; exact ⟨rfl, rfl, fun _ => rfl⟩)
theorem rf_step {op_s : Nat} (hw : zstep (op_s, len_s, a_s, b_s, c_s, v_s, sw_s) (pc, lo_s, st_s, h_s) = some w_s) (hn : noR (op_s, len_s, a_s, b_s, c_s, v_s, sw_s) = true) : rfO (op_s, len_s, a_s, b_s, c_s, v_s, sw_s) (pc, lo_s, st_s, h_s) w_s := by
  match op_s, hw, hn with
  | 0, hw, _ => exact rf_0 hw
  | 1, hw, _ => exact rf_1 hw
  | 2, hw, _ => exact rf_2 hw
  | 3, hw, _ => exact rf_3 hw
  | 4, hw, _ => exact rf_4 hw
  | 5, hw, _ => exact rf_5 hw
  | 6, hw, _ => exact rf_6 hw
  | 7, hw, _ => exact rf_7 hw
  | 8, hw, _ => exact rf_8 hw
  | 9, hw, _ => exact rf_9 hw
  | 10, hw, _ => exact rf_10 hw
  | 11, hw, _ => exact rf_11 hw
  | 12, hw, _ => exact rf_12 hw
  | 13, hw, _ => exact rf_13 hw
  | 14, hw, _ => exact rf_14 hw
  | 15, hw, _ => exact rf_15 hw
  | 16, hw, _ => exact rf_16 hw
  | 17, hw, _ => exact rf_17 hw
  | 18, hw, _ => exact rf_18 hw
  | 19, hw, _ => exact rf_19 hw
  | 20, hw, _ => exact rf_20 hw
  | 21, hw, hn => exact rf_21 (fun e1_s => by rw [e1_s] at hn; exact absurd hn Bool.false_ne_true) hw
  | 22, hw, _ => exact rf_22 hw
  | 23, hw, _ => exact rf_23 hw
  | 24, hw, _ => exact rf_24 hw
  | 25, hw, _ => exact rf_25 hw
  | 26, hw, _ => exact rf_26 hw
  | 27, _, hn => exact absurd (show false = true from hn) Bool.false_ne_true
  | 28, hw, _ => exact rf_28 hw
  | 29, _, hn => exact absurd (show false = true from hn) Bool.false_ne_true
  | 30, _, hn => exact absurd (show false = true from hn) Bool.false_ne_true
  | 31, hw, _ => exact rf_31 hw
  | 32, hw, _ => exact rf_32 hw
  | 33, hw, _ => exact rf_33 hw
  | 34, hw, _ => exact rf_34 hw
  | 35, hw, _ => exact rf_35 hw
  | 36, hw, _ => exact rf_36 hw
  | 37, hw, _ => exact rf_37 hw
  | 38, hw, _ => exact rf_38 hw
  | 39, hw, _ => exact rf_39 hw
  | 40, hw, _ => exact rf_40 hw
  | 41, hw, _ => exact rf_41 hw
  | 42, hw, _ => exact rf_42 hw
  | 43, hw, _ => exact rf_43 hw
  | 44, hw, _ => exact rf_44 hw
  | n_s + 45, hw, _ =>
    have hw : (none : Option zO) = some w_s := hw
    cases hw
end RF
noncomputable def rfX (mi : Nat) : Bool := [0, 8, 13, 34, 47, 52, 61, 73, 75, 81, 88, 92, 101, 147, 241].any (fun k_s => Nat.beq mi k_s)
noncomputable def jX (mi : Nat) : Bool := [9, 10, 77, 89, 90, 91, 98, 105, 121, 122, 129, 130, 132, 230, 233, 235, 239, 241].any (fun k_s => Nat.beq mi k_s)
noncomputable def rty (mi : Nat) : Nat := bif [9, 10, 11, 12, 21, 25, 35, 36, 41, 42, 48, 53, 54, 55, 57, 76, 77, 83, 87, 89, 90, 91, 158, 178, 183, 188, 192, 198, 210, 221, 239, 240].any (fun k_s => Nat.beq mi k_s) then 38 else bif [80, 131, 232, 234].any (fun k_s => Nat.beq mi k_s) then 36 else bif Nat.beq mi 139 then 37 else 35
noncomputable def rfE (mi : Nat) (e_s : zI) : Bool := (noR e_s && (!Nat.beq e_s.1 32 || !rfX e_s.2.2.1)) && ((jX mi || (noJ e_s && (!Nat.beq e_s.1 32 || !jX e_s.2.2.1))) && (!(Nat.ble 35 e_s.1 && Nat.ble e_s.1 38) || Nat.beq e_s.1 (rty mi)))
noncomputable def rfC (mi : Nat) (t_s : List (List (Option zI))) : Bool := t_s.all (fun r_s => r_s.all (fun o => match o with
  | none => true
  | some e_s => rfE mi e_s))
noncomputable def rfA : Bool := (List.range 16).all (fun g_s => match zget zia g_s with
  | none => true
  | some l => (List.range 16).all (fun j_s => rfX (16 * g_s + j_s) || (match zget l j_s with
    | none => true
    | some t_s => rfC (16 * g_s + j_s) t_s)))
theorem rfA_ok : rfA = true := by decide +kernel
theorem zia_lt {g_s : Nat} {l : List (List (List (Option zI)))} (h_s : zget zia g_s = some l) : g_s < 16 := Nat.lt_of_lt_of_le (zget_lt h_s) (by decide +kernel)
theorem rf_zi {mi pc : Nat} {e_s : zI} (h_s : zi mi pc = some e_s) (hm_s : rfX mi = false) : rfE mi e_s = true := by
  unfold zi at h_s
  split at h_s
  · rename_i l hl
    split at h_s
    · rename_i t_s ht
      split at h_s
      · rename_i r_s hr
        split at h_s
        · rename_i o ho
          subst h_s
          have u_s := rfA_ok
          unfold rfA at u_s
          have u1_s := List.all_eq_true.mp u_s (mi / 16) (List.mem_range.mpr (zia_lt hl))
          rw [hl] at u1_s
          have u2_s := List.all_eq_true.mp u1_s (mi % 16) (List.mem_range.mpr (Nat.mod_lt _ (by omega)))
          rw [show 16 * (mi / 16) + mi % 16 = mi by omega, hm_s, ht, Bool.false_or] at u2_s
          exact List.all_eq_true.mp (List.all_eq_true.mp u2_s r_s (zget_mem hr)) _ (zget_mem ho)
        · cases h_s
      · cases h_s
    · cases h_s
  · cases h_s
theorem rf_run : ∀ (f_s d_s mi : Nat) (x_s : zC) (r_s : Option Value) (h1 : zH), rfX mi = false → zr f_s d_s mi 100000 x_s = some (.inr (r_s, h1)) → (h1.1 = x_s.2.2.2.1 ∧ h1.2.2.2 = x_s.2.2.2.2.2.2) ∧ (jX mi = false → h1.2.2.1 = x_s.2.2.2.2.2.1) ∧ (rty mi = 35 → ∃ v_s, r_s = some (.int v_s)) ∧ (rty mi = 36 → ∃ v_s, r_s = some (.long v_s)) ∧ (rty mi = 38 → r_s = none)
  | 0, _, _, _, _, _, _, h_s => by cases h_s
  | f_s + 1, d_s, mi, x_s, r_s, h1, hm_s, h_s => by
    rcases zr_step h_s with ⟨_, e2_s⟩ | ⟨e_s, he, hq⟩
    · cases e2_s
    · have u_s := rf_zi he hm_s
      obtain ⟨op_s, len_s, a0_s, b_s, c_s, v_s, sw_s⟩ := e_s
      obtain ⟨pc, lo_s, st_s, h0⟩ := x_s
      unfold rfE at u_s
      rw [Bool.and_eq_true, Bool.and_eq_true, Bool.and_eq_true] at u_s
      obtain ⟨⟨n1_s, n2_s⟩, n3_s, n4_s⟩ := u_s
      have n3_s : jX mi = false → noJ (op_s, len_s, a0_s, b_s, c_s, v_s, sw_s) = true ∧ (op_s = 32 → jX a0_s = false) := fun hj => by
        rw [hj, Bool.false_or, Bool.and_eq_true] at n3_s
        refine ⟨n3_s.1, fun e1_s => ?_⟩
        have n5_s := n3_s.2
        dsimp only at n5_s
        rw [e1_s] at n5_s
        have n5_s : (false || !jX a0_s) = true := n5_s
        rw [Bool.false_or, Bool.not_eq_true'] at n5_s
        exact n5_s
      rcases hq with ⟨y_s, hy, hz⟩ | ⟨r1_s, hy, e2_s⟩ | ⟨a_s, as_s, y_s, d1_s, r1_s, h2, hy, _, _, h3, h4⟩
      · obtain ⟨q1_s, q2_s, q3_s⟩ := rf_step hy n1_s
        obtain ⟨⟨p1_s, p2_s⟩, p3_s, p4_s⟩ := rf_run f_s d_s mi y_s r_s h1 hm_s hz
        exact ⟨⟨p1_s.trans q1_s, p2_s.trans q2_s⟩, fun hj => (p3_s hj).trans (q3_s (n3_s hj).1), p4_s⟩
      · obtain ⟨q1_s, q2_s, q3_s, q4_s⟩ := rf_step hy n1_s
        cases e2_s
        have q1_s : 35 ≤ op_s ∧ op_s ≤ 38 := q1_s
        have e1_s : op_s = rty mi := by
          have n5_s : (!(Nat.ble 35 op_s && Nat.ble op_s 38) || Nat.beq op_s (rty mi)) = true := n4_s
          rw [Nat.ble_eq.mpr q1_s.1, Nat.ble_eq.mpr q1_s.2] at n5_s
          have n5_s : (false || Nat.beq op_s (rty mi)) = true := n5_s
          rw [Bool.false_or] at n5_s
          exact Nat.eq_of_beq_eq_true n5_s
        exact ⟨⟨rfl, rfl⟩, fun _ => rfl, fun w_s => q2_s (e1_s.trans w_s), fun w_s => q3_s (e1_s.trans w_s), fun w_s => q4_s (e1_s.trans w_s)⟩
      · obtain ⟨q1_s, q2_s, q3_s⟩ := rf_step hy n1_s
        have q2_s : op_s = 32 := q2_s
        have q3_s : a0_s = a_s := q3_s
        subst q2_s
        subst q3_s
        have n5_s : (false || !rfX a0_s) = true := n2_s
        rw [Bool.false_or, Bool.not_eq_true'] at n5_s
        have q1_s : y_s.2.2.2 = h0 := q1_s
        obtain ⟨⟨p1_s, p2_s⟩, p3_s, _⟩ := rf_run f_s d1_s a0_s _ r1_s h2 n5_s h3
        obtain ⟨⟨s1_s, s2_s⟩, s3_s, s4_s⟩ := rf_run f_s (d1_s + 1) mi _ r_s h1 hm_s h4
        exact ⟨⟨s1_s.trans p1_s, s2_s.trans p2_s⟩, fun hj => (s3_s hj).trans (p3_s ((n3_s hj).2 rfl)), s4_s⟩
theorem hKn_of {h_s h1 : zH} (hk : hKn h_s) (e1_s : h1.1 = h_s.1) (e2_s : h1.2.2.2 = h_s.2.2.2) : hKn h1 := by
  refine ⟨?_, ?_⟩
  · rw [e1_s]
    exact hk.1
  · rw [e2_s]
    exact hk.2
section PU_s
variable {F_s mi : Nat} {pc : Nat} {lo_s : List (Option Value)} {st_s : List Value} {h_s : zH}
/-- a call of which nothing is wanted but that it leaves longs, shapes, references -/
theorem wPI (hk : hKn h_s) (hm_s : rfX mi = false) (hj : jX mi = false) (ht : rty mi = 35) : wF F_s mi (pc, lo_s, st_s, h_s) (gI (fun _ h1 => h1.2.2.1 = h_s.2.2.1)) := by
  intro f_s d_s r_s h1 _ hr
  obtain ⟨⟨p1_s, p2_s⟩, p3_s, p4_s, _, _⟩ := rf_run f_s d_s mi _ r_s h1 hm_s hr
  obtain ⟨v_s, p4_s⟩ := p4_s ht
  exact ⟨v_s, p4_s, hKn_of hk p1_s p2_s, p3_s hj⟩
theorem wPV (hk : hKn h_s) (hm_s : rfX mi = false) (hj : jX mi = false) (ht : rty mi = 38) : wF F_s mi (pc, lo_s, st_s, h_s) (gV (fun h1 => h1.2.2.1 = h_s.2.2.1)) := by
  intro f_s d_s r_s h1 _ hr
  obtain ⟨⟨p1_s, p2_s⟩, p3_s, _, _, p4_s⟩ := rf_run f_s d_s mi _ r_s h1 hm_s hr
  exact ⟨p4_s ht, hKn_of hk p1_s p2_s, p3_s hj⟩
end PU_s
/-! What ended runs give: printed by a program (wip/fun/sg.py). -/
/-- ColdShod$Changes.forgetFirst()V, from 0 on -/
theorem sg_10_0 {F_s : Nat}  {h_s : zH} {K_s : zH → Prop} (hk : hKn h_s) (t_s : (1 + 39 ≤ 40 ∧ 0 + 39 ≤ 40 → (1 + 39 ≤ 40 ∧ 0 + 39 ≤ 40 → (1 + 39 ≤ 40 ∧ 0 + 39 ≤ 40 → (1 + 39 ≤ 40 ∧ 0 + 39 ≤ 40 → K_s (h_s.1, zrow (zrow (zrow (zrow (zup h_s.2.1 42 0 39) 43 (zcpy ((zup h_s.2.1 42 0 39) 43) ((zup h_s.2.1 42 0 39) 43) 1 0 39)) 44 (zcpy ((zrow (zup h_s.2.1 42 0 39) 43 (zcpy ((zup h_s.2.1 42 0 39) 43) ((zup h_s.2.1 42 0 39) 43) 1 0 39)) 44) ((zrow (zup h_s.2.1 42 0 39) 43 (zcpy ((zup h_s.2.1 42 0 39) 43) ((zup h_s.2.1 42 0 39) 43) 1 0 39)) 44) 1 0 39)) 45 (zcpy ((zrow (zrow (zup h_s.2.1 42 0 39) 43 (zcpy ((zup h_s.2.1 42 0 39) 43) ((zup h_s.2.1 42 0 39) 43) 1 0 39)) 44 (zcpy ((zrow (zup h_s.2.1 42 0 39) 43 (zcpy ((zup h_s.2.1 42 0 39) 43) ((zup h_s.2.1 42 0 39) 43) 1 0 39)) 44) ((zrow (zup h_s.2.1 42 0 39) 43 (zcpy ((zup h_s.2.1 42 0 39) 43) ((zup h_s.2.1 42 0 39) 43) 1 0 39)) 44) 1 0 39)) 45) ((zrow (zrow (zup h_s.2.1 42 0 39) 43 (zcpy ((zup h_s.2.1 42 0 39) 43) ((zup h_s.2.1 42 0 39) 43) 1 0 39)) 44 (zcpy ((zrow (zup h_s.2.1 42 0 39) 43 (zcpy ((zup h_s.2.1 42 0 39) 43) ((zup h_s.2.1 42 0 39) 43) 1 0 39)) 44) ((zrow (zup h_s.2.1 42 0 39) 43 (zcpy ((zup h_s.2.1 42 0 39) 43) ((zup h_s.2.1 42 0 39) 43) 1 0 39)) 44) 1 0 39)) 45) 1 0 39)) 46 (zcpy ((zrow (zrow (zrow (zup h_s.2.1 42 0 39) 43 (zcpy ((zup h_s.2.1 42 0 39) 43) ((zup h_s.2.1 42 0 39) 43) 1 0 39)) 44 (zcpy ((zrow (zup h_s.2.1 42 0 39) 43 (zcpy ((zup h_s.2.1 42 0 39) 43) ((zup h_s.2.1 42 0 39) 43) 1 0 39)) 44) ((zrow (zup h_s.2.1 42 0 39) 43 (zcpy ((zup h_s.2.1 42 0 39) 43) ((zup h_s.2.1 42 0 39) 43) 1 0 39)) 44) 1 0 39)) 45 (zcpy ((zrow (zrow (zup h_s.2.1 42 0 39) 43 (zcpy ((zup h_s.2.1 42 0 39) 43) ((zup h_s.2.1 42 0 39) 43) 1 0 39)) 44 (zcpy ((zrow (zup h_s.2.1 42 0 39) 43 (zcpy ((zup h_s.2.1 42 0 39) 43) ((zup h_s.2.1 42 0 39) 43) 1 0 39)) 44) ((zrow (zup h_s.2.1 42 0 39) 43 (zcpy ((zup h_s.2.1 42 0 39) 43) ((zup h_s.2.1 42 0 39) 43) 1 0 39)) 44) 1 0 39)) 45) ((zrow (zrow (zup h_s.2.1 42 0 39) 43 (zcpy ((zup h_s.2.1 42 0 39) 43) ((zup h_s.2.1 42 0 39) 43) 1 0 39)) 44 (zcpy ((zrow (zup h_s.2.1 42 0 39) 43 (zcpy ((zup h_s.2.1 42 0 39) 43) ((zup h_s.2.1 42 0 39) 43) 1 0 39)) 44) ((zrow (zup h_s.2.1 42 0 39) 43 (zcpy ((zup h_s.2.1 42 0 39) 43) ((zup h_s.2.1 42 0 39) 43) 1 0 39)) 44) 1 0 39)) 45) 1 0 39)) 46) ((zrow (zrow (zrow (zup h_s.2.1 42 0 39) 43 (zcpy ((zup h_s.2.1 42 0 39) 43) ((zup h_s.2.1 42 0 39) 43) 1 0 39)) 44 (zcpy ((zrow (zup h_s.2.1 42 0 39) 43 (zcpy ((zup h_s.2.1 42 0 39) 43) ((zup h_s.2.1 42 0 39) 43) 1 0 39)) 44) ((zrow (zup h_s.2.1 42 0 39) 43 (zcpy ((zup h_s.2.1 42 0 39) 43) ((zup h_s.2.1 42 0 39) 43) 1 0 39)) 44) 1 0 39)) 45 (zcpy ((zrow (zrow (zup h_s.2.1 42 0 39) 43 (zcpy ((zup h_s.2.1 42 0 39) 43) ((zup h_s.2.1 42 0 39) 43) 1 0 39)) 44 (zcpy ((zrow (zup h_s.2.1 42 0 39) 43 (zcpy ((zup h_s.2.1 42 0 39) 43) ((zup h_s.2.1 42 0 39) 43) 1 0 39)) 44) ((zrow (zup h_s.2.1 42 0 39) 43 (zcpy ((zup h_s.2.1 42 0 39) 43) ((zup h_s.2.1 42 0 39) 43) 1 0 39)) 44) 1 0 39)) 45) ((zrow (zrow (zup h_s.2.1 42 0 39) 43 (zcpy ((zup h_s.2.1 42 0 39) 43) ((zup h_s.2.1 42 0 39) 43) 1 0 39)) 44 (zcpy ((zrow (zup h_s.2.1 42 0 39) 43 (zcpy ((zup h_s.2.1 42 0 39) 43) ((zup h_s.2.1 42 0 39) 43) 1 0 39)) 44) ((zrow (zup h_s.2.1 42 0 39) 43 (zcpy ((zup h_s.2.1 42 0 39) 43) ((zup h_s.2.1 42 0 39) 43) 1 0 39)) 44) 1 0 39)) 45) 1 0 39)) 46) 1 0 39), h_s.2.2.1, h_s.2.2.2)))))) : wF (F_s + 1) 10 (0, [some (.ref 42)], [], h_s) (gV K_s) := by
  refine w_0 (pc := 0) (e_s := (3, 1, 0, 0, 0, .null, [])) (y_s := (1, [some (.ref _)], [.ref _], _)) rfl (u_ rfl) ?_
  refine w_t (pc := 1) (e_s := (0, 2, 0, 0, 0, .int 39, [])) (y_s := (3, [some (.ref _)], [.int _, .ref _], _)) rfl (u_ rfl) ?_
  refine w21 (pc := 3) (len_s := 3) rfl ?_
  refine w_t (pc := 6) (e_s := (3, 1, 0, 0, 0, .null, [])) (y_s := (7, [some (.ref _)], [.ref _], _)) rfl (u_ rfl) ?_
  refine w20r (pc := 7) (len_s := 3) (q_s := 43) rfl (krq hk rfl) ?_
  refine w_t (pc := 10) (e_s := (0, 1, 0, 0, 0, .int 1, [])) (y_s := (11, [some (.ref _)], [.int _, .ref _], _)) rfl (u_ rfl) ?_
  refine w_t (pc := 11) (e_s := (3, 1, 0, 0, 0, .null, [])) (y_s := (12, [some (.ref _)], [.ref _, .int _, .ref _], _)) rfl (u_ rfl) ?_
  refine w20r (pc := 12) (len_s := 3) (q_s := 43) rfl (krq hk rfl) ?_
  refine w_t (pc := 15) (e_s := (0, 1, 0, 0, 0, .int 0, [])) (y_s := (16, [some (.ref _)], [.int _, .ref _, .int _, .ref _], _)) rfl (u_ rfl) ?_
  refine w_t (pc := 16) (e_s := (3, 1, 0, 0, 0, .null, [])) (y_s := (17, [some (.ref _)], [.ref _, .int _, .ref _, .int _, .ref _], _)) rfl (u_ rfl) ?_
  refine w20 (pc := 17) (len_s := 3) rfl ?_
  refine w34i (pc := 20) (len_s := 3) rfl (hk.1 43 0 40 rfl rfl) (hk.1 43 0 40 rfl rfl) (fun c1_s => ?_)
  replace t_s := t_s c1_s
  refine w_t (pc := 23) (e_s := (3, 1, 0, 0, 0, .null, [])) (y_s := (24, [some (.ref _)], [.ref _], _)) rfl (u_ rfl) ?_
  refine w20r (pc := 24) (len_s := 3) (q_s := 44) rfl (krq hk rfl) ?_
  refine w_t (pc := 27) (e_s := (0, 1, 0, 0, 0, .int 1, [])) (y_s := (28, [some (.ref _)], [.int _, .ref _], _)) rfl (u_ rfl) ?_
  refine w_t (pc := 28) (e_s := (3, 1, 0, 0, 0, .null, [])) (y_s := (29, [some (.ref _)], [.ref _, .int _, .ref _], _)) rfl (u_ rfl) ?_
  refine w20r (pc := 29) (len_s := 3) (q_s := 44) rfl (krq hk rfl) ?_
  refine w_t (pc := 32) (e_s := (0, 1, 0, 0, 0, .int 0, [])) (y_s := (33, [some (.ref _)], [.int _, .ref _, .int _, .ref _], _)) rfl (u_ rfl) ?_
  refine w_t (pc := 33) (e_s := (3, 1, 0, 0, 0, .null, [])) (y_s := (34, [some (.ref _)], [.ref _, .int _, .ref _, .int _, .ref _], _)) rfl (u_ rfl) ?_
  refine w20 (pc := 34) (len_s := 3) rfl ?_
  refine w34i (pc := 37) (len_s := 3) rfl (hk.1 44 0 40 rfl rfl) (hk.1 44 0 40 rfl rfl) (fun c2_s => ?_)
  replace t_s := t_s c2_s
  refine w_t (pc := 40) (e_s := (3, 1, 0, 0, 0, .null, [])) (y_s := (41, [some (.ref _)], [.ref _], _)) rfl (u_ rfl) ?_
  refine w20r (pc := 41) (len_s := 3) (q_s := 45) rfl (krq hk rfl) ?_
  refine w_t (pc := 44) (e_s := (0, 1, 0, 0, 0, .int 1, [])) (y_s := (45, [some (.ref _)], [.int _, .ref _], _)) rfl (u_ rfl) ?_
  refine w_t (pc := 45) (e_s := (3, 1, 0, 0, 0, .null, [])) (y_s := (46, [some (.ref _)], [.ref _, .int _, .ref _], _)) rfl (u_ rfl) ?_
  refine w20r (pc := 46) (len_s := 3) (q_s := 45) rfl (krq hk rfl) ?_
  refine w_t (pc := 49) (e_s := (0, 1, 0, 0, 0, .int 0, [])) (y_s := (50, [some (.ref _)], [.int _, .ref _, .int _, .ref _], _)) rfl (u_ rfl) ?_
  refine w_t (pc := 50) (e_s := (3, 1, 0, 0, 0, .null, [])) (y_s := (51, [some (.ref _)], [.ref _, .int _, .ref _, .int _, .ref _], _)) rfl (u_ rfl) ?_
  refine w20 (pc := 51) (len_s := 3) rfl ?_
  refine w34i (pc := 54) (len_s := 3) rfl (hk.1 45 0 40 rfl rfl) (hk.1 45 0 40 rfl rfl) (fun c3_s => ?_)
  replace t_s := t_s c3_s
  refine w_t (pc := 57) (e_s := (3, 1, 0, 0, 0, .null, [])) (y_s := (58, [some (.ref _)], [.ref _], _)) rfl (u_ rfl) ?_
  refine w20r (pc := 58) (len_s := 3) (q_s := 46) rfl (krq hk rfl) ?_
  refine w_t (pc := 61) (e_s := (0, 1, 0, 0, 0, .int 1, [])) (y_s := (62, [some (.ref _)], [.int _, .ref _], _)) rfl (u_ rfl) ?_
  refine w_t (pc := 62) (e_s := (3, 1, 0, 0, 0, .null, [])) (y_s := (63, [some (.ref _)], [.ref _, .int _, .ref _], _)) rfl (u_ rfl) ?_
  refine w20r (pc := 63) (len_s := 3) (q_s := 46) rfl (krq hk rfl) ?_
  refine w_t (pc := 66) (e_s := (0, 1, 0, 0, 0, .int 0, [])) (y_s := (67, [some (.ref _)], [.int _, .ref _, .int _, .ref _], _)) rfl (u_ rfl) ?_
  refine w_t (pc := 67) (e_s := (3, 1, 0, 0, 0, .null, [])) (y_s := (68, [some (.ref _)], [.ref _, .int _, .ref _, .int _, .ref _], _)) rfl (u_ rfl) ?_
  refine w20 (pc := 68) (len_s := 3) rfl ?_
  refine w34i (pc := 71) (len_s := 3) rfl (hk.1 46 0 40 rfl rfl) (hk.1 46 0 40 rfl rfl) (fun c4_s => ?_)
  replace t_s := t_s c4_s
  exact wrV (pc := 74) (len_s := 1) rfl hk t_s
/-- ColdShod$Changes.note(IIII)V, from 0 on -/
theorem sg_9_0 {F_s : Nat} {x1_s x2_s x3 x4_s : Int32} {h_s : zH} {K_s : zH → Prop} (hk : hKn h_s) (t_s : ((h_s.2.1 42 0).toInt < 40 → (zix (h_s.2.1 42 0) < 40 → K_s (h_s.1, zup (zup (zup (zup (zup (zup h_s.2.1 42 1 0) 43 (zix (h_s.2.1 42 0)) x1_s) 44 (zix (h_s.2.1 42 0)) x2_s) 45 (zix (h_s.2.1 42 0)) x3) 46 (zix (h_s.2.1 42 0)) x4_s) 42 0 ((h_s.2.1 42 0) + 1), h_s.2.2.1, h_s.2.2.2))) ∧ (¬ (h_s.2.1 42 0).toInt < 40 → wF F_s 10 (0, [some (.ref 42)], [], (h_s.1, zup h_s.2.1 42 1 0, h_s.2.2.1, h_s.2.2.2)) (gV (fun h6 => hKn h6 → (zix (h6.2.1 42 0) < 40 → K_s (h6.1, zup (zup (zup (zup (zup h6.2.1 43 (zix (h6.2.1 42 0)) x1_s) 44 (zix (h6.2.1 42 0)) x2_s) 45 (zix (h6.2.1 42 0)) x3) 46 (zix (h6.2.1 42 0)) x4_s) 42 0 ((h6.2.1 42 0) + 1), h6.2.2.1, h6.2.2.2)))))) : wF (F_s + 1) 9 (0, [some (.ref 42), some (.int x1_s), some (.int x2_s), some (.int x3), some (.int x4_s)], [], h_s) (gV K_s) := by
  refine w_0 (pc := 0) (e_s := (3, 1, 0, 0, 0, .null, [])) (y_s := (1, [some (.ref _), some (.int _), some (.int _), some (.int _), some (.int _)], [.ref _], _)) rfl (u_ rfl) ?_
  refine w_t (pc := 1) (e_s := (0, 1, 0, 0, 0, .int 0, [])) (y_s := (2, [some (.ref _), some (.int _), some (.int _), some (.int _), some (.int _)], [.int _, .ref _], _)) rfl (u_ rfl) ?_
  refine w21 (pc := 2) (len_s := 3) rfl ?_
  refine w_t (pc := 5) (e_s := (3, 1, 0, 0, 0, .null, [])) (y_s := (6, [some (.ref _), some (.int _), some (.int _), some (.int _), some (.int _)], [.ref _], _)) rfl (u_ rfl) ?_
  refine w20 (pc := 6) (len_s := 3) rfl ?_
  refine w_t (pc := 9) (e_s := (0, 2, 0, 0, 0, .int 40, [])) (y_s := (11, [some (.ref _), some (.int _), some (.int _), some (.int _), some (.int _)], [.int _, .int _], _)) rfl (u_ rfl) ?_
  refine wi2 (pc := 11) (len_s := 3) (Y := 40) rfl rfl (by decide) (fun c1_s => ?_) (fun c1_s => ?_)
  · replace t_s := t_s.1 c1_s
    refine w_t (pc := 18) (e_s := (3, 1, 0, 0, 0, .null, [])) (y_s := (19, [some (.ref _), some (.int _), some (.int _), some (.int _), some (.int _)], [.ref _], _)) rfl (u_ rfl) ?_
    refine w20r (pc := 19) (len_s := 3) (q_s := 43) rfl (krq hk rfl) ?_
    refine w_t (pc := 22) (e_s := (3, 1, 0, 0, 0, .null, [])) (y_s := (23, [some (.ref _), some (.int _), some (.int _), some (.int _), some (.int _)], [.ref _, .ref _], _)) rfl (u_ rfl) ?_
    refine w20 (pc := 23) (len_s := 3) rfl ?_
    refine w_t (pc := 26) (e_s := (1, 1, 1, 0, 0, .null, [])) (y_s := (27, [some (.ref _), some (.int _), some (.int _), some (.int _), some (.int _)], [.int _, .int _, .ref _], _)) rfl (u_ rfl) ?_
    refine w25 (pc := 27) (len_s := 1) rfl (hk.1 43 0 40 rfl rfl) (fun c2_s => ?_)
    replace t_s := t_s c2_s
    refine w_t (pc := 28) (e_s := (3, 1, 0, 0, 0, .null, [])) (y_s := (29, [some (.ref _), some (.int _), some (.int _), some (.int _), some (.int _)], [.ref _], _)) rfl (u_ rfl) ?_
    refine w20r (pc := 29) (len_s := 3) (q_s := 44) rfl (krq hk rfl) ?_
    refine w_t (pc := 32) (e_s := (3, 1, 0, 0, 0, .null, [])) (y_s := (33, [some (.ref _), some (.int _), some (.int _), some (.int _), some (.int _)], [.ref _, .ref _], _)) rfl (u_ rfl) ?_
    refine w20 (pc := 33) (len_s := 3) rfl ?_
    refine w_t (pc := 36) (e_s := (1, 1, 2, 0, 0, .null, [])) (y_s := (37, [some (.ref _), some (.int _), some (.int _), some (.int _), some (.int _)], [.int _, .int _, .ref _], _)) rfl (u_ rfl) ?_
    refine w25 (pc := 37) (len_s := 1) rfl (hk.1 44 0 40 rfl rfl) (fun c3_s => ?_)
    refine w_t (pc := 38) (e_s := (3, 1, 0, 0, 0, .null, [])) (y_s := (39, [some (.ref _), some (.int _), some (.int _), some (.int _), some (.int _)], [.ref _], _)) rfl (u_ rfl) ?_
    refine w20r (pc := 39) (len_s := 3) (q_s := 45) rfl (krq hk rfl) ?_
    refine w_t (pc := 42) (e_s := (3, 1, 0, 0, 0, .null, [])) (y_s := (43, [some (.ref _), some (.int _), some (.int _), some (.int _), some (.int _)], [.ref _, .ref _], _)) rfl (u_ rfl) ?_
    refine w20 (pc := 43) (len_s := 3) rfl ?_
    refine w_t (pc := 46) (e_s := (1, 1, 3, 0, 0, .null, [])) (y_s := (47, [some (.ref _), some (.int _), some (.int _), some (.int _), some (.int _)], [.int _, .int _, .ref _], _)) rfl (u_ rfl) ?_
    refine w25 (pc := 47) (len_s := 1) rfl (hk.1 45 0 40 rfl rfl) (fun c4_s => ?_)
    refine w_t (pc := 48) (e_s := (3, 1, 0, 0, 0, .null, [])) (y_s := (49, [some (.ref _), some (.int _), some (.int _), some (.int _), some (.int _)], [.ref _], _)) rfl (u_ rfl) ?_
    refine w20r (pc := 49) (len_s := 3) (q_s := 46) rfl (krq hk rfl) ?_
    refine w_t (pc := 52) (e_s := (3, 1, 0, 0, 0, .null, [])) (y_s := (53, [some (.ref _), some (.int _), some (.int _), some (.int _), some (.int _)], [.ref _, .ref _], _)) rfl (u_ rfl) ?_
    refine w20 (pc := 53) (len_s := 3) rfl ?_
    refine w_t (pc := 56) (e_s := (1, 2, 4, 0, 0, .null, [])) (y_s := (58, [some (.ref _), some (.int _), some (.int _), some (.int _), some (.int _)], [.int _, .int _, .ref _], _)) rfl (u_ rfl) ?_
    refine w25 (pc := 58) (len_s := 1) rfl (hk.1 46 0 40 rfl rfl) (fun c5_s => ?_)
    refine w_t (pc := 59) (e_s := (3, 1, 0, 0, 0, .null, [])) (y_s := (60, [some (.ref _), some (.int _), some (.int _), some (.int _), some (.int _)], [.ref _], _)) rfl (u_ rfl) ?_
    refine w_t (pc := 60) (e_s := (39, 1, 0, 0, 0, .null, [])) (y_s := (61, [some (.ref _), some (.int _), some (.int _), some (.int _), some (.int _)], [.ref _, .ref _], _)) rfl (u_ rfl) ?_
    refine w20 (pc := 61) (len_s := 3) rfl ?_
    refine w_t (pc := 64) (e_s := (0, 1, 0, 0, 0, .int 1, [])) (y_s := (65, [some (.ref _), some (.int _), some (.int _), some (.int _), some (.int _)], [.int _, .int _, .ref _], _)) rfl (u_ rfl) ?_
    refine w_t (pc := 65) (e_s := (7, 1, 0, 0, 0, .null, [])) (y_s := (66, [some (.ref _), some (.int _), some (.int _), some (.int _), some (.int _)], [.int (_ + _), .ref _], _)) rfl (u_ rfl) ?_
    refine w21 (pc := 66) (len_s := 3) rfl ?_
    exact wrV (pc := 69) (len_s := 1) rfl hk t_s
  · replace t_s := t_s.2 c1_s
    refine w_t (pc := 14) (e_s := (3, 1, 0, 0, 0, .null, [])) (y_s := (15, [some (.ref _), some (.int _), some (.int _), some (.int _), some (.int _)], [.ref _], _)) rfl (u_ rfl) ?_
    refine wcV (pc := 15) (len_s := 3) rfl rfl (l := [some (.ref _)]) rfl (wmV t_s (fun h6 hk t_s => ?_))
    replace t_s := t_s hk
    refine w_t (pc := 18) (e_s := (3, 1, 0, 0, 0, .null, [])) (y_s := (19, [some (.ref _), some (.int _), some (.int _), some (.int _), some (.int _)], [.ref _], _)) rfl (u_ rfl) ?_
    refine w20r (pc := 19) (len_s := 3) (q_s := 43) rfl (krq hk rfl) ?_
    refine w_t (pc := 22) (e_s := (3, 1, 0, 0, 0, .null, [])) (y_s := (23, [some (.ref _), some (.int _), some (.int _), some (.int _), some (.int _)], [.ref _, .ref _], _)) rfl (u_ rfl) ?_
    refine w20 (pc := 23) (len_s := 3) rfl ?_
    refine w_t (pc := 26) (e_s := (1, 1, 1, 0, 0, .null, [])) (y_s := (27, [some (.ref _), some (.int _), some (.int _), some (.int _), some (.int _)], [.int _, .int _, .ref _], _)) rfl (u_ rfl) ?_
    refine w25 (pc := 27) (len_s := 1) rfl (hk.1 43 0 40 rfl rfl) (fun c7_s => ?_)
    replace t_s := t_s c7_s
    refine w_t (pc := 28) (e_s := (3, 1, 0, 0, 0, .null, [])) (y_s := (29, [some (.ref _), some (.int _), some (.int _), some (.int _), some (.int _)], [.ref _], _)) rfl (u_ rfl) ?_
    refine w20r (pc := 29) (len_s := 3) (q_s := 44) rfl (krq hk rfl) ?_
    refine w_t (pc := 32) (e_s := (3, 1, 0, 0, 0, .null, [])) (y_s := (33, [some (.ref _), some (.int _), some (.int _), some (.int _), some (.int _)], [.ref _, .ref _], _)) rfl (u_ rfl) ?_
    refine w20 (pc := 33) (len_s := 3) rfl ?_
    refine w_t (pc := 36) (e_s := (1, 1, 2, 0, 0, .null, [])) (y_s := (37, [some (.ref _), some (.int _), some (.int _), some (.int _), some (.int _)], [.int _, .int _, .ref _], _)) rfl (u_ rfl) ?_
    refine w25 (pc := 37) (len_s := 1) rfl (hk.1 44 0 40 rfl rfl) (fun c8_s => ?_)
    refine w_t (pc := 38) (e_s := (3, 1, 0, 0, 0, .null, [])) (y_s := (39, [some (.ref _), some (.int _), some (.int _), some (.int _), some (.int _)], [.ref _], _)) rfl (u_ rfl) ?_
    refine w20r (pc := 39) (len_s := 3) (q_s := 45) rfl (krq hk rfl) ?_
    refine w_t (pc := 42) (e_s := (3, 1, 0, 0, 0, .null, [])) (y_s := (43, [some (.ref _), some (.int _), some (.int _), some (.int _), some (.int _)], [.ref _, .ref _], _)) rfl (u_ rfl) ?_
    refine w20 (pc := 43) (len_s := 3) rfl ?_
    refine w_t (pc := 46) (e_s := (1, 1, 3, 0, 0, .null, [])) (y_s := (47, [some (.ref _), some (.int _), some (.int _), some (.int _), some (.int _)], [.int _, .int _, .ref _], _)) rfl (u_ rfl) ?_
    refine w25 (pc := 47) (len_s := 1) rfl (hk.1 45 0 40 rfl rfl) (fun c9_s => ?_)
    refine w_t (pc := 48) (e_s := (3, 1, 0, 0, 0, .null, [])) (y_s := (49, [some (.ref _), some (.int _), some (.int _), some (.int _), some (.int _)], [.ref _], _)) rfl (u_ rfl) ?_
    refine w20r (pc := 49) (len_s := 3) (q_s := 46) rfl (krq hk rfl) ?_
    refine w_t (pc := 52) (e_s := (3, 1, 0, 0, 0, .null, [])) (y_s := (53, [some (.ref _), some (.int _), some (.int _), some (.int _), some (.int _)], [.ref _, .ref _], _)) rfl (u_ rfl) ?_
    refine w20 (pc := 53) (len_s := 3) rfl ?_
    refine w_t (pc := 56) (e_s := (1, 2, 4, 0, 0, .null, [])) (y_s := (58, [some (.ref _), some (.int _), some (.int _), some (.int _), some (.int _)], [.int _, .int _, .ref _], _)) rfl (u_ rfl) ?_
    refine w25 (pc := 58) (len_s := 1) rfl (hk.1 46 0 40 rfl rfl) (fun c10_s => ?_)
    refine w_t (pc := 59) (e_s := (3, 1, 0, 0, 0, .null, [])) (y_s := (60, [some (.ref _), some (.int _), some (.int _), some (.int _), some (.int _)], [.ref _], _)) rfl (u_ rfl) ?_
    refine w_t (pc := 60) (e_s := (39, 1, 0, 0, 0, .null, [])) (y_s := (61, [some (.ref _), some (.int _), some (.int _), some (.int _), some (.int _)], [.ref _, .ref _], _)) rfl (u_ rfl) ?_
    refine w20 (pc := 61) (len_s := 3) rfl ?_
    refine w_t (pc := 64) (e_s := (0, 1, 0, 0, 0, .int 1, [])) (y_s := (65, [some (.ref _), some (.int _), some (.int _), some (.int _), some (.int _)], [.int _, .int _, .ref _], _)) rfl (u_ rfl) ?_
    refine w_t (pc := 65) (e_s := (7, 1, 0, 0, 0, .null, [])) (y_s := (66, [some (.ref _), some (.int _), some (.int _), some (.int _), some (.int _)], [.int (_ + _), .ref _], _)) rfl (u_ rfl) ?_
    refine w21 (pc := 66) (len_s := 3) rfl ?_
    exact wrV (pc := 69) (len_s := 1) rfl hk t_s
/-- ColdShod.mend(III)I, from 0 on -/
theorem sg_98_0 {F_s : Nat} {x1_s : Int32} {x2_s : Int32} {x3 : Int32} {h_s : zH} {K_s : Int32 → zH → Prop} (hk : hKn h_s) (t_s : wF F_s 18 (0, [some (.ref 7), some (.int x1_s), some (.int x2_s)], [], h_s) (gI (fun v1_s h1 => hKn h1 → (v1_s.toInt = 0 → K_s (-2000000000) h1) ∧ (¬ v1_s.toInt = 0 → wF F_s 19 (0, [some (.ref 7), some (.int x2_s), some (.int x3), none], [], h1) (gI (fun v3 h3 => hKn h3 → (v3.toInt = 0 → K_s (-2000000000) h3) ∧ (¬ v3.toInt = 0 → wF F_s 20 (0, [some (.ref 7), some (.int x1_s), some (.int x2_s)], [], h3) (gI (fun v5 h5 => hKn h5 → (v5.toInt = x3.toInt → K_s v5 h5) ∧ (¬ v5.toInt = x3.toInt → wF F_s 21 (0, [some (.ref 7), some (.int x1_s), some (.int x2_s), some (.int x3)], [], h5) (gV (fun h7 => hKn h7 → wF F_s 9 (0, [some (.ref 42), some (.int x1_s), some (.int x2_s), some (.int v5), some (.int x3)], [], h7) (gV (fun h8 => hKn h8 → K_s v5 h8)))))))))))))) : wF (F_s + 1) 98 (0, [some (.ref 6), some (.int x1_s), some (.int x2_s), some (.int x3), none], [], h_s) (gI K_s) := by
  refine w_0 (pc := 0) (e_s := (3, 1, 0, 0, 0, .null, [])) (y_s := (1, [some (.ref _), some (.int _), some (.int _), some (.int _), none], [.ref _], _)) rfl (u_ rfl) ?_
  refine w20r (pc := 1) (len_s := 3) (q_s := 7) rfl (krq hk rfl) ?_
  refine w_t (pc := 4) (e_s := (1, 1, 1, 0, 0, .null, [])) (y_s := (5, [some (.ref _), some (.int _), some (.int _), some (.int _), none], [.int _, .ref _], _)) rfl (u_ rfl) ?_
  refine w_t (pc := 5) (e_s := (1, 1, 2, 0, 0, .null, [])) (y_s := (6, [some (.ref _), some (.int _), some (.int _), some (.int _), none], [.int _, .int _, .ref _], _)) rfl (u_ rfl) ?_
  refine wcI (pc := 6) (len_s := 3) rfl rfl (l := [some (.ref _), some (.int _), some (.int _)]) rfl (wmI t_s (fun v1_s h1 hk t_s => ?_))
  replace t_s := t_s hk
  refine wq0 (pc := 9) (len_s := 3) rfl rfl (fun c2_s => ?_) (fun c2_s => ?_)
  · replace t_s := t_s.1 c2_s
    refine w_t (pc := 24) (e_s := (0, 2, 0, 0, 0, .int (-2000000000), [(0, 949)])) (y_s := (26, [some (.ref _), some (.int _), some (.int _), some (.int _), none], [.int _], _)) rfl (u_ rfl) ?_
    exact wrI (pc := 26) (len_s := 1) rfl hk t_s
  · replace t_s := t_s.2 c2_s
    refine w_t (pc := 12) (e_s := (3, 1, 0, 0, 0, .null, [])) (y_s := (13, [some (.ref _), some (.int _), some (.int _), some (.int _), none], [.ref _], _)) rfl (u_ rfl) ?_
    refine w20r (pc := 13) (len_s := 3) (q_s := 7) rfl (krq hk rfl) ?_
    refine w_t (pc := 16) (e_s := (1, 1, 2, 0, 0, .null, [])) (y_s := (17, [some (.ref _), some (.int _), some (.int _), some (.int _), none], [.int _, .ref _], _)) rfl (u_ rfl) ?_
    refine w_t (pc := 17) (e_s := (1, 1, 3, 0, 0, .null, [])) (y_s := (18, [some (.ref _), some (.int _), some (.int _), some (.int _), none], [.int _, .int _, .ref _], _)) rfl (u_ rfl) ?_
    refine wcI (pc := 18) (len_s := 3) rfl rfl (l := [some (.ref _), some (.int _), some (.int _), none]) rfl (wmI t_s (fun v3 h3 hk t_s => ?_))
    replace t_s := t_s hk
    refine wq1 (pc := 21) (len_s := 3) rfl rfl (fun c4_s => ?_) (fun c4_s => ?_)
    · replace t_s := t_s.1 c4_s
      refine w_t (pc := 24) (e_s := (0, 2, 0, 0, 0, .int (-2000000000), [(0, 949)])) (y_s := (26, [some (.ref _), some (.int _), some (.int _), some (.int _), none], [.int _], _)) rfl (u_ rfl) ?_
      exact wrI (pc := 26) (len_s := 1) rfl hk t_s
    · replace t_s := t_s.2 c4_s
      refine w_t (pc := 27) (e_s := (3, 1, 0, 0, 0, .null, [])) (y_s := (28, [some (.ref _), some (.int _), some (.int _), some (.int _), none], [.ref _], _)) rfl (u_ rfl) ?_
      refine w20r (pc := 28) (len_s := 3) (q_s := 7) rfl (krq hk rfl) ?_
      refine w_t (pc := 31) (e_s := (1, 1, 1, 0, 0, .null, [])) (y_s := (32, [some (.ref _), some (.int _), some (.int _), some (.int _), none], [.int _, .ref _], _)) rfl (u_ rfl) ?_
      refine w_t (pc := 32) (e_s := (1, 1, 2, 0, 0, .null, [])) (y_s := (33, [some (.ref _), some (.int _), some (.int _), some (.int _), none], [.int _, .int _, .ref _], _)) rfl (u_ rfl) ?_
      refine wcI (pc := 33) (len_s := 3) rfl rfl (l := [some (.ref _), some (.int _), some (.int _)]) rfl (wmI t_s (fun v5 h5 hk t_s => ?_))
      replace t_s := t_s hk
      refine w_t (pc := 36) (e_s := (4, 2, 4, 0, 0, .null, [])) (y_s := (38, [some (.ref _), some (.int _), some (.int _), some (.int _), some (.int _)], [], _)) rfl (u_ rfl) ?_
      refine w_t (pc := 38) (e_s := (1, 2, 4, 0, 0, .null, [])) (y_s := (40, [some (.ref _), some (.int _), some (.int _), some (.int _), some (.int _)], [.int _], _)) rfl (u_ rfl) ?_
      refine w_t (pc := 40) (e_s := (1, 1, 3, 0, 0, .null, [])) (y_s := (41, [some (.ref _), some (.int _), some (.int _), some (.int _), some (.int _)], [.int _, .int _], _)) rfl (u_ rfl) ?_
      refine wi0 (pc := 41) (len_s := 3) rfl rfl rfl (fun c6_s => ?_) (fun c6_s => ?_)
      · replace t_s := t_s.1 c6_s
        refine w_t (pc := 66) (e_s := (1, 2, 4, 0, 0, .null, [])) (y_s := (68, [some (.ref _), some (.int _), some (.int _), some (.int _), some (.int _)], [.int _], _)) rfl (u_ rfl) ?_
        exact wrI (pc := 68) (len_s := 1) rfl hk t_s
      · replace t_s := t_s.2 c6_s
        refine w_t (pc := 44) (e_s := (3, 1, 0, 0, 0, .null, [])) (y_s := (45, [some (.ref _), some (.int _), some (.int _), some (.int _), some (.int _)], [.ref _], _)) rfl (u_ rfl) ?_
        refine w20r (pc := 45) (len_s := 3) (q_s := 7) rfl (krq hk rfl) ?_
        refine w_t (pc := 48) (e_s := (1, 1, 1, 0, 0, .null, [])) (y_s := (49, [some (.ref _), some (.int _), some (.int _), some (.int _), some (.int _)], [.int _, .ref _], _)) rfl (u_ rfl) ?_
        refine w_t (pc := 49) (e_s := (1, 1, 2, 0, 0, .null, [])) (y_s := (50, [some (.ref _), some (.int _), some (.int _), some (.int _), some (.int _)], [.int _, .int _, .ref _], _)) rfl (u_ rfl) ?_
        refine w_t (pc := 50) (e_s := (1, 1, 3, 0, 0, .null, [])) (y_s := (51, [some (.ref _), some (.int _), some (.int _), some (.int _), some (.int _)], [.int _, .int _, .int _, .ref _], _)) rfl (u_ rfl) ?_
        refine wcV (pc := 51) (len_s := 3) rfl rfl (l := [some (.ref _), some (.int _), some (.int _), some (.int _)]) rfl (wmV t_s (fun h7 hk t_s => ?_))
        replace t_s := t_s hk
        refine w_t (pc := 54) (e_s := (3, 1, 0, 0, 0, .null, [])) (y_s := (55, [some (.ref _), some (.int _), some (.int _), some (.int _), some (.int _)], [.ref _], _)) rfl (u_ rfl) ?_
        refine w20r (pc := 55) (len_s := 3) (q_s := 42) rfl (krq hk rfl) ?_
        refine w_t (pc := 58) (e_s := (1, 1, 1, 0, 0, .null, [])) (y_s := (59, [some (.ref _), some (.int _), some (.int _), some (.int _), some (.int _)], [.int _, .ref _], _)) rfl (u_ rfl) ?_
        refine w_t (pc := 59) (e_s := (1, 1, 2, 0, 0, .null, [])) (y_s := (60, [some (.ref _), some (.int _), some (.int _), some (.int _), some (.int _)], [.int _, .int _, .ref _], _)) rfl (u_ rfl) ?_
        refine w_t (pc := 60) (e_s := (1, 2, 4, 0, 0, .null, [])) (y_s := (62, [some (.ref _), some (.int _), some (.int _), some (.int _), some (.int _)], [.int _, .int _, .int _, .ref _], _)) rfl (u_ rfl) ?_
        refine w_t (pc := 62) (e_s := (1, 1, 3, 0, 0, .null, [])) (y_s := (63, [some (.ref _), some (.int _), some (.int _), some (.int _), some (.int _)], [.int _, .int _, .int _, .int _, .ref _], _)) rfl (u_ rfl) ?_
        refine wcV (pc := 63) (len_s := 3) rfl rfl (l := [some (.ref _), some (.int _), some (.int _), some (.int _), some (.int _)]) rfl (wmV t_s (fun h8 hk t_s => ?_))
        replace t_s := t_s hk
        refine w_t (pc := 66) (e_s := (1, 2, 4, 0, 0, .null, [])) (y_s := (68, [some (.ref _), some (.int _), some (.int _), some (.int _), some (.int _)], [.int _], _)) rfl (u_ rfl) ?_
        exact wrI (pc := 68) (len_s := 1) rfl hk t_s
/-- ColdShod$WayPlan.weigh(I)V, from 0 on -/
theorem sg_91_0 {F_s : Nat} {x1_s : Int32} {h_s : zH} {K_s : zH → Prop} (hk : hKn h_s) (t_s : (zix x1_s < 8 → ((h_s.2.1 59 1).toInt = -2 → (0 + zix x1_s ≤ 8 ∧ 0 + zix x1_s ≤ 8 → K_s (h_s.1, zrow (zup (zup h_s.2.1 59 2 (h_s.2.1 (63 + (zix x1_s)) 2)) 59 1 x1_s) 60 (zcpy ((zup (zup h_s.2.1 59 2 (h_s.2.1 (63 + (zix x1_s)) 2)) 59 1 x1_s) 61) ((zup (zup h_s.2.1 59 2 (h_s.2.1 (63 + (zix x1_s)) 2)) 59 1 x1_s) 60) 0 0 (zix x1_s)), h_s.2.2.1, h_s.2.2.2))) ∧ (¬ (h_s.2.1 59 1).toInt = -2 → (((h_s.2.1 (63 + (zix x1_s)) 2).toInt < (h_s.2.1 59 2).toInt → (0 + zix x1_s ≤ 8 ∧ 0 + zix x1_s ≤ 8 → K_s (h_s.1, zrow (zup (zup h_s.2.1 59 2 (h_s.2.1 (63 + (zix x1_s)) 2)) 59 1 x1_s) 60 (zcpy ((zup (zup h_s.2.1 59 2 (h_s.2.1 (63 + (zix x1_s)) 2)) 59 1 x1_s) 61) ((zup (zup h_s.2.1 59 2 (h_s.2.1 (63 + (zix x1_s)) 2)) 59 1 x1_s) 60) 0 0 (zix x1_s)), h_s.2.2.1, h_s.2.2.2))) ∧ (¬ (h_s.2.1 (63 + (zix x1_s)) 2).toInt < (h_s.2.1 59 2).toInt → (((h_s.2.1 (63 + (zix x1_s)) 2).toInt = (h_s.2.1 59 2).toInt → ((x1_s.toInt < (h_s.2.1 59 1).toInt → (0 + zix x1_s ≤ 8 ∧ 0 + zix x1_s ≤ 8 → K_s (h_s.1, zrow (zup (zup h_s.2.1 59 2 (h_s.2.1 (63 + (zix x1_s)) 2)) 59 1 x1_s) 60 (zcpy ((zup (zup h_s.2.1 59 2 (h_s.2.1 (63 + (zix x1_s)) 2)) 59 1 x1_s) 61) ((zup (zup h_s.2.1 59 2 (h_s.2.1 (63 + (zix x1_s)) 2)) 59 1 x1_s) 60) 0 0 (zix x1_s)), h_s.2.2.1, h_s.2.2.2))) ∧ (¬ x1_s.toInt < (h_s.2.1 59 1).toInt → K_s h_s))) ∧ (¬ (h_s.2.1 (63 + (zix x1_s)) 2).toInt = (h_s.2.1 59 2).toInt → K_s h_s))))))) : wF (F_s + 1) 91 (0, [some (.ref 59), some (.int x1_s), none, none], [], h_s) (gV K_s) := by
  refine w_0 (pc := 0) (e_s := (3, 1, 0, 0, 0, .null, [])) (y_s := (1, [some (.ref _), some (.int _), none, none], [.ref _], _)) rfl (u_ rfl) ?_
  refine w20r (pc := 1) (len_s := 3) (q_s := 62) rfl (krq hk rfl) ?_
  refine w_t (pc := 4) (e_s := (1, 1, 1, 0, 0, .null, [])) (y_s := (5, [some (.ref _), some (.int _), none, none], [.int _, .ref _], _)) rfl (u_ rfl) ?_
  refine w24 (g_s := fun j_ => 63 + j_) (pc := 5) (len_s := 1) hk rfl (hk.1 62 2 8 rfl rfl) kg62 (fun c1_s => ?_)
  replace t_s := t_s c1_s
  refine w20 (pc := 6) (len_s := 3) rfl ?_
  refine w_t (pc := 9) (e_s := (4, 1, 2, 0, 0, .null, [])) (y_s := (10, [some (.ref _), some (.int _), some (.int _), none], [], _)) rfl (u_ rfl) ?_
  refine w_t (pc := 10) (e_s := (3, 1, 0, 0, 0, .null, [])) (y_s := (11, [some (.ref _), some (.int _), some (.int _), none], [.ref _], _)) rfl (u_ rfl) ?_
  refine w20 (pc := 11) (len_s := 3) rfl ?_
  refine w_t (pc := 14) (e_s := (0, 2, 0, 0, 0, .int (-2), [])) (y_s := (16, [some (.ref _), some (.int _), some (.int _), none], [.int _, .int _], _)) rfl (u_ rfl) ?_
  refine wi0 (pc := 16) (len_s := 3) (Y := -2) rfl rfl (by decide) (fun c2_s => ?_) (fun c2_s => ?_)
  · replace t_s := t_s.1 c2_s
    refine w_t (pc := 43) (e_s := (0, 1, 0, 0, 0, .int 1, [])) (y_s := (44, [some (.ref _), some (.int _), some (.int _), none], [.int _], _)) rfl (u_ rfl) ?_
    refine w_t (pc := 44) (e_s := (17, 3, 48, 0, 0, .null, [])) (y_s := (48, [some (.ref _), some (.int _), some (.int _), none], [.int _], _)) rfl (u_ rfl) ?_
    refine w_t (pc := 48) (e_s := (4, 1, 3, 0, 0, .null, [])) (y_s := (49, [some (.ref _), some (.int _), some (.int _), some (.int _)], [], _)) rfl (u_ rfl) ?_
    refine w_t (pc := 49) (e_s := (1, 1, 3, 0, 0, .null, [])) (y_s := (50, [some (.ref _), some (.int _), some (.int _), some (.int _)], [.int _], _)) rfl (u_ rfl) ?_
    refine w_t (pc := 50) (e_s := (15, 3, 54, 1, 0, .null, [])) (y_s := (54, [some (.ref _), some (.int _), some (.int _), some (.int _)], [], _)) rfl (u_ rfl) ?_
    refine w_t (pc := 54) (e_s := (3, 1, 0, 0, 0, .null, [])) (y_s := (55, [some (.ref _), some (.int _), some (.int _), some (.int _)], [.ref _], _)) rfl (u_ rfl) ?_
    refine w_t (pc := 55) (e_s := (1, 1, 2, 0, 0, .null, [])) (y_s := (56, [some (.ref _), some (.int _), some (.int _), some (.int _)], [.int _, .ref _], _)) rfl (u_ rfl) ?_
    refine w21 (pc := 56) (len_s := 3) rfl ?_
    refine w_t (pc := 59) (e_s := (3, 1, 0, 0, 0, .null, [])) (y_s := (60, [some (.ref _), some (.int _), some (.int _), some (.int _)], [.ref _], _)) rfl (u_ rfl) ?_
    refine w_t (pc := 60) (e_s := (1, 1, 1, 0, 0, .null, [])) (y_s := (61, [some (.ref _), some (.int _), some (.int _), some (.int _)], [.int _, .ref _], _)) rfl (u_ rfl) ?_
    refine w21 (pc := 61) (len_s := 3) rfl ?_
    refine w_t (pc := 64) (e_s := (3, 1, 0, 0, 0, .null, [])) (y_s := (65, [some (.ref _), some (.int _), some (.int _), some (.int _)], [.ref _], _)) rfl (u_ rfl) ?_
    refine w20r (pc := 65) (len_s := 3) (q_s := 61) rfl (krq hk rfl) ?_
    refine w_t (pc := 68) (e_s := (0, 1, 0, 0, 0, .int 0, [])) (y_s := (69, [some (.ref _), some (.int _), some (.int _), some (.int _)], [.int _, .ref _], _)) rfl (u_ rfl) ?_
    refine w_t (pc := 69) (e_s := (3, 1, 0, 0, 0, .null, [])) (y_s := (70, [some (.ref _), some (.int _), some (.int _), some (.int _)], [.ref _, .int _, .ref _], _)) rfl (u_ rfl) ?_
    refine w20r (pc := 70) (len_s := 3) (q_s := 60) rfl (krq hk rfl) ?_
    refine w_t (pc := 73) (e_s := (0, 1, 0, 0, 0, .int 0, [])) (y_s := (74, [some (.ref _), some (.int _), some (.int _), some (.int _)], [.int _, .ref _, .int _, .ref _], _)) rfl (u_ rfl) ?_
    refine w_t (pc := 74) (e_s := (1, 1, 1, 0, 0, .null, [])) (y_s := (75, [some (.ref _), some (.int _), some (.int _), some (.int _)], [.int _, .int _, .ref _, .int _, .ref _], _)) rfl (u_ rfl) ?_
    refine w34i (pc := 75) (len_s := 3) rfl (hk.1 61 0 8 rfl rfl) (hk.1 60 0 8 rfl rfl) (fun c3_s => ?_)
    replace t_s := t_s c3_s
    exact wrV (pc := 78) (len_s := 1) rfl hk t_s
  · replace t_s := t_s.2 c2_s
    refine w_t (pc := 19) (e_s := (1, 1, 2, 0, 0, .null, [])) (y_s := (20, [some (.ref _), some (.int _), some (.int _), none], [.int _], _)) rfl (u_ rfl) ?_
    refine w_t (pc := 20) (e_s := (3, 1, 0, 0, 0, .null, [])) (y_s := (21, [some (.ref _), some (.int _), some (.int _), none], [.ref _, .int _], _)) rfl (u_ rfl) ?_
    refine w20 (pc := 21) (len_s := 3) rfl ?_
    refine wi2 (pc := 24) (len_s := 3) rfl rfl rfl (fun c4_s => ?_) (fun c4_s => ?_)
    · replace t_s := t_s.1 c4_s
      refine w_t (pc := 43) (e_s := (0, 1, 0, 0, 0, .int 1, [])) (y_s := (44, [some (.ref _), some (.int _), some (.int _), none], [.int _], _)) rfl (u_ rfl) ?_
      refine w_t (pc := 44) (e_s := (17, 3, 48, 0, 0, .null, [])) (y_s := (48, [some (.ref _), some (.int _), some (.int _), none], [.int _], _)) rfl (u_ rfl) ?_
      refine w_t (pc := 48) (e_s := (4, 1, 3, 0, 0, .null, [])) (y_s := (49, [some (.ref _), some (.int _), some (.int _), some (.int _)], [], _)) rfl (u_ rfl) ?_
      refine w_t (pc := 49) (e_s := (1, 1, 3, 0, 0, .null, [])) (y_s := (50, [some (.ref _), some (.int _), some (.int _), some (.int _)], [.int _], _)) rfl (u_ rfl) ?_
      refine w_t (pc := 50) (e_s := (15, 3, 54, 1, 0, .null, [])) (y_s := (54, [some (.ref _), some (.int _), some (.int _), some (.int _)], [], _)) rfl (u_ rfl) ?_
      refine w_t (pc := 54) (e_s := (3, 1, 0, 0, 0, .null, [])) (y_s := (55, [some (.ref _), some (.int _), some (.int _), some (.int _)], [.ref _], _)) rfl (u_ rfl) ?_
      refine w_t (pc := 55) (e_s := (1, 1, 2, 0, 0, .null, [])) (y_s := (56, [some (.ref _), some (.int _), some (.int _), some (.int _)], [.int _, .ref _], _)) rfl (u_ rfl) ?_
      refine w21 (pc := 56) (len_s := 3) rfl ?_
      refine w_t (pc := 59) (e_s := (3, 1, 0, 0, 0, .null, [])) (y_s := (60, [some (.ref _), some (.int _), some (.int _), some (.int _)], [.ref _], _)) rfl (u_ rfl) ?_
      refine w_t (pc := 60) (e_s := (1, 1, 1, 0, 0, .null, [])) (y_s := (61, [some (.ref _), some (.int _), some (.int _), some (.int _)], [.int _, .ref _], _)) rfl (u_ rfl) ?_
      refine w21 (pc := 61) (len_s := 3) rfl ?_
      refine w_t (pc := 64) (e_s := (3, 1, 0, 0, 0, .null, [])) (y_s := (65, [some (.ref _), some (.int _), some (.int _), some (.int _)], [.ref _], _)) rfl (u_ rfl) ?_
      refine w20r (pc := 65) (len_s := 3) (q_s := 61) rfl (krq hk rfl) ?_
      refine w_t (pc := 68) (e_s := (0, 1, 0, 0, 0, .int 0, [])) (y_s := (69, [some (.ref _), some (.int _), some (.int _), some (.int _)], [.int _, .ref _], _)) rfl (u_ rfl) ?_
      refine w_t (pc := 69) (e_s := (3, 1, 0, 0, 0, .null, [])) (y_s := (70, [some (.ref _), some (.int _), some (.int _), some (.int _)], [.ref _, .int _, .ref _], _)) rfl (u_ rfl) ?_
      refine w20r (pc := 70) (len_s := 3) (q_s := 60) rfl (krq hk rfl) ?_
      refine w_t (pc := 73) (e_s := (0, 1, 0, 0, 0, .int 0, [])) (y_s := (74, [some (.ref _), some (.int _), some (.int _), some (.int _)], [.int _, .ref _, .int _, .ref _], _)) rfl (u_ rfl) ?_
      refine w_t (pc := 74) (e_s := (1, 1, 1, 0, 0, .null, [])) (y_s := (75, [some (.ref _), some (.int _), some (.int _), some (.int _)], [.int _, .int _, .ref _, .int _, .ref _], _)) rfl (u_ rfl) ?_
      refine w34i (pc := 75) (len_s := 3) rfl (hk.1 61 0 8 rfl rfl) (hk.1 60 0 8 rfl rfl) (fun c5_s => ?_)
      replace t_s := t_s c5_s
      exact wrV (pc := 78) (len_s := 1) rfl hk t_s
    · replace t_s := t_s.2 c4_s
      refine w_t (pc := 27) (e_s := (1, 1, 2, 0, 0, .null, [])) (y_s := (28, [some (.ref _), some (.int _), some (.int _), none], [.int _], _)) rfl (u_ rfl) ?_
      refine w_t (pc := 28) (e_s := (3, 1, 0, 0, 0, .null, [])) (y_s := (29, [some (.ref _), some (.int _), some (.int _), none], [.ref _, .int _], _)) rfl (u_ rfl) ?_
      refine w20 (pc := 29) (len_s := 3) rfl ?_
      refine wi1 (pc := 32) (len_s := 3) rfl rfl rfl (fun c6_s => ?_) (fun c6_s => ?_)
      · replace t_s := t_s.1 c6_s
        refine w_t (pc := 35) (e_s := (1, 1, 1, 0, 0, .null, [])) (y_s := (36, [some (.ref _), some (.int _), some (.int _), none], [.int _], _)) rfl (u_ rfl) ?_
        refine w_t (pc := 36) (e_s := (3, 1, 0, 0, 0, .null, [])) (y_s := (37, [some (.ref _), some (.int _), some (.int _), none], [.ref _, .int _], _)) rfl (u_ rfl) ?_
        refine w20 (pc := 37) (len_s := 3) rfl ?_
        refine wi3 (pc := 40) (len_s := 3) rfl rfl rfl (fun c7_s => ?_) (fun c7_s => ?_)
        · replace t_s := t_s.1 c7_s
          refine w_t (pc := 43) (e_s := (0, 1, 0, 0, 0, .int 1, [])) (y_s := (44, [some (.ref _), some (.int _), some (.int _), none], [.int _], _)) rfl (u_ rfl) ?_
          refine w_t (pc := 44) (e_s := (17, 3, 48, 0, 0, .null, [])) (y_s := (48, [some (.ref _), some (.int _), some (.int _), none], [.int _], _)) rfl (u_ rfl) ?_
          refine w_t (pc := 48) (e_s := (4, 1, 3, 0, 0, .null, [])) (y_s := (49, [some (.ref _), some (.int _), some (.int _), some (.int _)], [], _)) rfl (u_ rfl) ?_
          refine w_t (pc := 49) (e_s := (1, 1, 3, 0, 0, .null, [])) (y_s := (50, [some (.ref _), some (.int _), some (.int _), some (.int _)], [.int _], _)) rfl (u_ rfl) ?_
          refine w_t (pc := 50) (e_s := (15, 3, 54, 1, 0, .null, [])) (y_s := (54, [some (.ref _), some (.int _), some (.int _), some (.int _)], [], _)) rfl (u_ rfl) ?_
          refine w_t (pc := 54) (e_s := (3, 1, 0, 0, 0, .null, [])) (y_s := (55, [some (.ref _), some (.int _), some (.int _), some (.int _)], [.ref _], _)) rfl (u_ rfl) ?_
          refine w_t (pc := 55) (e_s := (1, 1, 2, 0, 0, .null, [])) (y_s := (56, [some (.ref _), some (.int _), some (.int _), some (.int _)], [.int _, .ref _], _)) rfl (u_ rfl) ?_
          refine w21 (pc := 56) (len_s := 3) rfl ?_
          refine w_t (pc := 59) (e_s := (3, 1, 0, 0, 0, .null, [])) (y_s := (60, [some (.ref _), some (.int _), some (.int _), some (.int _)], [.ref _], _)) rfl (u_ rfl) ?_
          refine w_t (pc := 60) (e_s := (1, 1, 1, 0, 0, .null, [])) (y_s := (61, [some (.ref _), some (.int _), some (.int _), some (.int _)], [.int _, .ref _], _)) rfl (u_ rfl) ?_
          refine w21 (pc := 61) (len_s := 3) rfl ?_
          refine w_t (pc := 64) (e_s := (3, 1, 0, 0, 0, .null, [])) (y_s := (65, [some (.ref _), some (.int _), some (.int _), some (.int _)], [.ref _], _)) rfl (u_ rfl) ?_
          refine w20r (pc := 65) (len_s := 3) (q_s := 61) rfl (krq hk rfl) ?_
          refine w_t (pc := 68) (e_s := (0, 1, 0, 0, 0, .int 0, [])) (y_s := (69, [some (.ref _), some (.int _), some (.int _), some (.int _)], [.int _, .ref _], _)) rfl (u_ rfl) ?_
          refine w_t (pc := 69) (e_s := (3, 1, 0, 0, 0, .null, [])) (y_s := (70, [some (.ref _), some (.int _), some (.int _), some (.int _)], [.ref _, .int _, .ref _], _)) rfl (u_ rfl) ?_
          refine w20r (pc := 70) (len_s := 3) (q_s := 60) rfl (krq hk rfl) ?_
          refine w_t (pc := 73) (e_s := (0, 1, 0, 0, 0, .int 0, [])) (y_s := (74, [some (.ref _), some (.int _), some (.int _), some (.int _)], [.int _, .ref _, .int _, .ref _], _)) rfl (u_ rfl) ?_
          refine w_t (pc := 74) (e_s := (1, 1, 1, 0, 0, .null, [])) (y_s := (75, [some (.ref _), some (.int _), some (.int _), some (.int _)], [.int _, .int _, .ref _, .int _, .ref _], _)) rfl (u_ rfl) ?_
          refine w34i (pc := 75) (len_s := 3) rfl (hk.1 61 0 8 rfl rfl) (hk.1 60 0 8 rfl rfl) (fun c8_s => ?_)
          replace t_s := t_s c8_s
          exact wrV (pc := 78) (len_s := 1) rfl hk t_s
        · replace t_s := t_s.2 c7_s
          refine w_t (pc := 47) (e_s := (0, 1, 0, 0, 0, .int 0, [])) (y_s := (48, [some (.ref _), some (.int _), some (.int _), none], [.int _], _)) rfl (u_ rfl) ?_
          refine w_t (pc := 48) (e_s := (4, 1, 3, 0, 0, .null, [])) (y_s := (49, [some (.ref _), some (.int _), some (.int _), some (.int _)], [], _)) rfl (u_ rfl) ?_
          refine w_t (pc := 49) (e_s := (1, 1, 3, 0, 0, .null, [])) (y_s := (50, [some (.ref _), some (.int _), some (.int _), some (.int _)], [.int _], _)) rfl (u_ rfl) ?_
          refine w_t (pc := 50) (e_s := (15, 3, 54, 1, 0, .null, [])) (y_s := (53, [some (.ref _), some (.int _), some (.int _), some (.int _)], [], _)) rfl (u_ rfl) ?_
          exact wrV (pc := 53) (len_s := 1) rfl hk t_s
      · replace t_s := t_s.2 c6_s
        refine w_t (pc := 47) (e_s := (0, 1, 0, 0, 0, .int 0, [])) (y_s := (48, [some (.ref _), some (.int _), some (.int _), none], [.int _], _)) rfl (u_ rfl) ?_
        refine w_t (pc := 48) (e_s := (4, 1, 3, 0, 0, .null, [])) (y_s := (49, [some (.ref _), some (.int _), some (.int _), some (.int _)], [], _)) rfl (u_ rfl) ?_
        refine w_t (pc := 49) (e_s := (1, 1, 3, 0, 0, .null, [])) (y_s := (50, [some (.ref _), some (.int _), some (.int _), some (.int _)], [.int _], _)) rfl (u_ rfl) ?_
        refine w_t (pc := 50) (e_s := (15, 3, 54, 1, 0, .null, [])) (y_s := (53, [some (.ref _), some (.int _), some (.int _), some (.int _)], [], _)) rfl (u_ rfl) ?_
        exact wrV (pc := 53) (len_s := 1) rfl hk t_s
/-- ColdShod$WayPlan.follow(LColdShod$Country;IIII)V, from 0 on -/
theorem sg_90_0 {F_s : Nat} {x2_s x3 x4_s x5_s : Int32} {h_s : zH} {K_s : zH → Prop} (hk : hKn h_s) (t_s : (x2_s.toInt = x3.toInt → wF F_s 91 (0, [some (.ref 59), some (.int x5_s), none, none], [], h_s) (gV (fun h2 => hKn h2 → K_s h2))) ∧ (¬ x2_s.toInt = x3.toInt → (((x5_s + 1).toInt < 8 → wF F_s 90 (32, [some (.ref 59), some (.ref 7), some (.int x2_s), some (.int x3), some (.int x4_s), some (.int x5_s), some (.int 0), none, none], [], h_s) (gV K_s)) ∧ (¬ (x5_s + 1).toInt < 8 → K_s h_s)))) : wF (F_s + 1) 90 (0, [some (.ref 59), some (.ref 7), some (.int x2_s), some (.int x3), some (.int x4_s), some (.int x5_s), none, none, none], [], h_s) (gV K_s) := by
  refine w_0 (pc := 0) (e_s := (1, 1, 2, 0, 0, .null, [])) (y_s := (1, [some (.ref _), some (.ref _), some (.int _), some (.int _), some (.int _), some (.int _), none, none, none], [.int _], _)) rfl (u_ rfl) ?_
  refine w_t (pc := 1) (e_s := (1, 1, 3, 0, 0, .null, [])) (y_s := (2, [some (.ref _), some (.ref _), some (.int _), some (.int _), some (.int _), some (.int _), none, none, none], [.int _, .int _], _)) rfl (u_ rfl) ?_
  refine wi1 (pc := 2) (len_s := 3) rfl rfl rfl (fun c1_s => ?_) (fun c1_s => ?_)
  · replace t_s := t_s.1 c1_s
    refine w_t (pc := 5) (e_s := (3, 1, 0, 0, 0, .null, [])) (y_s := (6, [some (.ref _), some (.ref _), some (.int _), some (.int _), some (.int _), some (.int _), none, none, none], [.ref _], _)) rfl (u_ rfl) ?_
    refine w_t (pc := 6) (e_s := (1, 2, 5, 0, 0, .null, [])) (y_s := (8, [some (.ref _), some (.ref _), some (.int _), some (.int _), some (.int _), some (.int _), none, none, none], [.int _, .ref _], _)) rfl (u_ rfl) ?_
    refine wcV (pc := 8) (len_s := 3) rfl rfl (l := [some (.ref _), some (.int _), none, none]) rfl (wmV t_s (fun h2 hk t_s => ?_))
    replace t_s := t_s hk
    refine w_t (pc := 11) (e_s := (1, 1, 2, 0, 0, .null, [])) (y_s := (12, [some (.ref _), some (.ref _), some (.int _), some (.int _), some (.int _), some (.int _), none, none, none], [.int _], _)) rfl (u_ rfl) ?_
    refine w_t (pc := 12) (e_s := (1, 1, 3, 0, 0, .null, [])) (y_s := (13, [some (.ref _), some (.ref _), some (.int _), some (.int _), some (.int _), some (.int _), none, none, none], [.int _, .int _], _)) rfl (u_ rfl) ?_
    refine wi0 (pc := 13) (len_s := 3) rfl rfl rfl (fun c3_s => ?_) (fun c3_s => ?_)
    · skip
      exact wrV (pc := 28) (len_s := 1) rfl hk t_s
    · exact absurd c1_s c3_s
  · replace t_s := t_s.2 c1_s
    refine w_t (pc := 11) (e_s := (1, 1, 2, 0, 0, .null, [])) (y_s := (12, [some (.ref _), some (.ref _), some (.int _), some (.int _), some (.int _), some (.int _), none, none, none], [.int _], _)) rfl (u_ rfl) ?_
    refine w_t (pc := 12) (e_s := (1, 1, 3, 0, 0, .null, [])) (y_s := (13, [some (.ref _), some (.ref _), some (.int _), some (.int _), some (.int _), some (.int _), none, none, none], [.int _, .int _], _)) rfl (u_ rfl) ?_
    refine wi0 (pc := 13) (len_s := 3) rfl rfl rfl (fun c4_s => ?_) (fun c4_s => ?_)
    · exact absurd c4_s c1_s
    · skip
      refine w_t (pc := 16) (e_s := (1, 2, 5, 0, 0, .null, [])) (y_s := (18, [some (.ref _), some (.ref _), some (.int _), some (.int _), some (.int _), some (.int _), none, none, none], [.int _], _)) rfl (u_ rfl) ?_
      refine w_t (pc := 18) (e_s := (0, 1, 0, 0, 0, .int 1, [])) (y_s := (19, [some (.ref _), some (.ref _), some (.int _), some (.int _), some (.int _), some (.int _), none, none, none], [.int _, .int _], _)) rfl (u_ rfl) ?_
      refine w_t (pc := 19) (e_s := (7, 1, 0, 0, 0, .null, [])) (y_s := (20, [some (.ref _), some (.ref _), some (.int _), some (.int _), some (.int _), some (.int _), none, none, none], [.int (_ + _)], _)) rfl (u_ rfl) ?_
      refine w_t (pc := 20) (e_s := (3, 1, 0, 0, 0, .null, [])) (y_s := (21, [some (.ref _), some (.ref _), some (.int _), some (.int _), some (.int _), some (.int _), none, none, none], [.ref _, .int _], _)) rfl (u_ rfl) ?_
      refine w20r (pc := 21) (len_s := 3) (q_s := 62) rfl (krq hk rfl) ?_
      refine w28 (pc := 24) (len_s := 1) rfl (hk.1 62 2 8 rfl rfl) ?_
      refine wi2 (pc := 25) (len_s := 3) (Y := 8) rfl rfl (by decide) (fun c5_s => ?_) (fun c5_s => ?_)
      · replace t_s := t_s.1 c5_s
        refine w_t (pc := 29) (e_s := (0, 1, 0, 0, 0, .int 0, [])) (y_s := (30, [some (.ref _), some (.ref _), some (.int _), some (.int _), some (.int _), some (.int _), none, none, none], [.int _], _)) rfl (u_ rfl) ?_
        refine w_t (pc := 30) (e_s := (4, 2, 6, 0, 0, .null, [])) (y_s := (32, [some (.ref _), some (.ref _), some (.int _), some (.int _), some (.int _), some (.int _), some (.int _), none, none], [], _)) rfl (u_ rfl) ?_
        exact t_s
      · replace t_s := t_s.2 c5_s
        exact wrV (pc := 28) (len_s := 1) rfl hk t_s
/-- ColdShod$WayPlan.follow(LColdShod$Country;IIII)V, from 32 on -/
theorem sg_90_32 {F_s : Nat} {x2_s x3 x4_s x5_s x6 : Int32} {l7 l8 : Option Value} {h_s : zH} {K_s : zH → Prop} (hk : hKn h_s) (t_s : (x6.toInt < (h_s.2.1 7 8).toInt → (zix x6 < 12 → wF F_s 74 (0, [some (.ref (28 + (zix x6))), some (.int x2_s)], [], h_s) (gI (fun v3 h3 => hKn h3 → (v3.toInt < 0 → wF F_s 90 (32, [some (.ref 59), some (.ref 7), some (.int x2_s), some (.int x3), some (.int x4_s), some (.int x5_s), some (.int (x6 + 1)), some (.ref (28 + (zix x6))), some (.int v3)], [], h3) (gV K_s)) ∧ (¬ v3.toInt < 0 → ((((x4_s >>> (v3 &&& 31)) &&& 1).toInt = 0 → (zix (x5_s + 1) < 8 → (zix x5_s < 8 → wF F_s 35 (0, [some (.ref (63 + (zix (x5_s + 1)))), some (.ref (63 + (zix x5_s)))], [], h3) (gV (fun h8 => hKn h8 → wF F_s 24 (0, [some (.ref 7), some (.ref (63 + (zix (x5_s + 1)))), some (.ref (28 + (zix x6))), none, none], [], h8) (gI (fun v10 h10 => hKn h10 → (v10.toInt < (h10.2.1 (28 + (zix x6)) 2).toInt → wF F_s 90 (32, [some (.ref 59), some (.ref 7), some (.int x2_s), some (.int x3), some (.int x4_s), some (.int x5_s), some (.int (x6 + 1)), some (.ref (28 + (zix x6))), some (.int v3)], [], h10) (gV K_s)) ∧ (¬ v10.toInt < (h10.2.1 (28 + (zix x6)) 2).toInt → wF F_s 90 (0, [some (.ref 59), some (.ref 7), some (.int v3), some (.int x3), some (.int (x4_s ||| (1 <<< (v3 &&& 31)))), some (.int (x5_s + 1)), none, none, none], [], (h10.1, zup h10.2.1 61 (zix x5_s) x6, h10.2.2.1, h10.2.2.2)) (gV (fun h13 => hKn h13 → wF F_s 90 (32, [some (.ref 59), some (.ref 7), some (.int x2_s), some (.int x3), some (.int x4_s), some (.int x5_s), some (.int (x6 + 1)), some (.ref (28 + (zix x6))), some (.int v3)], [], h13) (gV K_s))))))))))) ∧ (¬ ((x4_s >>> (v3 &&& 31)) &&& 1).toInt = 0 → wF F_s 90 (32, [some (.ref 59), some (.ref 7), some (.int x2_s), some (.int x3), some (.int x4_s), some (.int x5_s), some (.int (x6 + 1)), some (.ref (28 + (zix x6))), some (.int v3)], [], h3) (gV K_s)))))))) ∧ (¬ x6.toInt < (h_s.2.1 7 8).toInt → K_s h_s)) : wF (F_s + 1) 90 (32, [some (.ref 59), some (.ref 7), some (.int x2_s), some (.int x3), some (.int x4_s), some (.int x5_s), some (.int x6), l7, l8], [], h_s) (gV K_s) := by
  refine w_0 (pc := 32) (e_s := (1, 2, 6, 0, 0, .null, [])) (y_s := (34, [some (.ref _), some (.ref _), some (.int _), some (.int _), some (.int _), some (.int _), some (.int _), _, _], [.int _], _)) rfl (u_ rfl) ?_
  refine w_t (pc := 34) (e_s := (3, 1, 1, 0, 0, .null, [])) (y_s := (35, [some (.ref _), some (.ref _), some (.int _), some (.int _), some (.int _), some (.int _), some (.int _), _, _], [.ref _, .int _], _)) rfl (u_ rfl) ?_
  refine w20 (pc := 35) (len_s := 3) rfl ?_
  refine wi3 (pc := 38) (len_s := 3) rfl rfl rfl (fun c1_s => ?_) (fun c1_s => ?_)
  · replace t_s := t_s.1 c1_s
    refine w_t (pc := 41) (e_s := (3, 1, 1, 0, 0, .null, [])) (y_s := (42, [some (.ref _), some (.ref _), some (.int _), some (.int _), some (.int _), some (.int _), some (.int _), _, _], [.ref _], _)) rfl (u_ rfl) ?_
    refine w20r (pc := 42) (len_s := 3) (q_s := 11) rfl (krq hk rfl) ?_
    refine w_t (pc := 45) (e_s := (1, 2, 6, 0, 0, .null, [])) (y_s := (47, [some (.ref _), some (.ref _), some (.int _), some (.int _), some (.int _), some (.int _), some (.int _), _, _], [.int _, .ref _], _)) rfl (u_ rfl) ?_
    refine w24 (g_s := fun j_ => 28 + j_) (pc := 47) (len_s := 1) hk rfl (hk.1 11 3 12 rfl rfl) kg11 (fun c2_s => ?_)
    replace t_s := t_s c2_s
    refine w_t (pc := 48) (e_s := (6, 2, 7, 0, 0, .null, [])) (y_s := (50, [some (.ref _), some (.ref _), some (.int _), some (.int _), some (.int _), some (.int _), some (.int _), some (.ref _), _], [], _)) rfl (u_ rfl) ?_
    refine w_t (pc := 50) (e_s := (3, 2, 7, 0, 0, .null, [])) (y_s := (52, [some (.ref _), some (.ref _), some (.int _), some (.int _), some (.int _), some (.int _), some (.int _), some (.ref _), _], [.ref _], _)) rfl (u_ rfl) ?_
    refine w_t (pc := 52) (e_s := (1, 1, 2, 0, 0, .null, [])) (y_s := (53, [some (.ref _), some (.ref _), some (.int _), some (.int _), some (.int _), some (.int _), some (.int _), some (.ref _), _], [.int _, .ref _], _)) rfl (u_ rfl) ?_
    refine wcI (pc := 53) (len_s := 3) rfl rfl (l := [some (.ref _), some (.int _)]) rfl (wmI t_s (fun v3 h3 hk t_s => ?_))
    replace t_s := t_s hk
    refine w_t (pc := 56) (e_s := (4, 2, 8, 0, 0, .null, [])) (y_s := (58, [some (.ref _), some (.ref _), some (.int _), some (.int _), some (.int _), some (.int _), some (.int _), some (.ref _), some (.int _)], [], _)) rfl (u_ rfl) ?_
    refine w_t (pc := 58) (e_s := (1, 2, 8, 0, 0, .null, [])) (y_s := (60, [some (.ref _), some (.ref _), some (.int _), some (.int _), some (.int _), some (.int _), some (.int _), some (.ref _), some (.int _)], [.int _], _)) rfl (u_ rfl) ?_
    refine wq2 (pc := 60) (len_s := 3) rfl rfl (fun c4_s => ?_) (fun c4_s => ?_)
    · replace t_s := t_s.1 c4_s
      refine w_t (pc := 149) (e_s := (19, 3, 6, 0, 0, .int 1, [])) (y_s := (152, [some (.ref _), some (.ref _), some (.int _), some (.int _), some (.int _), some (.int _), some (.int _), some (.ref _), some (.int _)], [], _)) rfl (u_ rfl) ?_
      refine w_t (pc := 152) (e_s := (17, 3, 32, 0, 0, .null, [])) (y_s := (32, [some (.ref _), some (.ref _), some (.int _), some (.int _), some (.int _), some (.int _), some (.int _), some (.ref _), some (.int _)], [], _)) rfl (u_ rfl) ?_
      exact t_s
    · replace t_s := t_s.2 c4_s
      refine w_t (pc := 63) (e_s := (1, 2, 4, 0, 0, .null, [])) (y_s := (65, [some (.ref _), some (.ref _), some (.int _), some (.int _), some (.int _), some (.int _), some (.int _), some (.ref _), some (.int _)], [.int _], _)) rfl (u_ rfl) ?_
      refine w_t (pc := 65) (e_s := (1, 2, 8, 0, 0, .null, [])) (y_s := (67, [some (.ref _), some (.ref _), some (.int _), some (.int _), some (.int _), some (.int _), some (.int _), some (.ref _), some (.int _)], [.int _, .int _], _)) rfl (u_ rfl) ?_
      refine w_t (pc := 67) (e_s := (7, 1, 0, 7, 0, .null, [])) (y_s := (68, [some (.ref _), some (.ref _), some (.int _), some (.int _), some (.int _), some (.int _), some (.int _), some (.ref _), some (.int _)], [.int ((_ : Int32) >>> ((_ : Int32) &&& 31))], _)) rfl (u_ rfl) ?_
      refine w_t (pc := 68) (e_s := (0, 1, 0, 0, 0, .int 1, [])) (y_s := (69, [some (.ref _), some (.ref _), some (.int _), some (.int _), some (.int _), some (.int _), some (.int _), some (.ref _), some (.int _)], [.int _, .int _], _)) rfl (u_ rfl) ?_
      refine w_t (pc := 69) (e_s := (7, 1, 0, 3, 0, .null, [])) (y_s := (70, [some (.ref _), some (.ref _), some (.int _), some (.int _), some (.int _), some (.int _), some (.int _), some (.ref _), some (.int _)], [.int (_ &&& _)], _)) rfl (u_ rfl) ?_
      refine wq0 (pc := 70) (len_s := 3) rfl rfl (fun c5_s => ?_) (fun c5_s => ?_)
      · replace t_s := t_s.1 c5_s
        refine w_t (pc := 76) (e_s := (3, 1, 0, 0, 0, .null, [])) (y_s := (77, [some (.ref _), some (.ref _), some (.int _), some (.int _), some (.int _), some (.int _), some (.int _), some (.ref _), some (.int _)], [.ref _], _)) rfl (u_ rfl) ?_
        refine w20r (pc := 77) (len_s := 3) (q_s := 62) rfl (krq hk rfl) ?_
        refine w_t (pc := 80) (e_s := (1, 2, 5, 0, 0, .null, [])) (y_s := (82, [some (.ref _), some (.ref _), some (.int _), some (.int _), some (.int _), some (.int _), some (.int _), some (.ref _), some (.int _)], [.int _, .ref _], _)) rfl (u_ rfl) ?_
        refine w_t (pc := 82) (e_s := (0, 1, 0, 0, 0, .int 1, [])) (y_s := (83, [some (.ref _), some (.ref _), some (.int _), some (.int _), some (.int _), some (.int _), some (.int _), some (.ref _), some (.int _)], [.int _, .int _, .ref _], _)) rfl (u_ rfl) ?_
        refine w_t (pc := 83) (e_s := (7, 1, 0, 0, 0, .null, [])) (y_s := (84, [some (.ref _), some (.ref _), some (.int _), some (.int _), some (.int _), some (.int _), some (.int _), some (.ref _), some (.int _)], [.int (_ + _), .ref _], _)) rfl (u_ rfl) ?_
        refine w24 (g_s := fun j_ => 63 + j_) (pc := 84) (len_s := 1) hk rfl (hk.1 62 2 8 rfl rfl) kg62 (fun c6_s => ?_)
        replace t_s := t_s c6_s
        refine w_t (pc := 85) (e_s := (3, 1, 0, 0, 0, .null, [])) (y_s := (86, [some (.ref _), some (.ref _), some (.int _), some (.int _), some (.int _), some (.int _), some (.int _), some (.ref _), some (.int _)], [.ref _, .ref _], _)) rfl (u_ rfl) ?_
        refine w20r (pc := 86) (len_s := 3) (q_s := 62) rfl (krq hk rfl) ?_
        refine w_t (pc := 89) (e_s := (1, 2, 5, 0, 0, .null, [])) (y_s := (91, [some (.ref _), some (.ref _), some (.int _), some (.int _), some (.int _), some (.int _), some (.int _), some (.ref _), some (.int _)], [.int _, .ref _, .ref _], _)) rfl (u_ rfl) ?_
        refine w24 (g_s := fun j_ => 63 + j_) (pc := 91) (len_s := 1) hk rfl (hk.1 62 2 8 rfl rfl) kg62 (fun c7_s => ?_)
        replace t_s := t_s c7_s
        refine wcV (pc := 92) (len_s := 3) rfl rfl (l := [some (.ref _), some (.ref _)]) rfl (wmV t_s (fun h8 hk t_s => ?_))
        replace t_s := t_s hk
        refine w_t (pc := 95) (e_s := (3, 1, 1, 0, 0, .null, [])) (y_s := (96, [some (.ref _), some (.ref _), some (.int _), some (.int _), some (.int _), some (.int _), some (.int _), some (.ref _), some (.int _)], [.ref _], _)) rfl (u_ rfl) ?_
        refine w_t (pc := 96) (e_s := (3, 1, 0, 0, 0, .null, [])) (y_s := (97, [some (.ref _), some (.ref _), some (.int _), some (.int _), some (.int _), some (.int _), some (.int _), some (.ref _), some (.int _)], [.ref _, .ref _], _)) rfl (u_ rfl) ?_
        refine w20r (pc := 97) (len_s := 3) (q_s := 62) rfl (krq hk rfl) ?_
        refine w_t (pc := 100) (e_s := (1, 2, 5, 0, 0, .null, [])) (y_s := (102, [some (.ref _), some (.ref _), some (.int _), some (.int _), some (.int _), some (.int _), some (.int _), some (.ref _), some (.int _)], [.int _, .ref _, .ref _], _)) rfl (u_ rfl) ?_
        refine w_t (pc := 102) (e_s := (0, 1, 0, 0, 0, .int 1, [])) (y_s := (103, [some (.ref _), some (.ref _), some (.int _), some (.int _), some (.int _), some (.int _), some (.int _), some (.ref _), some (.int _)], [.int _, .int _, .ref _, .ref _], _)) rfl (u_ rfl) ?_
        refine w_t (pc := 103) (e_s := (7, 1, 0, 0, 0, .null, [])) (y_s := (104, [some (.ref _), some (.ref _), some (.int _), some (.int _), some (.int _), some (.int _), some (.int _), some (.ref _), some (.int _)], [.int (_ + _), .ref _, .ref _], _)) rfl (u_ rfl) ?_
        refine w24 (g_s := fun j_ => 63 + j_) (pc := 104) (len_s := 1) hk rfl (hk.1 62 2 8 rfl rfl) kg62 (fun c9_s => ?_)
        refine w_t (pc := 105) (e_s := (3, 2, 7, 0, 0, .null, [])) (y_s := (107, [some (.ref _), some (.ref _), some (.int _), some (.int _), some (.int _), some (.int _), some (.int _), some (.ref _), some (.int _)], [.ref _, .ref _, .ref _], _)) rfl (u_ rfl) ?_
        refine wcI (pc := 107) (len_s := 3) rfl rfl (l := [some (.ref _), some (.ref _), some (.ref _), none, none]) rfl (wmI t_s (fun v10 h10 hk t_s => ?_))
        replace t_s := t_s hk
        refine w_t (pc := 110) (e_s := (3, 2, 7, 0, 0, .null, [])) (y_s := (112, [some (.ref _), some (.ref _), some (.int _), some (.int _), some (.int _), some (.int _), some (.int _), some (.ref _), some (.int _)], [.ref _, .int _], _)) rfl (u_ rfl) ?_
        refine w20 (pc := 112) (len_s := 3) rfl ?_
        refine wi3 (pc := 115) (len_s := 3) rfl rfl rfl (fun c11 => ?_) (fun c11 => ?_)
        · replace t_s := t_s.1 c11
          refine w_t (pc := 118) (e_s := (17, 3, 149, 0, 0, .null, [])) (y_s := (149, [some (.ref _), some (.ref _), some (.int _), some (.int _), some (.int _), some (.int _), some (.int _), some (.ref _), some (.int _)], [], _)) rfl (u_ rfl) ?_
          refine w_t (pc := 149) (e_s := (19, 3, 6, 0, 0, .int 1, [])) (y_s := (152, [some (.ref _), some (.ref _), some (.int _), some (.int _), some (.int _), some (.int _), some (.int _), some (.ref _), some (.int _)], [], _)) rfl (u_ rfl) ?_
          refine w_t (pc := 152) (e_s := (17, 3, 32, 0, 0, .null, [])) (y_s := (32, [some (.ref _), some (.ref _), some (.int _), some (.int _), some (.int _), some (.int _), some (.int _), some (.ref _), some (.int _)], [], _)) rfl (u_ rfl) ?_
          exact t_s
        · replace t_s := t_s.2 c11
          refine w_t (pc := 121) (e_s := (3, 1, 0, 0, 0, .null, [])) (y_s := (122, [some (.ref _), some (.ref _), some (.int _), some (.int _), some (.int _), some (.int _), some (.int _), some (.ref _), some (.int _)], [.ref _], _)) rfl (u_ rfl) ?_
          refine w20r (pc := 122) (len_s := 3) (q_s := 61) rfl (krq hk rfl) ?_
          refine w_t (pc := 125) (e_s := (1, 2, 5, 0, 0, .null, [])) (y_s := (127, [some (.ref _), some (.ref _), some (.int _), some (.int _), some (.int _), some (.int _), some (.int _), some (.ref _), some (.int _)], [.int _, .ref _], _)) rfl (u_ rfl) ?_
          refine w_t (pc := 127) (e_s := (1, 2, 6, 0, 0, .null, [])) (y_s := (129, [some (.ref _), some (.ref _), some (.int _), some (.int _), some (.int _), some (.int _), some (.int _), some (.ref _), some (.int _)], [.int _, .int _, .ref _], _)) rfl (u_ rfl) ?_
          refine w25 (pc := 129) (len_s := 1) rfl (hk.1 61 0 8 rfl rfl) (fun c12_s => ?_)
          refine w_t (pc := 130) (e_s := (3, 1, 0, 0, 0, .null, [])) (y_s := (131, [some (.ref _), some (.ref _), some (.int _), some (.int _), some (.int _), some (.int _), some (.int _), some (.ref _), some (.int _)], [.ref _], _)) rfl (u_ rfl) ?_
          refine w_t (pc := 131) (e_s := (3, 1, 1, 0, 0, .null, [])) (y_s := (132, [some (.ref _), some (.ref _), some (.int _), some (.int _), some (.int _), some (.int _), some (.int _), some (.ref _), some (.int _)], [.ref _, .ref _], _)) rfl (u_ rfl) ?_
          refine w_t (pc := 132) (e_s := (1, 2, 8, 0, 0, .null, [])) (y_s := (134, [some (.ref _), some (.ref _), some (.int _), some (.int _), some (.int _), some (.int _), some (.int _), some (.ref _), some (.int _)], [.int _, .ref _, .ref _], _)) rfl (u_ rfl) ?_
          refine w_t (pc := 134) (e_s := (1, 1, 3, 0, 0, .null, [])) (y_s := (135, [some (.ref _), some (.ref _), some (.int _), some (.int _), some (.int _), some (.int _), some (.int _), some (.ref _), some (.int _)], [.int _, .int _, .ref _, .ref _], _)) rfl (u_ rfl) ?_
          refine w_t (pc := 135) (e_s := (1, 2, 4, 0, 0, .null, [])) (y_s := (137, [some (.ref _), some (.ref _), some (.int _), some (.int _), some (.int _), some (.int _), some (.int _), some (.ref _), some (.int _)], [.int _, .int _, .int _, .ref _, .ref _], _)) rfl (u_ rfl) ?_
          refine w_t (pc := 137) (e_s := (0, 1, 0, 0, 0, .int 1, [])) (y_s := (138, [some (.ref _), some (.ref _), some (.int _), some (.int _), some (.int _), some (.int _), some (.int _), some (.ref _), some (.int _)], [.int _, .int _, .int _, .int _, .ref _, .ref _], _)) rfl (u_ rfl) ?_
          refine w_t (pc := 138) (e_s := (1, 2, 8, 0, 0, .null, [])) (y_s := (140, [some (.ref _), some (.ref _), some (.int _), some (.int _), some (.int _), some (.int _), some (.int _), some (.ref _), some (.int _)], [.int _, .int _, .int _, .int _, .int _, .ref _, .ref _], _)) rfl (u_ rfl) ?_
          refine w_t (pc := 140) (e_s := (7, 1, 0, 6, 0, .null, [])) (y_s := (141, [some (.ref _), some (.ref _), some (.int _), some (.int _), some (.int _), some (.int _), some (.int _), some (.ref _), some (.int _)], [.int ((_ : Int32) <<< ((_ : Int32) &&& 31)), .int _, .int _, .int _, .ref _, .ref _], _)) rfl (u_ rfl) ?_
          refine w_t (pc := 141) (e_s := (7, 1, 0, 4, 0, .null, [])) (y_s := (142, [some (.ref _), some (.ref _), some (.int _), some (.int _), some (.int _), some (.int _), some (.int _), some (.ref _), some (.int _)], [.int (_ ||| _), .int _, .int _, .ref _, .ref _], _)) rfl (u_ rfl) ?_
          refine w_t (pc := 142) (e_s := (1, 2, 5, 0, 0, .null, [])) (y_s := (144, [some (.ref _), some (.ref _), some (.int _), some (.int _), some (.int _), some (.int _), some (.int _), some (.ref _), some (.int _)], [.int _, .int _, .int _, .int _, .ref _, .ref _], _)) rfl (u_ rfl) ?_
          refine w_t (pc := 144) (e_s := (0, 1, 0, 0, 0, .int 1, [])) (y_s := (145, [some (.ref _), some (.ref _), some (.int _), some (.int _), some (.int _), some (.int _), some (.int _), some (.ref _), some (.int _)], [.int _, .int _, .int _, .int _, .int _, .ref _, .ref _], _)) rfl (u_ rfl) ?_
          refine w_t (pc := 145) (e_s := (7, 1, 0, 0, 0, .null, [])) (y_s := (146, [some (.ref _), some (.ref _), some (.int _), some (.int _), some (.int _), some (.int _), some (.int _), some (.ref _), some (.int _)], [.int (_ + _), .int _, .int _, .int _, .ref _, .ref _], _)) rfl (u_ rfl) ?_
          refine wcV (pc := 146) (len_s := 3) rfl rfl (l := [some (.ref _), some (.ref _), some (.int _), some (.int _), some (.int _), some (.int _), none, none, none]) rfl (wmV t_s (fun h13 hk t_s => ?_))
          replace t_s := t_s hk
          refine w_t (pc := 149) (e_s := (19, 3, 6, 0, 0, .int 1, [])) (y_s := (152, [some (.ref _), some (.ref _), some (.int _), some (.int _), some (.int _), some (.int _), some (.int _), some (.ref _), some (.int _)], [], _)) rfl (u_ rfl) ?_
          refine w_t (pc := 152) (e_s := (17, 3, 32, 0, 0, .null, [])) (y_s := (32, [some (.ref _), some (.ref _), some (.int _), some (.int _), some (.int _), some (.int _), some (.int _), some (.ref _), some (.int _)], [], _)) rfl (u_ rfl) ?_
          exact t_s
      · replace t_s := t_s.2 c5_s
        refine w_t (pc := 73) (e_s := (17, 3, 149, 0, 0, .null, [])) (y_s := (149, [some (.ref _), some (.ref _), some (.int _), some (.int _), some (.int _), some (.int _), some (.int _), some (.ref _), some (.int _)], [], _)) rfl (u_ rfl) ?_
        refine w_t (pc := 149) (e_s := (19, 3, 6, 0, 0, .int 1, [])) (y_s := (152, [some (.ref _), some (.ref _), some (.int _), some (.int _), some (.int _), some (.int _), some (.int _), some (.ref _), some (.int _)], [], _)) rfl (u_ rfl) ?_
        refine w_t (pc := 152) (e_s := (17, 3, 32, 0, 0, .null, [])) (y_s := (32, [some (.ref _), some (.ref _), some (.int _), some (.int _), some (.int _), some (.int _), some (.int _), some (.ref _), some (.int _)], [], _)) rfl (u_ rfl) ?_
        exact t_s
  · replace t_s := t_s.2 c1_s
    exact wrV (pc := 155) (len_s := 1) rfl hk t_s
/-- ColdShod$WayPlan.seek(LColdShod$Country;LColdShod$Idea;II)V, from 0 on -/
theorem sg_89_0 {F_s : Nat} {d_s : Nat} {x3 x4_s : Int32} {h_s : zH} {K_s : zH → Prop} (hk : hKn h_s) (t_s : wF F_s 35 (0, [some (.ref 63), some (.ref d_s)], [], (h_s.1, zup h_s.2.1 59 1 (-2), h_s.2.2.1, h_s.2.2.2)) (gV (fun h2 => hKn h2 → wF F_s 90 (0, [some (.ref 59), some (.ref 7), some (.int x3), some (.int x4_s), some (.int (1 <<< (x3 &&& 31))), some (.int 0), none, none, none], [], h2) (gV (fun h3 => hKn h3 → K_s h3))))) : wF (F_s + 1) 89 (0, [some (.ref 59), some (.ref 7), some (.ref d_s), some (.int x3), some (.int x4_s)], [], h_s) (gV K_s) := by
  refine w_0 (pc := 0) (e_s := (3, 1, 0, 0, 0, .null, [])) (y_s := (1, [some (.ref _), some (.ref _), some (.ref _), some (.int _), some (.int _)], [.ref _], _)) rfl (u_ rfl) ?_
  refine w_t (pc := 1) (e_s := (0, 2, 0, 0, 0, .int (-2), [])) (y_s := (3, [some (.ref _), some (.ref _), some (.ref _), some (.int _), some (.int _)], [.int _, .ref _], _)) rfl (u_ rfl) ?_
  refine w21 (pc := 3) (len_s := 3) rfl ?_
  refine w_t (pc := 6) (e_s := (3, 1, 0, 0, 0, .null, [])) (y_s := (7, [some (.ref _), some (.ref _), some (.ref _), some (.int _), some (.int _)], [.ref _], _)) rfl (u_ rfl) ?_
  refine w20r (pc := 7) (len_s := 3) (q_s := 62) rfl (krq hk rfl) ?_
  refine w_t (pc := 10) (e_s := (0, 1, 0, 0, 0, .int 0, [])) (y_s := (11, [some (.ref _), some (.ref _), some (.ref _), some (.int _), some (.int _)], [.int _, .ref _], _)) rfl (u_ rfl) ?_
  refine w24 (g_s := fun j_ => 63 + j_) (pc := 11) (len_s := 1) hk rfl (hk.1 62 2 8 rfl rfl) kg62 (fun c1_s => ?_)
  show wF _ _ (_, _, [.ref 63], _) _
  refine w_t (pc := 12) (e_s := (3, 1, 2, 0, 0, .null, [])) (y_s := (13, [some (.ref _), some (.ref _), some (.ref _), some (.int _), some (.int _)], [.ref _, .ref _], _)) rfl (u_ rfl) ?_
  refine wcV (pc := 13) (len_s := 3) rfl rfl (l := [some (.ref _), some (.ref _)]) rfl (wmV t_s (fun h2 hk t_s => ?_))
  replace t_s := t_s hk
  refine w_t (pc := 16) (e_s := (3, 1, 0, 0, 0, .null, [])) (y_s := (17, [some (.ref _), some (.ref _), some (.ref _), some (.int _), some (.int _)], [.ref _], _)) rfl (u_ rfl) ?_
  refine w_t (pc := 17) (e_s := (3, 1, 1, 0, 0, .null, [])) (y_s := (18, [some (.ref _), some (.ref _), some (.ref _), some (.int _), some (.int _)], [.ref _, .ref _], _)) rfl (u_ rfl) ?_
  refine w_t (pc := 18) (e_s := (1, 1, 3, 0, 0, .null, [])) (y_s := (19, [some (.ref _), some (.ref _), some (.ref _), some (.int _), some (.int _)], [.int _, .ref _, .ref _], _)) rfl (u_ rfl) ?_
  refine w_t (pc := 19) (e_s := (1, 2, 4, 0, 0, .null, [])) (y_s := (21, [some (.ref _), some (.ref _), some (.ref _), some (.int _), some (.int _)], [.int _, .int _, .ref _, .ref _], _)) rfl (u_ rfl) ?_
  refine w_t (pc := 21) (e_s := (0, 1, 0, 0, 0, .int 1, [])) (y_s := (22, [some (.ref _), some (.ref _), some (.ref _), some (.int _), some (.int _)], [.int _, .int _, .int _, .ref _, .ref _], _)) rfl (u_ rfl) ?_
  refine w_t (pc := 22) (e_s := (1, 1, 3, 0, 0, .null, [])) (y_s := (23, [some (.ref _), some (.ref _), some (.ref _), some (.int _), some (.int _)], [.int _, .int _, .int _, .int _, .ref _, .ref _], _)) rfl (u_ rfl) ?_
  refine w_t (pc := 23) (e_s := (7, 1, 0, 6, 0, .null, [])) (y_s := (24, [some (.ref _), some (.ref _), some (.ref _), some (.int _), some (.int _)], [.int ((_ : Int32) <<< ((_ : Int32) &&& 31)), .int _, .int _, .ref _, .ref _], _)) rfl (u_ rfl) ?_
  refine w_t (pc := 24) (e_s := (0, 1, 0, 0, 0, .int 0, [])) (y_s := (25, [some (.ref _), some (.ref _), some (.ref _), some (.int _), some (.int _)], [.int _, .int _, .int _, .int _, .ref _, .ref _], _)) rfl (u_ rfl) ?_
  refine wcV (pc := 25) (len_s := 3) rfl rfl (l := [some (.ref _), some (.ref _), some (.int _), some (.int _), some (.int _), some (.int _), none, none, none]) rfl (wmV t_s (fun h3 hk t_s => ?_))
  replace t_s := t_s hk
  exact wrV (pc := 28) (len_s := 1) rfl hk t_s
/-- ColdShod.way(III)I, from 0 on -/
theorem sg_105_0 {F_s : Nat} {x1_s : Int32} {x2_s : Int32} {x3 : Int32} {h_s : zH} {K_s : Int32 → zH → Prop} (hk : hKn h_s) (t_s : (x1_s.toInt < 0 → K_s (-1) h_s) ∧ (¬ x1_s.toInt < 0 → ((x1_s.toInt < (h_s.2.1 7 7).toInt → ((x2_s.toInt < 0 → K_s (-1) h_s) ∧ (¬ x2_s.toInt < 0 → (((x2_s / 10).toInt < 0 → K_s (-1) h_s) ∧ (¬ (x2_s / 10).toInt < 0 → (((x2_s / 10).toInt < 8 → (((x2_s - x2_s / 10 * 10).toInt < 0 → K_s (-1) h_s) ∧ (¬ (x2_s - x2_s / 10 * 10).toInt < 0 → (((x2_s - x2_s / 10 * 10).toInt < 8 → (((x2_s / 10).toInt = (x2_s - x2_s / 10 * 10).toInt → K_s (-1) h_s) ∧ (¬ (x2_s / 10).toInt = (x2_s - x2_s / 10 * 10).toInt → ((x3.toInt < -2 → K_s (-1) h_s) ∧ (¬ x3.toInt < -2 → (zix x1_s < 8 → wF F_s 89 (0, [some (.ref 59), some (.ref 7), some (.ref (20 + (zix x1_s))), some (.int (x2_s / 10)), some (.int (x2_s - x2_s / 10 * 10))], [], h_s) (gV (fun h11 => hKn h11 → ((h11.2.1 59 1).toInt = -2 → K_s (-2) h11) ∧ (¬ (h11.2.1 59 1).toInt = -2 → ((x3.toInt < (h11.2.1 59 1).toInt → ((x3.toInt = -1 → K_s (h11.2.1 59 2) h11) ∧ (¬ x3.toInt = -1 → ((x3.toInt = -2 → K_s (h11.2.1 59 1) h11) ∧ (¬ x3.toInt = -2 → (zix x3 < 8 → K_s (h11.2.1 60 (zix x3)) h11)))))) ∧ (¬ x3.toInt < (h11.2.1 59 1).toInt → K_s (-2) h11))))))))))) ∧ (¬ (x2_s - x2_s / 10 * 10).toInt < 8 → K_s (-1) h_s))))) ∧ (¬ (x2_s / 10).toInt < 8 → K_s (-1) h_s))))))) ∧ (¬ x1_s.toInt < (h_s.2.1 7 7).toInt → K_s (-1) h_s)))) : wF (F_s + 1) 105 (0, [some (.ref 6), some (.int x1_s), some (.int x2_s), some (.int x3)], [], h_s) (gI K_s) := by
  refine w_0 (pc := 0) (e_s := (3, 1, 0, 0, 0, .null, [])) (y_s := (1, [some (.ref _), some (.int _), some (.int _), some (.int _)], [.ref _], _)) rfl (u_ rfl) ?_
  refine w20r (pc := 1) (len_s := 3) (q_s := 7) rfl (krq hk rfl) ?_
  refine w_t (pc := 4) (e_s := (1, 1, 1, 0, 0, .null, [])) (y_s := (5, [some (.ref _), some (.int _), some (.int _), some (.int _)], [.int _, .ref _], _)) rfl (u_ rfl) ?_
  refine wcI (pc := 5) (len_s := 3) rfl rfl (l := [some (.ref _), some (.int _)]) rfl ?_
  refine w_t (pc := 0) (e_s := (1, 1, 1, 0, 0, .null, [])) (y_s := (1, [some (.ref _), some (.int _)], [.int _], _)) rfl (u_ rfl) ?_
  refine wq2 (pc := 1) (len_s := 3) rfl rfl (fun c1_s => ?_) (fun c1_s => ?_)
  · replace t_s := t_s.1 c1_s
    refine w_t (pc := 16) (e_s := (0, 1, 0, 0, 0, .int 0, [])) (y_s := (17, [some (.ref _), some (.int _)], [.int _], _)) rfl (u_ rfl) ?_
    refine wrI (pc := 17) (len_s := 1) rfl hk ?_
    show wF _ 105 (8, [some (.ref _), some (.int _), some (.int _), some (.int _)], [.int _], _) _
    refine w_t (pc := 8) (e_s := (15, 3, 24, 0, 0, .null, [])) (y_s := (24, [some (.ref _), some (.int _), some (.int _), some (.int _)], [], _)) rfl (u_ rfl) ?_
    refine w_t (pc := 24) (e_s := (0, 1, 0, 0, 0, .int (-1), [])) (y_s := (25, [some (.ref _), some (.int _), some (.int _), some (.int _)], [.int _], _)) rfl (u_ rfl) ?_
    exact wrI (pc := 25) (len_s := 1) rfl hk t_s
  · replace t_s := t_s.2 c1_s
    refine w_t (pc := 4) (e_s := (1, 1, 1, 0, 0, .null, [])) (y_s := (5, [some (.ref _), some (.int _)], [.int _], _)) rfl (u_ rfl) ?_
    refine w_t (pc := 5) (e_s := (3, 1, 0, 0, 0, .null, [])) (y_s := (6, [some (.ref _), some (.int _)], [.ref _, .int _], _)) rfl (u_ rfl) ?_
    refine w20 (pc := 6) (len_s := 3) rfl ?_
    refine wi3 (pc := 9) (len_s := 3) rfl rfl rfl (fun c2_s => ?_) (fun c2_s => ?_)
    · replace t_s := t_s.1 c2_s
      refine w_t (pc := 12) (e_s := (0, 1, 0, 0, 0, .int 1, [])) (y_s := (13, [some (.ref _), some (.int _)], [.int _], _)) rfl (u_ rfl) ?_
      refine w_t (pc := 13) (e_s := (17, 3, 17, 0, 0, .null, [])) (y_s := (17, [some (.ref _), some (.int _)], [.int _], _)) rfl (u_ rfl) ?_
      refine wrI (pc := 17) (len_s := 1) rfl hk ?_
      show wF _ 105 (8, [some (.ref _), some (.int _), some (.int _), some (.int _)], [.int _], _) _
      refine w_t (pc := 8) (e_s := (15, 3, 24, 0, 0, .null, [])) (y_s := (11, [some (.ref _), some (.int _), some (.int _), some (.int _)], [], _)) rfl (u_ rfl) ?_
      refine w_t (pc := 11) (e_s := (1, 1, 2, 0, 0, .null, [])) (y_s := (12, [some (.ref _), some (.int _), some (.int _), some (.int _)], [.int _], _)) rfl (u_ rfl) ?_
      refine wcI (pc := 12) (len_s := 3) rfl rfl (l := [some (.int _)]) rfl ?_
      refine w_t (pc := 0) (e_s := (1, 1, 0, 0, 0, .null, [])) (y_s := (1, [some (.int _)], [.int _], _)) rfl (u_ rfl) ?_
      refine wq2 (pc := 1) (len_s := 3) rfl rfl (fun c3_s => ?_) (fun c3_s => ?_)
      · replace t_s := t_s.1 c3_s
        refine w_t (pc := 41) (e_s := (0, 1, 0, 0, 0, .int 0, [])) (y_s := (42, [some (.int _)], [.int _], _)) rfl (u_ rfl) ?_
        refine wrI (pc := 42) (len_s := 1) rfl hk ?_
        show wF _ 105 (15, [some (.ref _), some (.int _), some (.int _), some (.int _)], [.int _], _) _
        refine w_t (pc := 15) (e_s := (15, 3, 24, 0, 0, .null, [])) (y_s := (24, [some (.ref _), some (.int _), some (.int _), some (.int _)], [], _)) rfl (u_ rfl) ?_
        refine w_t (pc := 24) (e_s := (0, 1, 0, 0, 0, .int (-1), [])) (y_s := (25, [some (.ref _), some (.int _), some (.int _), some (.int _)], [.int _], _)) rfl (u_ rfl) ?_
        exact wrI (pc := 25) (len_s := 1) rfl hk t_s
      · replace t_s := t_s.2 c3_s
        refine w_t (pc := 4) (e_s := (1, 1, 0, 0, 0, .null, [])) (y_s := (5, [some (.int _)], [.int _], _)) rfl (u_ rfl) ?_
        refine w_t (pc := 5) (e_s := (0, 2, 0, 0, 0, .int 10, [])) (y_s := (7, [some (.int _)], [.int _, .int _], _)) rfl (u_ rfl) ?_
        refine w8 (pc := 7) (len_s := 1) rfl ?_
        refine w_t (pc := 8) (e_s := (10, 1, 0, 0, 0, .null, [])) (y_s := (9, [some (.int _)], [.long (Int32.toInt64 _)], _)) rfl (u_ rfl) ?_
        refine wcI (pc := 9) (len_s := 3) rfl rfl (l := [some (.long _), none]) rfl ?_
        refine w_t (pc := 0) (e_s := (2, 1, 0, 0, 0, .null, [])) (y_s := (1, [some (.long _), none], [.long _], _)) rfl (u_ rfl) ?_
        refine w_t (pc := 1) (e_s := (0, 1, 0, 0, 0, .long 0, [])) (y_s := (2, [some (.long _), none], [.long _, .long _], _)) rfl (u_ rfl) ?_
        refine w_t (pc := 2) (e_s := (14, 1, 0, 0, 0, .null, [])) (y_s := (3, [some (.long _), none], [.int (lg_cmp _ _)], _)) rfl (u_ rfl) ?_
        refine wl2 (pc := 3) (len_s := 3) (Y := 0) rfl (Int32.toInt_toInt64 _) (by decide) (fun c4_s => ?_) (fun c4_s => ?_)
        · replace t_s := t_s.1 c4_s
          refine w_t (pc := 18) (e_s := (0, 1, 0, 0, 0, .int 0, [])) (y_s := (19, [some (.long _), none], [.int _], _)) rfl (u_ rfl) ?_
          refine wrI (pc := 19) (len_s := 1) rfl hk ?_
          show wF _ 138 (12, [some (.int _)], [.int _], _) _
          refine w_t (pc := 12) (e_s := (15, 3, 41, 0, 0, .null, [])) (y_s := (41, [some (.int _)], [], _)) rfl (u_ rfl) ?_
          refine w_t (pc := 41) (e_s := (0, 1, 0, 0, 0, .int 0, [])) (y_s := (42, [some (.int _)], [.int _], _)) rfl (u_ rfl) ?_
          refine wrI (pc := 42) (len_s := 1) rfl hk ?_
          show wF _ 105 (15, [some (.ref _), some (.int _), some (.int _), some (.int _)], [.int _], _) _
          refine w_t (pc := 15) (e_s := (15, 3, 24, 0, 0, .null, [])) (y_s := (24, [some (.ref _), some (.int _), some (.int _), some (.int _)], [], _)) rfl (u_ rfl) ?_
          refine w_t (pc := 24) (e_s := (0, 1, 0, 0, 0, .int (-1), [])) (y_s := (25, [some (.ref _), some (.int _), some (.int _), some (.int _)], [.int _], _)) rfl (u_ rfl) ?_
          exact wrI (pc := 25) (len_s := 1) rfl hk t_s
        · replace t_s := t_s.2 c4_s
          refine w_t (pc := 6) (e_s := (2, 1, 0, 0, 0, .null, [])) (y_s := (7, [some (.long _), none], [.long _], _)) rfl (u_ rfl) ?_
          refine w_t (pc := 7) (e_s := (0, 3, 0, 0, 0, .long 8, [(0, 1028)])) (y_s := (10, [some (.long _), none], [.long _, .long _], _)) rfl (u_ rfl) ?_
          refine w_t (pc := 10) (e_s := (14, 1, 0, 0, 0, .null, [])) (y_s := (11, [some (.long _), none], [.int (lg_cmp _ _)], _)) rfl (u_ rfl) ?_
          refine wl3 (pc := 11) (len_s := 3) (Y := 8) rfl (Int32.toInt_toInt64 _) (by decide) (fun c5_s => ?_) (fun c5_s => ?_)
          · replace t_s := t_s.1 c5_s
            refine w_t (pc := 14) (e_s := (0, 1, 0, 0, 0, .int 1, [])) (y_s := (15, [some (.long _), none], [.int _], _)) rfl (u_ rfl) ?_
            refine w_t (pc := 15) (e_s := (17, 3, 19, 0, 0, .null, [])) (y_s := (19, [some (.long _), none], [.int _], _)) rfl (u_ rfl) ?_
            refine wrI (pc := 19) (len_s := 1) rfl hk ?_
            show wF _ 138 (12, [some (.int _)], [.int _], _) _
            refine w_t (pc := 12) (e_s := (15, 3, 41, 0, 0, .null, [])) (y_s := (15, [some (.int _)], [], _)) rfl (u_ rfl) ?_
            refine w_t (pc := 15) (e_s := (1, 1, 0, 0, 0, .null, [])) (y_s := (16, [some (.int _)], [.int _], _)) rfl (u_ rfl) ?_
            refine w_t (pc := 16) (e_s := (0, 2, 0, 0, 0, .int 10, [])) (y_s := (18, [some (.int _)], [.int _, .int _], _)) rfl (u_ rfl) ?_
            refine w8m (pc := 18) (len_s := 1) rfl ?_
            refine w_t (pc := 19) (e_s := (10, 1, 0, 0, 0, .null, [])) (y_s := (20, [some (.int _)], [.long (Int32.toInt64 _)], _)) rfl (u_ rfl) ?_
            refine wcI (pc := 20) (len_s := 3) rfl rfl (l := [some (.long _), none]) rfl ?_
            refine w_t (pc := 0) (e_s := (2, 1, 0, 0, 0, .null, [])) (y_s := (1, [some (.long _), none], [.long _], _)) rfl (u_ rfl) ?_
            refine w_t (pc := 1) (e_s := (0, 1, 0, 0, 0, .long 0, [])) (y_s := (2, [some (.long _), none], [.long _, .long _], _)) rfl (u_ rfl) ?_
            refine w_t (pc := 2) (e_s := (14, 1, 0, 0, 0, .null, [])) (y_s := (3, [some (.long _), none], [.int (lg_cmp _ _)], _)) rfl (u_ rfl) ?_
            refine wl2 (pc := 3) (len_s := 3) (Y := 0) rfl (Int32.toInt_toInt64 _) (by decide) (fun c6_s => ?_) (fun c6_s => ?_)
            · replace t_s := t_s.1 c6_s
              refine w_t (pc := 18) (e_s := (0, 1, 0, 0, 0, .int 0, [])) (y_s := (19, [some (.long _), none], [.int _], _)) rfl (u_ rfl) ?_
              refine wrI (pc := 19) (len_s := 1) rfl hk ?_
              show wF _ 138 (23, [some (.int _)], [.int _], _) _
              refine w_t (pc := 23) (e_s := (15, 3, 41, 0, 0, .null, [])) (y_s := (41, [some (.int _)], [], _)) rfl (u_ rfl) ?_
              refine w_t (pc := 41) (e_s := (0, 1, 0, 0, 0, .int 0, [])) (y_s := (42, [some (.int _)], [.int _], _)) rfl (u_ rfl) ?_
              refine wrI (pc := 42) (len_s := 1) rfl hk ?_
              show wF _ 105 (15, [some (.ref _), some (.int _), some (.int _), some (.int _)], [.int _], _) _
              refine w_t (pc := 15) (e_s := (15, 3, 24, 0, 0, .null, [])) (y_s := (24, [some (.ref _), some (.int _), some (.int _), some (.int _)], [], _)) rfl (u_ rfl) ?_
              refine w_t (pc := 24) (e_s := (0, 1, 0, 0, 0, .int (-1), [])) (y_s := (25, [some (.ref _), some (.int _), some (.int _), some (.int _)], [.int _], _)) rfl (u_ rfl) ?_
              exact wrI (pc := 25) (len_s := 1) rfl hk t_s
            · replace t_s := t_s.2 c6_s
              refine w_t (pc := 6) (e_s := (2, 1, 0, 0, 0, .null, [])) (y_s := (7, [some (.long _), none], [.long _], _)) rfl (u_ rfl) ?_
              refine w_t (pc := 7) (e_s := (0, 3, 0, 0, 0, .long 8, [(0, 1028)])) (y_s := (10, [some (.long _), none], [.long _, .long _], _)) rfl (u_ rfl) ?_
              refine w_t (pc := 10) (e_s := (14, 1, 0, 0, 0, .null, [])) (y_s := (11, [some (.long _), none], [.int (lg_cmp _ _)], _)) rfl (u_ rfl) ?_
              refine wl3 (pc := 11) (len_s := 3) (Y := 8) rfl (Int32.toInt_toInt64 _) (by decide) (fun c7_s => ?_) (fun c7_s => ?_)
              · replace t_s := t_s.1 c7_s
                refine w_t (pc := 14) (e_s := (0, 1, 0, 0, 0, .int 1, [])) (y_s := (15, [some (.long _), none], [.int _], _)) rfl (u_ rfl) ?_
                refine w_t (pc := 15) (e_s := (17, 3, 19, 0, 0, .null, [])) (y_s := (19, [some (.long _), none], [.int _], _)) rfl (u_ rfl) ?_
                refine wrI (pc := 19) (len_s := 1) rfl hk ?_
                show wF _ 138 (23, [some (.int _)], [.int _], _) _
                refine w_t (pc := 23) (e_s := (15, 3, 41, 0, 0, .null, [])) (y_s := (26, [some (.int _)], [], _)) rfl (u_ rfl) ?_
                refine w_t (pc := 26) (e_s := (1, 1, 0, 0, 0, .null, [])) (y_s := (27, [some (.int _)], [.int _], _)) rfl (u_ rfl) ?_
                refine w_t (pc := 27) (e_s := (0, 2, 0, 0, 0, .int 10, [])) (y_s := (29, [some (.int _)], [.int _, .int _], _)) rfl (u_ rfl) ?_
                refine w8 (pc := 29) (len_s := 1) rfl ?_
                refine w_t (pc := 30) (e_s := (1, 1, 0, 0, 0, .null, [])) (y_s := (31, [some (.int _)], [.int _, .int _], _)) rfl (u_ rfl) ?_
                refine w_t (pc := 31) (e_s := (0, 2, 0, 0, 0, .int 10, [])) (y_s := (33, [some (.int _)], [.int _, .int _, .int _], _)) rfl (u_ rfl) ?_
                refine w8m (pc := 33) (len_s := 1) rfl ?_
                refine wi0 (pc := 34) (len_s := 3) rfl rfl rfl (fun c8_s => ?_) (fun c8_s => ?_)
                · replace t_s := t_s.1 c8_s
                  refine w_t (pc := 41) (e_s := (0, 1, 0, 0, 0, .int 0, [])) (y_s := (42, [some (.int _)], [.int _], _)) rfl (u_ rfl) ?_
                  refine wrI (pc := 42) (len_s := 1) rfl hk ?_
                  show wF _ 105 (15, [some (.ref _), some (.int _), some (.int _), some (.int _)], [.int _], _) _
                  refine w_t (pc := 15) (e_s := (15, 3, 24, 0, 0, .null, [])) (y_s := (24, [some (.ref _), some (.int _), some (.int _), some (.int _)], [], _)) rfl (u_ rfl) ?_
                  refine w_t (pc := 24) (e_s := (0, 1, 0, 0, 0, .int (-1), [])) (y_s := (25, [some (.ref _), some (.int _), some (.int _), some (.int _)], [.int _], _)) rfl (u_ rfl) ?_
                  exact wrI (pc := 25) (len_s := 1) rfl hk t_s
                · replace t_s := t_s.2 c8_s
                  refine w_t (pc := 37) (e_s := (0, 1, 0, 0, 0, .int 1, [])) (y_s := (38, [some (.int _)], [.int _], _)) rfl (u_ rfl) ?_
                  refine w_t (pc := 38) (e_s := (17, 3, 42, 0, 0, .null, [])) (y_s := (42, [some (.int _)], [.int _], _)) rfl (u_ rfl) ?_
                  refine wrI (pc := 42) (len_s := 1) rfl hk ?_
                  show wF _ 105 (15, [some (.ref _), some (.int _), some (.int _), some (.int _)], [.int _], _) _
                  refine w_t (pc := 15) (e_s := (15, 3, 24, 0, 0, .null, [])) (y_s := (18, [some (.ref _), some (.int _), some (.int _), some (.int _)], [], _)) rfl (u_ rfl) ?_
                  refine w_t (pc := 18) (e_s := (1, 1, 3, 0, 0, .null, [])) (y_s := (19, [some (.ref _), some (.int _), some (.int _), some (.int _)], [.int _], _)) rfl (u_ rfl) ?_
                  refine w_t (pc := 19) (e_s := (0, 2, 0, 0, 0, .int (-2), [])) (y_s := (21, [some (.ref _), some (.int _), some (.int _), some (.int _)], [.int _, .int _], _)) rfl (u_ rfl) ?_
                  refine wi3 (pc := 21) (len_s := 3) (Y := -2) rfl rfl (by decide) (fun c9_s => ?_) (fun c9_s => ?_)
                  · replace t_s := t_s.1 c9_s
                    refine w_t (pc := 24) (e_s := (0, 1, 0, 0, 0, .int (-1), [])) (y_s := (25, [some (.ref _), some (.int _), some (.int _), some (.int _)], [.int _], _)) rfl (u_ rfl) ?_
                    exact wrI (pc := 25) (len_s := 1) rfl hk t_s
                  · replace t_s := t_s.2 c9_s
                    refine w_t (pc := 26) (e_s := (3, 1, 0, 0, 0, .null, [])) (y_s := (27, [some (.ref _), some (.int _), some (.int _), some (.int _)], [.ref _], _)) rfl (u_ rfl) ?_
                    refine w20r (pc := 27) (len_s := 3) (q_s := 59) rfl (krq hk rfl) ?_
                    refine w_t (pc := 30) (e_s := (3, 1, 0, 0, 0, .null, [])) (y_s := (31, [some (.ref _), some (.int _), some (.int _), some (.int _)], [.ref _, .ref _], _)) rfl (u_ rfl) ?_
                    refine w20r (pc := 31) (len_s := 3) (q_s := 7) rfl (krq hk rfl) ?_
                    refine w_t (pc := 34) (e_s := (3, 1, 0, 0, 0, .null, [])) (y_s := (35, [some (.ref _), some (.int _), some (.int _), some (.int _)], [.ref _, .ref _, .ref _], _)) rfl (u_ rfl) ?_
                    refine w20r (pc := 35) (len_s := 3) (q_s := 7) rfl (krq hk rfl) ?_
                    refine w20r (pc := 38) (len_s := 3) (q_s := 10) rfl (krq hk rfl) ?_
                    refine w_t (pc := 41) (e_s := (1, 1, 1, 0, 0, .null, [])) (y_s := (42, [some (.ref _), some (.int _), some (.int _), some (.int _)], [.int _, .ref _, .ref _, .ref _], _)) rfl (u_ rfl) ?_
                    refine w24 (g_s := fun j_ => 20 + j_) (pc := 42) (len_s := 1) hk rfl (hk.1 10 2 8 rfl rfl) kg10 (fun c10_s => ?_)
                    replace t_s := t_s c10_s
                    refine w_t (pc := 43) (e_s := (1, 1, 2, 0, 0, .null, [])) (y_s := (44, [some (.ref _), some (.int _), some (.int _), some (.int _)], [.int _, .ref _, .ref _, .ref _], _)) rfl (u_ rfl) ?_
                    refine w_t (pc := 44) (e_s := (0, 2, 0, 0, 0, .int 10, [])) (y_s := (46, [some (.ref _), some (.int _), some (.int _), some (.int _)], [.int _, .int _, .ref _, .ref _, .ref _], _)) rfl (u_ rfl) ?_
                    refine w8 (pc := 46) (len_s := 1) rfl ?_
                    refine w_t (pc := 47) (e_s := (1, 1, 2, 0, 0, .null, [])) (y_s := (48, [some (.ref _), some (.int _), some (.int _), some (.int _)], [.int _, .int _, .ref _, .ref _, .ref _], _)) rfl (u_ rfl) ?_
                    refine w_t (pc := 48) (e_s := (0, 2, 0, 0, 0, .int 10, [])) (y_s := (50, [some (.ref _), some (.int _), some (.int _), some (.int _)], [.int _, .int _, .int _, .ref _, .ref _, .ref _], _)) rfl (u_ rfl) ?_
                    refine w8m (pc := 50) (len_s := 1) rfl ?_
                    refine wcV (pc := 51) (len_s := 3) rfl rfl (l := [some (.ref _), some (.ref _), some (.ref _), some (.int _), some (.int _)]) rfl (wmV t_s (fun h11 hk t_s => ?_))
                    replace t_s := t_s hk
                    refine w_t (pc := 54) (e_s := (3, 1, 0, 0, 0, .null, [])) (y_s := (55, [some (.ref _), some (.int _), some (.int _), some (.int _)], [.ref _], _)) rfl (u_ rfl) ?_
                    refine w20r (pc := 55) (len_s := 3) (q_s := 59) rfl (krq hk rfl) ?_
                    refine w20 (pc := 58) (len_s := 3) rfl ?_
                    refine w_t (pc := 61) (e_s := (0, 2, 0, 0, 0, .int (-2), [])) (y_s := (63, [some (.ref _), some (.int _), some (.int _), some (.int _)], [.int _, .int _], _)) rfl (u_ rfl) ?_
                    refine wi0 (pc := 63) (len_s := 3) (Y := -2) rfl rfl (by decide) (fun c12_s => ?_) (fun c12_s => ?_)
                    · replace t_s := t_s.1 c12_s
                      refine w_t (pc := 77) (e_s := (0, 2, 0, 0, 0, .int (-2), [])) (y_s := (79, [some (.ref _), some (.int _), some (.int _), some (.int _)], [.int _], _)) rfl (u_ rfl) ?_
                      exact wrI (pc := 79) (len_s := 1) rfl hk t_s
                    · replace t_s := t_s.2 c12_s
                      refine w_t (pc := 66) (e_s := (1, 1, 3, 0, 0, .null, [])) (y_s := (67, [some (.ref _), some (.int _), some (.int _), some (.int _)], [.int _], _)) rfl (u_ rfl) ?_
                      refine w_t (pc := 67) (e_s := (3, 1, 0, 0, 0, .null, [])) (y_s := (68, [some (.ref _), some (.int _), some (.int _), some (.int _)], [.ref _, .int _], _)) rfl (u_ rfl) ?_
                      refine w20r (pc := 68) (len_s := 3) (q_s := 59) rfl (krq hk rfl) ?_
                      refine w20 (pc := 71) (len_s := 3) rfl ?_
                      refine wi2 (pc := 74) (len_s := 3) rfl rfl rfl (fun c13_s => ?_) (fun c13_s => ?_)
                      · replace t_s := t_s.1 c13_s
                        refine w_t (pc := 80) (e_s := (1, 1, 3, 0, 0, .null, [])) (y_s := (81, [some (.ref _), some (.int _), some (.int _), some (.int _)], [.int _], _)) rfl (u_ rfl) ?_
                        refine w_t (pc := 81) (e_s := (0, 1, 0, 0, 0, .int (-1), [])) (y_s := (82, [some (.ref _), some (.int _), some (.int _), some (.int _)], [.int _, .int _], _)) rfl (u_ rfl) ?_
                        refine wi1 (pc := 82) (len_s := 3) (Y := -1) rfl rfl (by decide) (fun c14_s => ?_) (fun c14_s => ?_)
                        · replace t_s := t_s.1 c14_s
                          refine w_t (pc := 85) (e_s := (3, 1, 0, 0, 0, .null, [])) (y_s := (86, [some (.ref _), some (.int _), some (.int _), some (.int _)], [.ref _], _)) rfl (u_ rfl) ?_
                          refine w20r (pc := 86) (len_s := 3) (q_s := 59) rfl (krq hk rfl) ?_
                          refine w20 (pc := 89) (len_s := 3) rfl ?_
                          exact wrI (pc := 92) (len_s := 1) rfl hk t_s
                        · replace t_s := t_s.2 c14_s
                          refine w_t (pc := 93) (e_s := (1, 1, 3, 0, 0, .null, [])) (y_s := (94, [some (.ref _), some (.int _), some (.int _), some (.int _)], [.int _], _)) rfl (u_ rfl) ?_
                          refine w_t (pc := 94) (e_s := (0, 2, 0, 0, 0, .int (-2), [])) (y_s := (96, [some (.ref _), some (.int _), some (.int _), some (.int _)], [.int _, .int _], _)) rfl (u_ rfl) ?_
                          refine wi1 (pc := 96) (len_s := 3) (Y := -2) rfl rfl (by decide) (fun c15_s => ?_) (fun c15_s => ?_)
                          · replace t_s := t_s.1 c15_s
                            refine w_t (pc := 99) (e_s := (3, 1, 0, 0, 0, .null, [])) (y_s := (100, [some (.ref _), some (.int _), some (.int _), some (.int _)], [.ref _], _)) rfl (u_ rfl) ?_
                            refine w20r (pc := 100) (len_s := 3) (q_s := 59) rfl (krq hk rfl) ?_
                            refine w20 (pc := 103) (len_s := 3) rfl ?_
                            refine w_t (pc := 106) (e_s := (17, 3, 118, 0, 0, .null, [])) (y_s := (118, [some (.ref _), some (.int _), some (.int _), some (.int _)], [.int _], _)) rfl (u_ rfl) ?_
                            exact wrI (pc := 118) (len_s := 1) rfl hk t_s
                          · replace t_s := t_s.2 c15_s
                            refine w_t (pc := 109) (e_s := (3, 1, 0, 0, 0, .null, [])) (y_s := (110, [some (.ref _), some (.int _), some (.int _), some (.int _)], [.ref _], _)) rfl (u_ rfl) ?_
                            refine w20r (pc := 110) (len_s := 3) (q_s := 59) rfl (krq hk rfl) ?_
                            refine w20r (pc := 113) (len_s := 3) (q_s := 60) rfl (krq hk rfl) ?_
                            refine w_t (pc := 116) (e_s := (1, 1, 3, 0, 0, .null, [])) (y_s := (117, [some (.ref _), some (.int _), some (.int _), some (.int _)], [.int _, .ref _], _)) rfl (u_ rfl) ?_
                            refine w22 (pc := 117) (len_s := 1) rfl (hk.1 60 0 8 rfl rfl) (fun c16 => ?_)
                            replace t_s := t_s c16
                            exact wrI (pc := 118) (len_s := 1) rfl hk t_s
                      · replace t_s := t_s.2 c13_s
                        refine w_t (pc := 77) (e_s := (0, 2, 0, 0, 0, .int (-2), [])) (y_s := (79, [some (.ref _), some (.int _), some (.int _), some (.int _)], [.int _], _)) rfl (u_ rfl) ?_
                        exact wrI (pc := 79) (len_s := 1) rfl hk t_s
              · replace t_s := t_s.2 c7_s
                refine w_t (pc := 18) (e_s := (0, 1, 0, 0, 0, .int 0, [])) (y_s := (19, [some (.long _), none], [.int _], _)) rfl (u_ rfl) ?_
                refine wrI (pc := 19) (len_s := 1) rfl hk ?_
                show wF _ 138 (23, [some (.int _)], [.int _], _) _
                refine w_t (pc := 23) (e_s := (15, 3, 41, 0, 0, .null, [])) (y_s := (41, [some (.int _)], [], _)) rfl (u_ rfl) ?_
                refine w_t (pc := 41) (e_s := (0, 1, 0, 0, 0, .int 0, [])) (y_s := (42, [some (.int _)], [.int _], _)) rfl (u_ rfl) ?_
                refine wrI (pc := 42) (len_s := 1) rfl hk ?_
                show wF _ 105 (15, [some (.ref _), some (.int _), some (.int _), some (.int _)], [.int _], _) _
                refine w_t (pc := 15) (e_s := (15, 3, 24, 0, 0, .null, [])) (y_s := (24, [some (.ref _), some (.int _), some (.int _), some (.int _)], [], _)) rfl (u_ rfl) ?_
                refine w_t (pc := 24) (e_s := (0, 1, 0, 0, 0, .int (-1), [])) (y_s := (25, [some (.ref _), some (.int _), some (.int _), some (.int _)], [.int _], _)) rfl (u_ rfl) ?_
                exact wrI (pc := 25) (len_s := 1) rfl hk t_s
          · replace t_s := t_s.2 c5_s
            refine w_t (pc := 18) (e_s := (0, 1, 0, 0, 0, .int 0, [])) (y_s := (19, [some (.long _), none], [.int _], _)) rfl (u_ rfl) ?_
            refine wrI (pc := 19) (len_s := 1) rfl hk ?_
            show wF _ 138 (12, [some (.int _)], [.int _], _) _
            refine w_t (pc := 12) (e_s := (15, 3, 41, 0, 0, .null, [])) (y_s := (41, [some (.int _)], [], _)) rfl (u_ rfl) ?_
            refine w_t (pc := 41) (e_s := (0, 1, 0, 0, 0, .int 0, [])) (y_s := (42, [some (.int _)], [.int _], _)) rfl (u_ rfl) ?_
            refine wrI (pc := 42) (len_s := 1) rfl hk ?_
            show wF _ 105 (15, [some (.ref _), some (.int _), some (.int _), some (.int _)], [.int _], _) _
            refine w_t (pc := 15) (e_s := (15, 3, 24, 0, 0, .null, [])) (y_s := (24, [some (.ref _), some (.int _), some (.int _), some (.int _)], [], _)) rfl (u_ rfl) ?_
            refine w_t (pc := 24) (e_s := (0, 1, 0, 0, 0, .int (-1), [])) (y_s := (25, [some (.ref _), some (.int _), some (.int _), some (.int _)], [.int _], _)) rfl (u_ rfl) ?_
            exact wrI (pc := 25) (len_s := 1) rfl hk t_s
    · replace t_s := t_s.2 c2_s
      refine w_t (pc := 16) (e_s := (0, 1, 0, 0, 0, .int 0, [])) (y_s := (17, [some (.ref _), some (.int _)], [.int _], _)) rfl (u_ rfl) ?_
      refine wrI (pc := 17) (len_s := 1) rfl hk ?_
      show wF _ 105 (8, [some (.ref _), some (.int _), some (.int _), some (.int _)], [.int _], _) _
      refine w_t (pc := 8) (e_s := (15, 3, 24, 0, 0, .null, [])) (y_s := (24, [some (.ref _), some (.int _), some (.int _), some (.int _)], [], _)) rfl (u_ rfl) ?_
      refine w_t (pc := 24) (e_s := (0, 1, 0, 0, 0, .int (-1), [])) (y_s := (25, [some (.ref _), some (.int _), some (.int _), some (.int _)], [.int _], _)) rfl (u_ rfl) ?_
      exact wrI (pc := 25) (len_s := 1) rfl hk t_s
/-- ColdShod.image()I, from 0 on -/
theorem sg_121_0 {F_s : Nat}  {h_s : zH} {K_s : Int32 → zH → Prop} (hk : hKn h_s) (t_s : wF F_s 121 (2, [some (.ref 6), some (.int 0)], [], h_s) (gI K_s)) : wF (F_s + 1) 121 (0, [some (.ref 6), none], [], h_s) (gI K_s) := by
  refine w_0 (pc := 0) (e_s := (0, 1, 0, 0, 0, .int 0, [])) (y_s := (1, [some (.ref _), none], [.int _], _)) rfl (u_ rfl) ?_
  refine w_t (pc := 1) (e_s := (4, 1, 1, 0, 0, .null, [])) (y_s := (2, [some (.ref _), some (.int _)], [], _)) rfl (u_ rfl) ?_
  exact t_s
/-- ColdShod.image()I, from 2 on -/
theorem sg_121_2 {F_s : Nat} {x1_s : Int32} {h_s : zH} {K_s : Int32 → zH → Prop} (hk : hKn h_s) (t_s : (x1_s.toInt < (h_s.2.1 7 7).toInt → (zix x1_s < 8 → wF F_s 35 (0, [some (.ref (94 + (zix x1_s))), some (.ref (20 + (zix x1_s)))], [], h_s) (gV (fun h4 => hKn h4 → wF F_s 121 (2, [some (.ref 6), some (.int (x1_s + 1))], [], h4) (gI K_s))))) ∧ (¬ x1_s.toInt < (h_s.2.1 7 7).toInt → (0 + 5 ≤ 5 ∧ 0 + 5 ≤ 5 → K_s (h_s.2.1 73 3) (h_s.1, zup (zrow h_s.2.1 75 (zcpy (h_s.2.1 73) (h_s.2.1 75) 0 0 5)) 6 12 (h_s.2.1 7 7), h_s.2.2.1, h_s.2.2.2)))) : wF (F_s + 1) 121 (2, [some (.ref 6), some (.int x1_s)], [], h_s) (gI K_s) := by
  refine w_0 (pc := 2) (e_s := (1, 1, 1, 0, 0, .null, [])) (y_s := (3, [some (.ref _), some (.int _)], [.int _], _)) rfl (u_ rfl) ?_
  refine w_t (pc := 3) (e_s := (3, 1, 0, 0, 0, .null, [])) (y_s := (4, [some (.ref _), some (.int _)], [.ref _, .int _], _)) rfl (u_ rfl) ?_
  refine w20r (pc := 4) (len_s := 3) (q_s := 7) rfl (krq hk rfl) ?_
  refine w20 (pc := 7) (len_s := 3) rfl ?_
  refine wi3 (pc := 10) (len_s := 3) rfl rfl rfl (fun c1_s => ?_) (fun c1_s => ?_)
  · replace t_s := t_s.1 c1_s
    refine w_t (pc := 13) (e_s := (3, 1, 0, 0, 0, .null, [])) (y_s := (14, [some (.ref _), some (.int _)], [.ref _], _)) rfl (u_ rfl) ?_
    refine w20r (pc := 14) (len_s := 3) (q_s := 74) rfl (krq hk rfl) ?_
    refine w_t (pc := 17) (e_s := (1, 1, 1, 0, 0, .null, [])) (y_s := (18, [some (.ref _), some (.int _)], [.int _, .ref _], _)) rfl (u_ rfl) ?_
    refine w24 (g_s := fun j_ => 94 + j_) (pc := 18) (len_s := 1) hk rfl (hk.1 74 2 8 rfl rfl) kg74 (fun c2_s => ?_)
    replace t_s := t_s c2_s
    refine w_t (pc := 19) (e_s := (3, 1, 0, 0, 0, .null, [])) (y_s := (20, [some (.ref _), some (.int _)], [.ref _, .ref _], _)) rfl (u_ rfl) ?_
    refine w20r (pc := 20) (len_s := 3) (q_s := 7) rfl (krq hk rfl) ?_
    refine w20r (pc := 23) (len_s := 3) (q_s := 10) rfl (krq hk rfl) ?_
    refine w_t (pc := 26) (e_s := (1, 1, 1, 0, 0, .null, [])) (y_s := (27, [some (.ref _), some (.int _)], [.int _, .ref _, .ref _], _)) rfl (u_ rfl) ?_
    refine w24 (g_s := fun j_ => 20 + j_) (pc := 27) (len_s := 1) hk rfl (hk.1 10 2 8 rfl rfl) kg10 (fun c3_s => ?_)
    refine wcV (pc := 28) (len_s := 3) rfl rfl (l := [some (.ref _), some (.ref _)]) rfl (wmV t_s (fun h4 hk t_s => ?_))
    replace t_s := t_s hk
    refine w_t (pc := 31) (e_s := (19, 3, 1, 0, 0, .int 1, [])) (y_s := (34, [some (.ref _), some (.int _)], [], _)) rfl (u_ rfl) ?_
    refine w_t (pc := 34) (e_s := (17, 3, 2, 0, 0, .null, [])) (y_s := (2, [some (.ref _), some (.int _)], [], _)) rfl (u_ rfl) ?_
    exact t_s
  · replace t_s := t_s.2 c1_s
    refine w_t (pc := 37) (e_s := (3, 1, 0, 0, 0, .null, [])) (y_s := (38, [some (.ref _), some (.int _)], [.ref _], _)) rfl (u_ rfl) ?_
    refine w20r (pc := 38) (len_s := 3) (q_s := 73) rfl (krq hk rfl) ?_
    refine w_t (pc := 41) (e_s := (0, 1, 0, 0, 0, .int 0, [])) (y_s := (42, [some (.ref _), some (.int _)], [.int _, .ref _], _)) rfl (u_ rfl) ?_
    refine w_t (pc := 42) (e_s := (3, 1, 0, 0, 0, .null, [])) (y_s := (43, [some (.ref _), some (.int _)], [.ref _, .int _, .ref _], _)) rfl (u_ rfl) ?_
    refine w20r (pc := 43) (len_s := 3) (q_s := 75) rfl (krq hk rfl) ?_
    refine w_t (pc := 46) (e_s := (0, 1, 0, 0, 0, .int 0, [])) (y_s := (47, [some (.ref _), some (.int _)], [.int _, .ref _, .int _, .ref _], _)) rfl (u_ rfl) ?_
    refine w_t (pc := 47) (e_s := (0, 1, 0, 0, 0, .int 5, [])) (y_s := (48, [some (.ref _), some (.int _)], [.int _, .int _, .ref _, .int _, .ref _], _)) rfl (u_ rfl) ?_
    refine w34i (pc := 48) (len_s := 3) rfl (hk.1 73 0 5 rfl rfl) (hk.1 75 0 5 rfl rfl) (fun c5_s => ?_)
    replace t_s := t_s c5_s
    refine w_t (pc := 51) (e_s := (3, 1, 0, 0, 0, .null, [])) (y_s := (52, [some (.ref _), some (.int _)], [.ref _], _)) rfl (u_ rfl) ?_
    refine w_t (pc := 52) (e_s := (3, 1, 0, 0, 0, .null, [])) (y_s := (53, [some (.ref _), some (.int _)], [.ref _, .ref _], _)) rfl (u_ rfl) ?_
    refine w20r (pc := 53) (len_s := 3) (q_s := 7) rfl (krq hk rfl) ?_
    refine w20 (pc := 56) (len_s := 3) rfl ?_
    refine w21 (pc := 59) (len_s := 3) rfl ?_
    refine w_t (pc := 62) (e_s := (3, 1, 0, 0, 0, .null, [])) (y_s := (63, [some (.ref _), some (.int _)], [.ref _], _)) rfl (u_ rfl) ?_
    refine w20r (pc := 63) (len_s := 3) (q_s := 73) rfl (krq hk rfl) ?_
    refine w_t (pc := 66) (e_s := (0, 1, 0, 0, 0, .int 3, [])) (y_s := (67, [some (.ref _), some (.int _)], [.int _, .ref _], _)) rfl (u_ rfl) ?_
    refine w22 (pc := 67) (len_s := 1) rfl (hk.1 73 0 5 rfl rfl) (fun c6_s => ?_)
    exact wrI (pc := 68) (len_s := 1) rfl hk t_s
/-- ColdShod.back()I, from 0 on -/
theorem sg_122_0 {F_s : Nat}  {h_s : zH} {K_s : Int32 → zH → Prop} (hk : hKn h_s) (t_s : ((h_s.2.1 6 12).toInt = -1 → K_s (-5) h_s) ∧ (¬ (h_s.2.1 6 12).toInt = -1 → wF F_s 122 (13, [some (.ref 6), some (.int 0)], [], h_s) (gI K_s))) : wF (F_s + 1) 122 (0, [some (.ref 6), none], [], h_s) (gI K_s) := by
  refine w_0 (pc := 0) (e_s := (3, 1, 0, 0, 0, .null, [])) (y_s := (1, [some (.ref _), none], [.ref _], _)) rfl (u_ rfl) ?_
  refine w20 (pc := 1) (len_s := 3) rfl ?_
  refine w_t (pc := 4) (e_s := (0, 1, 0, 0, 0, .int (-1), [])) (y_s := (5, [some (.ref _), none], [.int _, .int _], _)) rfl (u_ rfl) ?_
  refine wi1 (pc := 5) (len_s := 3) (Y := -1) rfl rfl (by decide) (fun c1_s => ?_) (fun c1_s => ?_)
  · replace t_s := t_s.1 c1_s
    refine w_t (pc := 8) (e_s := (0, 2, 0, 0, 0, .int (-5), [])) (y_s := (10, [some (.ref _), none], [.int _], _)) rfl (u_ rfl) ?_
    exact wrI (pc := 10) (len_s := 1) rfl hk t_s
  · replace t_s := t_s.2 c1_s
    refine w_t (pc := 11) (e_s := (0, 1, 0, 0, 0, .int 0, [])) (y_s := (12, [some (.ref _), none], [.int _], _)) rfl (u_ rfl) ?_
    refine w_t (pc := 12) (e_s := (4, 1, 1, 0, 0, .null, [])) (y_s := (13, [some (.ref _), some (.int _)], [], _)) rfl (u_ rfl) ?_
    exact t_s
/-- ColdShod.back()I, from 13 on -/
theorem sg_122_13 {F_s : Nat} {x1_s : Int32} {h_s : zH} {K_s : Int32 → zH → Prop} (hk : hKn h_s) (t_s : (x1_s.toInt < (h_s.2.1 6 12).toInt → (zix x1_s < 8 → wF F_s 36 (0, [some (.ref (20 + (zix x1_s))), some (.ref (94 + (zix x1_s)))], [], h_s) (gV (fun h4 => hKn h4 → wF F_s 122 (13, [some (.ref 6), some (.int (x1_s + 1))], [], h4) (gI K_s))))) ∧ (¬ x1_s.toInt < (h_s.2.1 6 12).toInt → (0 + 5 ≤ 5 ∧ 0 + 5 ≤ 5 → K_s ((zrow h_s.2.1 73 (zcpy (h_s.2.1 75) (h_s.2.1 73) 0 0 5)) 73 3) (h_s.1, zrow h_s.2.1 73 (zcpy (h_s.2.1 75) (h_s.2.1 73) 0 0 5), h_s.2.2.1, h_s.2.2.2)))) : wF (F_s + 1) 122 (13, [some (.ref 6), some (.int x1_s)], [], h_s) (gI K_s) := by
  refine w_0 (pc := 13) (e_s := (1, 1, 1, 0, 0, .null, [])) (y_s := (14, [some (.ref _), some (.int _)], [.int _], _)) rfl (u_ rfl) ?_
  refine w_t (pc := 14) (e_s := (3, 1, 0, 0, 0, .null, [])) (y_s := (15, [some (.ref _), some (.int _)], [.ref _, .int _], _)) rfl (u_ rfl) ?_
  refine w20 (pc := 15) (len_s := 3) rfl ?_
  refine wi3 (pc := 18) (len_s := 3) rfl rfl rfl (fun c1_s => ?_) (fun c1_s => ?_)
  · replace t_s := t_s.1 c1_s
    refine w_t (pc := 21) (e_s := (3, 1, 0, 0, 0, .null, [])) (y_s := (22, [some (.ref _), some (.int _)], [.ref _], _)) rfl (u_ rfl) ?_
    refine w20r (pc := 22) (len_s := 3) (q_s := 7) rfl (krq hk rfl) ?_
    refine w20r (pc := 25) (len_s := 3) (q_s := 10) rfl (krq hk rfl) ?_
    refine w_t (pc := 28) (e_s := (1, 1, 1, 0, 0, .null, [])) (y_s := (29, [some (.ref _), some (.int _)], [.int _, .ref _], _)) rfl (u_ rfl) ?_
    refine w24 (g_s := fun j_ => 20 + j_) (pc := 29) (len_s := 1) hk rfl (hk.1 10 2 8 rfl rfl) kg10 (fun c2_s => ?_)
    replace t_s := t_s c2_s
    refine w_t (pc := 30) (e_s := (3, 1, 0, 0, 0, .null, [])) (y_s := (31, [some (.ref _), some (.int _)], [.ref _, .ref _], _)) rfl (u_ rfl) ?_
    refine w20r (pc := 31) (len_s := 3) (q_s := 74) rfl (krq hk rfl) ?_
    refine w_t (pc := 34) (e_s := (1, 1, 1, 0, 0, .null, [])) (y_s := (35, [some (.ref _), some (.int _)], [.int _, .ref _, .ref _], _)) rfl (u_ rfl) ?_
    refine w24 (g_s := fun j_ => 94 + j_) (pc := 35) (len_s := 1) hk rfl (hk.1 74 2 8 rfl rfl) kg74 (fun c3_s => ?_)
    refine wcV (pc := 36) (len_s := 3) rfl rfl (l := [some (.ref _), some (.ref _)]) rfl (wmV t_s (fun h4 hk t_s => ?_))
    replace t_s := t_s hk
    refine w_t (pc := 39) (e_s := (19, 3, 1, 0, 0, .int 1, [])) (y_s := (42, [some (.ref _), some (.int _)], [], _)) rfl (u_ rfl) ?_
    refine w_t (pc := 42) (e_s := (17, 3, 13, 0, 0, .null, [])) (y_s := (13, [some (.ref _), some (.int _)], [], _)) rfl (u_ rfl) ?_
    exact t_s
  · replace t_s := t_s.2 c1_s
    refine w_t (pc := 45) (e_s := (3, 1, 0, 0, 0, .null, [])) (y_s := (46, [some (.ref _), some (.int _)], [.ref _], _)) rfl (u_ rfl) ?_
    refine w20r (pc := 46) (len_s := 3) (q_s := 75) rfl (krq hk rfl) ?_
    refine w_t (pc := 49) (e_s := (0, 1, 0, 0, 0, .int 0, [])) (y_s := (50, [some (.ref _), some (.int _)], [.int _, .ref _], _)) rfl (u_ rfl) ?_
    refine w_t (pc := 50) (e_s := (3, 1, 0, 0, 0, .null, [])) (y_s := (51, [some (.ref _), some (.int _)], [.ref _, .int _, .ref _], _)) rfl (u_ rfl) ?_
    refine w20r (pc := 51) (len_s := 3) (q_s := 73) rfl (krq hk rfl) ?_
    refine w_t (pc := 54) (e_s := (0, 1, 0, 0, 0, .int 0, [])) (y_s := (55, [some (.ref _), some (.int _)], [.int _, .ref _, .int _, .ref _], _)) rfl (u_ rfl) ?_
    refine w_t (pc := 55) (e_s := (0, 1, 0, 0, 0, .int 5, [])) (y_s := (56, [some (.ref _), some (.int _)], [.int _, .int _, .ref _, .int _, .ref _], _)) rfl (u_ rfl) ?_
    refine w34i (pc := 56) (len_s := 3) rfl (hk.1 75 0 5 rfl rfl) (hk.1 73 0 5 rfl rfl) (fun c5_s => ?_)
    replace t_s := t_s c5_s
    refine w_t (pc := 59) (e_s := (3, 1, 0, 0, 0, .null, [])) (y_s := (60, [some (.ref _), some (.int _)], [.ref _], _)) rfl (u_ rfl) ?_
    refine w20r (pc := 60) (len_s := 3) (q_s := 73) rfl (krq hk rfl) ?_
    refine w_t (pc := 63) (e_s := (0, 1, 0, 0, 0, .int 3, [])) (y_s := (64, [some (.ref _), some (.int _)], [.int _, .ref _], _)) rfl (u_ rfl) ?_
    refine w22 (pc := 64) (len_s := 1) rfl (hk.1 73 0 5 rfl rfl) (fun c6_s => ?_)
    exact wrI (pc := 65) (len_s := 1) rfl hk t_s
/-! LONGS that are kept by the calls that copy rows of ints. -/
section KJ
variable {F_s : Nat} {h_s : zH} {g_s : Nat → Nat → Int64} {x1_s x2_s x3 x4_s x5_s x6 : Int32} {l7 l8 : Option Value} {d_s : Nat}
theorem kj_10 (hk : hKn h_s) (hg : h_s.2.2.1 = g_s) : wF F_s 10 (0, [some (.ref 42)], [], h_s) (gV (fun h1 => h1.2.2.1 = g_s)) := wF_le (Nat.le_succ F_s) (sg_10_0 hk (fun _ _ _ _ => hg))
theorem kj_9 (hk : hKn h_s) (hg : h_s.2.2.1 = g_s) : wF F_s 9 (0, [some (.ref 42), some (.int x1_s), some (.int x2_s), some (.int x3), some (.int x4_s)], [], h_s) (gV (fun h1 => h1.2.2.1 = g_s)) := wF_le (Nat.le_succ F_s) (sg_9_0 hk ⟨fun _ _ => hg, fun _ => wmV (kj_10 (h_s := (h_s.1, zup h_s.2.1 42 1 0, h_s.2.2.1, h_s.2.2.2)) hk hg) (fun _ _ e6_s _ _ => e6_s)⟩)
theorem kj_98 (hk : hKn h_s) (hg : h_s.2.2.1 = g_s) : wF F_s 98 (0, [some (.ref 6), some (.int x1_s), some (.int x2_s), some (.int x3), none], [], h_s) (gI (fun _ h1 => h1.2.2.1 = g_s)) :=
  wF_le (Nat.le_succ F_s) (sg_98_0 hk (wmI (wPI hk rfl rfl rfl) (fun _ h1 k1_s e1_s _ => ⟨fun _ => e1_s.trans hg, fun _ => wmI (wPI k1_s rfl rfl rfl) (fun _ h3 k3_s e3_s _ => ⟨fun _ => (e3_s.trans e1_s).trans hg, fun _ => wmI (wPI k3_s rfl rfl rfl) (fun _ h5 k5_s e5_s _ => ⟨fun _ => ((e5_s.trans e3_s).trans e1_s).trans hg, fun _ => wmV (wPV k5_s rfl rfl rfl) (fun h7 k7_s e7_s _ => wmV (kj_9 k7_s ((((e7_s.trans e5_s).trans e3_s).trans e1_s).trans hg)) (fun _ _ e8 _ => e8))⟩)⟩)⟩)))
theorem kj_91 (hk : hKn h_s) (hg : h_s.2.2.1 = g_s) : wF F_s 91 (0, [some (.ref 59), some (.int x1_s), none, none], [], h_s) (gV (fun h1 => h1.2.2.1 = g_s)) := by
  refine wF_le (Nat.le_succ F_s) (sg_91_0 hk fun c1_s => ⟨fun c2_s => fun c3_s => ?_, fun c2_s => ⟨fun c4_s => fun c5_s => ?_, fun c4_s => ⟨fun c6_s => ⟨fun c7_s => fun c8_s => ?_, fun c7_s => ?_⟩, fun c6_s => ?_⟩⟩⟩)
  all_goals exact hg
theorem kj_90 : ∀ F_s, (∀ (h_s : zH) (x2_s x3 x4_s x5_s : Int32), hKn h_s → h_s.2.2.1 = g_s → wF F_s 90 (0, [some (.ref 59), some (.ref 7), some (.int x2_s), some (.int x3), some (.int x4_s), some (.int x5_s), none, none, none], [], h_s) (gV (fun h1 => h1.2.2.1 = g_s))) ∧ (∀ (h_s : zH) (x2_s x3 x4_s x5_s x6 : Int32) (l7 l8 : Option Value), hKn h_s → h_s.2.2.1 = g_s → wF F_s 90 (32, [some (.ref 59), some (.ref 7), some (.int x2_s), some (.int x3), some (.int x4_s), some (.int x5_s), some (.int x6), l7, l8], [], h_s) (gV (fun h1 => h1.2.2.1 = g_s)))
  | 0 => ⟨fun _ _ _ _ _ _ _ => wF_zero, fun _ _ _ _ _ _ _ _ _ _ => wF_zero⟩
  | F_s + 1 => by
    obtain ⟨i0_s, i32⟩ := kj_90 F_s
    refine ⟨fun h_s x2_s x3 x4_s x5_s hk hg => sg_90_0 hk ⟨fun _ => wmV (kj_91 hk hg) (fun _ _ e_s _ => e_s), fun _ => ⟨fun _ => i32 h_s x2_s x3 x4_s x5_s 0 none none hk hg, fun _ => hg⟩⟩, fun h_s x2_s x3 x4_s x5_s x6 l7 l8 hk hg => sg_90_32 hk ⟨fun _ _ => wmI (wPI hk rfl rfl rfl) (fun v3 h3 k3_s e3_s _ => ?_), fun _ => hg⟩⟩
    have g3_s := e3_s.trans hg
    refine ⟨fun _ => i32 h3 _ _ _ _ _ _ _ k3_s g3_s, fun _ => ⟨fun _ _ _ => wmV (wPV k3_s rfl rfl rfl) (fun h8 k8_s e8 _ => wmI (wPI k8_s rfl rfl rfl) (fun v10 h10 k10 e10_s _ => ?_)), fun _ => i32 h3 _ _ _ _ _ _ _ k3_s g3_s⟩⟩
    have g10 := (e10_s.trans e8).trans g3_s
    exact ⟨fun _ => i32 h10 _ _ _ _ _ _ _ k10 g10, fun _ => wmV (i0_s (h10.1, zup h10.2.1 61 (zix x5_s) x6, h10.2.2.1, h10.2.2.2) _ _ _ _ k10 g10) (fun h13 k13 e13_s _ => i32 h13 _ _ _ _ _ _ _ k13 e13_s)⟩
theorem kj_89 (hk : hKn h_s) (hg : h_s.2.2.1 = g_s) : wF F_s 89 (0, [some (.ref 59), some (.ref 7), some (.ref d_s), some (.int x3), some (.int x4_s)], [], h_s) (gV (fun h1 => h1.2.2.1 = g_s)) := by
  refine wF_le (Nat.le_succ F_s) (sg_89_0 hk (wmV (wPV (h_s := (h_s.1, zup h_s.2.1 59 1 (-2), h_s.2.2.1, h_s.2.2.2)) hk rfl rfl rfl) (fun h2 k2_s e2_s _ => ?_)))
  exact wmV ((kj_90 F_s).1 h2 _ _ _ _ k2_s (e2_s.trans hg)) (fun _ _ e_s _ => e_s)
theorem kj_105 (hk : hKn h_s) (hg : h_s.2.2.1 = g_s) : wF F_s 105 (0, [some (.ref 6), some (.int x1_s), some (.int x2_s), some (.int x3)], [], h_s) (gI (fun _ h1 => h1.2.2.1 = g_s)) := by
  refine wF_le (Nat.le_succ F_s) (sg_105_0 hk ⟨fun c1_s => ?_, fun c1_s => ⟨fun c2_s => ⟨fun c3_s => ?_, fun c3_s => ⟨fun c4_s => ?_, fun c4_s => ⟨fun c5_s => ⟨fun c6_s => ?_, fun c6_s => ⟨fun c7_s => ⟨fun c8_s => ?_, fun c8_s => ⟨fun c9_s => ?_, fun c9_s => fun c10_s => ?_⟩⟩, fun c7_s => ?_⟩⟩, fun c5_s => ?_⟩⟩⟩, fun c2_s => ?_⟩⟩)
  all_goals first
    | exact hg
    | exact wmV (kj_89 hk hg) (fun h11 k11 e11_s _ => ⟨fun _ => e11_s, fun _ => ⟨fun _ => ⟨fun _ => e11_s, fun _ => ⟨fun _ => e11_s, fun _ => fun _ => e11_s⟩⟩, fun _ => e11_s⟩⟩)
theorem kj_121l : ∀ (F_s : Nat) (h_s : zH) (x1_s : Int32), hKn h_s → h_s.2.2.1 = g_s → wF F_s 121 (2, [some (.ref 6), some (.int x1_s)], [], h_s) (gI (fun _ h1 => h1.2.2.1 = g_s))
  | 0, _, _, _, _ => wF_zero
  | F_s + 1, h_s, x1_s, hk, hg => sg_121_2 hk ⟨fun _ _ => wmV (wPV hk rfl rfl rfl) (fun h4 k4_s e4_s _ => kj_121l F_s h4 _ k4_s (e4_s.trans hg)), fun _ _ => hg⟩
theorem kj_121 (hk : hKn h_s) (hg : h_s.2.2.1 = g_s) : wF F_s 121 (0, [some (.ref 6), none], [], h_s) (gI (fun _ h1 => h1.2.2.1 = g_s)) := wF_le (Nat.le_succ F_s) (sg_121_0 hk (kj_121l F_s h_s 0 hk hg))
theorem kj_122l : ∀ (F_s : Nat) (h_s : zH) (x1_s : Int32), hKn h_s → h_s.2.2.1 = g_s → wF F_s 122 (13, [some (.ref 6), some (.int x1_s)], [], h_s) (gI (fun _ h1 => h1.2.2.1 = g_s))
  | 0, _, _, _, _ => wF_zero
  | F_s + 1, h_s, x1_s, hk, hg => sg_122_13 hk ⟨fun _ _ => wmV (wPV hk rfl rfl rfl) (fun h4 k4_s e4_s _ => kj_122l F_s h4 _ k4_s (e4_s.trans hg)), fun _ _ => hg⟩
theorem kj_122 (hk : hKn h_s) (hg : h_s.2.2.1 = g_s) : wF F_s 122 (0, [some (.ref 6), none], [], h_s) (gI (fun _ h1 => h1.2.2.1 = g_s)) := wF_le (Nat.le_succ F_s) (sg_122_0 hk ⟨fun _ => hg, fun _ => kj_122l F_s h_s 0 hk hg⟩)
end KJ
/-! SHELVES, where longs are known to be kept. -/
noncomputable def tSok2 (W_s : aW) : Bool := (!aWf W_s 47 1 && !aWf W_s 102 39) && (List.range 6).all (fun d_s => (!aWf W_s 124 d_s && !aWf W_s 125 d_s) && (!aWf W_s (76 + 2 * d_s) 0 && (!aWf W_s (76 + 2 * d_s) 2 && !aWf W_s (76 + 2 * d_s) 3)))
theorem tS_fr2 {W_s : aW} (hw : tSok2 W_s = true) {h_s h1 : zH} (fr_s : aFr (aWf W_s) h_s h1) (e3_s : h1.2.2.1 = h_s.2.2.1) (hs : tS h_s) : tS h1 := by
  unfold tSok2 at hw
  rw [Bool.and_eq_true, Bool.and_eq_true, Bool.not_eq_true', Bool.not_eq_true'] at hw
  obtain ⟨⟨w2_s, w3_s⟩, w4_s⟩ := hw
  have e1_s := fr_s.1 47 1 w2_s
  have e2_s := fr_s.1 102 39 w3_s
  refine ⟨fun d_s hd_s => ?_, ?_, ?_, ?_⟩
  · have c_s := List.all_eq_true.mp w4_s d_s (List.mem_range.mpr hd_s)
    rw [Bool.and_eq_true, Bool.and_eq_true, Bool.and_eq_true, Bool.and_eq_true, Bool.not_eq_true', Bool.not_eq_true', Bool.not_eq_true', Bool.not_eq_true', Bool.not_eq_true'] at c_s
    obtain ⟨⟨c1_s, c2_s⟩, c3_s, c4_s, c5_s⟩ := c_s
    have q_s := hs.1 d_s hd_s
    refine ⟨?_, fun k_s hk => ?_⟩
    · have q1_s := q_s.1
      unfold tS1 at q1_s ⊢
      rw [fr_s.1 _ _ c1_s, fr_s.1 _ _ c2_s, fr_s.1 _ _ c3_s, fr_s.1 _ _ c4_s, fr_s.1 _ _ c5_s]
      exact q1_s
    · rw [e3_s]
      exact q_s.2 k_s hk
  · rw [e1_s, e2_s]
    exact hs.2.1
  · rw [e1_s]
    exact hs.2.2.1
  · rw [e1_s]
    exact hs.2.2.2
/-! What ended runs of the methods that lay roads give: printed by a program (wip/fun/sg.py). -/
/-- ColdShod.road(II)I, from 0 on -/
theorem sg_95_0 {F_s : Nat} {x1_s : Int32} {x2_s : Int32} {h_s : zH} {K_s : Int32 → zH → Prop} (hk : hKn h_s) (t_s : (x1_s.toInt < 0 → K_s (-1) h_s) ∧ (¬ x1_s.toInt < 0 → (((x1_s / 10).toInt < 0 → K_s (-1) h_s) ∧ (¬ (x1_s / 10).toInt < 0 → (((x1_s / 10).toInt < 8 → (((x1_s - x1_s / 10 * 10).toInt < 0 → K_s (-1) h_s) ∧ (¬ (x1_s - x1_s / 10 * 10).toInt < 0 → (((x1_s - x1_s / 10 * 10).toInt < 8 → (((x1_s / 10).toInt = (x1_s - x1_s / 10 * 10).toInt → K_s (-1) h_s) ∧ (¬ (x1_s / 10).toInt = (x1_s - x1_s / 10 * 10).toInt → ((x2_s.toInt < 1 → K_s (-1) h_s) ∧ (¬ x2_s.toInt < 1 → ((9 < x2_s.toInt → K_s (-1) h_s) ∧ (¬ 9 < x2_s.toInt → (((h_s.2.1 7 8).toInt < 12 → (zix (h_s.2.1 7 8) < 12 → K_s ((zup (zup (zup h_s.2.1 (28 + (zix (h_s.2.1 7 8))) 0 (x1_s / 10)) (28 + (zix (h_s.2.1 7 8))) 1 (x1_s - x1_s / 10 * 10)) (28 + (zix (h_s.2.1 7 8))) 2 x2_s) 7 8) (h_s.1, zup (zup (zup (zup h_s.2.1 (28 + (zix (h_s.2.1 7 8))) 0 (x1_s / 10)) (28 + (zix (h_s.2.1 7 8))) 1 (x1_s - x1_s / 10 * 10)) (28 + (zix (h_s.2.1 7 8))) 2 x2_s) 7 8 (((zup (zup (zup h_s.2.1 (28 + (zix (h_s.2.1 7 8))) 0 (x1_s / 10)) (28 + (zix (h_s.2.1 7 8))) 1 (x1_s - x1_s / 10 * 10)) (28 + (zix (h_s.2.1 7 8))) 2 x2_s) 7 8) + 1), h_s.2.2.1, h_s.2.2.2))) ∧ (¬ (h_s.2.1 7 8).toInt < 12 → K_s (-3) h_s))))))))) ∧ (¬ (x1_s - x1_s / 10 * 10).toInt < 8 → K_s (-1) h_s))))) ∧ (¬ (x1_s / 10).toInt < 8 → K_s (-1) h_s)))))) : wF (F_s + 1) 95 (0, [some (.ref 6), some (.int x1_s), some (.int x2_s)], [], h_s) (gI K_s) := by
  refine w_0 (pc := 0) (e_s := (1, 1, 1, 0, 0, .null, [])) (y_s := (1, [some (.ref _), some (.int _), some (.int _)], [.int _], _)) rfl (u_ rfl) ?_
  refine wcI (pc := 1) (len_s := 3) rfl rfl (l := [some (.int _)]) rfl ?_
  refine w_t (pc := 0) (e_s := (1, 1, 0, 0, 0, .null, [])) (y_s := (1, [some (.int _)], [.int _], _)) rfl (u_ rfl) ?_
  refine wq2 (pc := 1) (len_s := 3) rfl rfl (fun c1_s => ?_) (fun c1_s => ?_)
  · replace t_s := t_s.1 c1_s
    refine w_t (pc := 41) (e_s := (0, 1, 0, 0, 0, .int 0, [])) (y_s := (42, [some (.int _)], [.int _], _)) rfl (u_ rfl) ?_
    refine wrI (pc := 42) (len_s := 1) rfl hk ?_
    show wF _ 95 (4, [some (.ref _), some (.int _), some (.int _)], [.int _], _) _
    refine w_t (pc := 4) (e_s := (15, 3, 18, 0, 0, .null, [])) (y_s := (18, [some (.ref _), some (.int _), some (.int _)], [], _)) rfl (u_ rfl) ?_
    refine w_t (pc := 18) (e_s := (0, 1, 0, 0, 0, .int (-1), [])) (y_s := (19, [some (.ref _), some (.int _), some (.int _)], [.int _], _)) rfl (u_ rfl) ?_
    exact wrI (pc := 19) (len_s := 1) rfl hk t_s
  · replace t_s := t_s.2 c1_s
    refine w_t (pc := 4) (e_s := (1, 1, 0, 0, 0, .null, [])) (y_s := (5, [some (.int _)], [.int _], _)) rfl (u_ rfl) ?_
    refine w_t (pc := 5) (e_s := (0, 2, 0, 0, 0, .int 10, [])) (y_s := (7, [some (.int _)], [.int _, .int _], _)) rfl (u_ rfl) ?_
    refine w8 (pc := 7) (len_s := 1) rfl ?_
    refine w_t (pc := 8) (e_s := (10, 1, 0, 0, 0, .null, [])) (y_s := (9, [some (.int _)], [.long (Int32.toInt64 _)], _)) rfl (u_ rfl) ?_
    refine wcI (pc := 9) (len_s := 3) rfl rfl (l := [some (.long _), none]) rfl ?_
    refine w_t (pc := 0) (e_s := (2, 1, 0, 0, 0, .null, [])) (y_s := (1, [some (.long _), none], [.long _], _)) rfl (u_ rfl) ?_
    refine w_t (pc := 1) (e_s := (0, 1, 0, 0, 0, .long 0, [])) (y_s := (2, [some (.long _), none], [.long _, .long _], _)) rfl (u_ rfl) ?_
    refine w_t (pc := 2) (e_s := (14, 1, 0, 0, 0, .null, [])) (y_s := (3, [some (.long _), none], [.int (lg_cmp _ _)], _)) rfl (u_ rfl) ?_
    refine wl2 (pc := 3) (len_s := 3) (Y := 0) rfl (Int32.toInt_toInt64 _) (by decide) (fun c2_s => ?_) (fun c2_s => ?_)
    · replace t_s := t_s.1 c2_s
      refine w_t (pc := 18) (e_s := (0, 1, 0, 0, 0, .int 0, [])) (y_s := (19, [some (.long _), none], [.int _], _)) rfl (u_ rfl) ?_
      refine wrI (pc := 19) (len_s := 1) rfl hk ?_
      show wF _ 138 (12, [some (.int _)], [.int _], _) _
      refine w_t (pc := 12) (e_s := (15, 3, 41, 0, 0, .null, [])) (y_s := (41, [some (.int _)], [], _)) rfl (u_ rfl) ?_
      refine w_t (pc := 41) (e_s := (0, 1, 0, 0, 0, .int 0, [])) (y_s := (42, [some (.int _)], [.int _], _)) rfl (u_ rfl) ?_
      refine wrI (pc := 42) (len_s := 1) rfl hk ?_
      show wF _ 95 (4, [some (.ref _), some (.int _), some (.int _)], [.int _], _) _
      refine w_t (pc := 4) (e_s := (15, 3, 18, 0, 0, .null, [])) (y_s := (18, [some (.ref _), some (.int _), some (.int _)], [], _)) rfl (u_ rfl) ?_
      refine w_t (pc := 18) (e_s := (0, 1, 0, 0, 0, .int (-1), [])) (y_s := (19, [some (.ref _), some (.int _), some (.int _)], [.int _], _)) rfl (u_ rfl) ?_
      exact wrI (pc := 19) (len_s := 1) rfl hk t_s
    · replace t_s := t_s.2 c2_s
      refine w_t (pc := 6) (e_s := (2, 1, 0, 0, 0, .null, [])) (y_s := (7, [some (.long _), none], [.long _], _)) rfl (u_ rfl) ?_
      refine w_t (pc := 7) (e_s := (0, 3, 0, 0, 0, .long 8, [(0, 1028)])) (y_s := (10, [some (.long _), none], [.long _, .long _], _)) rfl (u_ rfl) ?_
      refine w_t (pc := 10) (e_s := (14, 1, 0, 0, 0, .null, [])) (y_s := (11, [some (.long _), none], [.int (lg_cmp _ _)], _)) rfl (u_ rfl) ?_
      refine wl3 (pc := 11) (len_s := 3) (Y := 8) rfl (Int32.toInt_toInt64 _) (by decide) (fun c3_s => ?_) (fun c3_s => ?_)
      · replace t_s := t_s.1 c3_s
        refine w_t (pc := 14) (e_s := (0, 1, 0, 0, 0, .int 1, [])) (y_s := (15, [some (.long _), none], [.int _], _)) rfl (u_ rfl) ?_
        refine w_t (pc := 15) (e_s := (17, 3, 19, 0, 0, .null, [])) (y_s := (19, [some (.long _), none], [.int _], _)) rfl (u_ rfl) ?_
        refine wrI (pc := 19) (len_s := 1) rfl hk ?_
        show wF _ 138 (12, [some (.int _)], [.int _], _) _
        refine w_t (pc := 12) (e_s := (15, 3, 41, 0, 0, .null, [])) (y_s := (15, [some (.int _)], [], _)) rfl (u_ rfl) ?_
        refine w_t (pc := 15) (e_s := (1, 1, 0, 0, 0, .null, [])) (y_s := (16, [some (.int _)], [.int _], _)) rfl (u_ rfl) ?_
        refine w_t (pc := 16) (e_s := (0, 2, 0, 0, 0, .int 10, [])) (y_s := (18, [some (.int _)], [.int _, .int _], _)) rfl (u_ rfl) ?_
        refine w8m (pc := 18) (len_s := 1) rfl ?_
        refine w_t (pc := 19) (e_s := (10, 1, 0, 0, 0, .null, [])) (y_s := (20, [some (.int _)], [.long (Int32.toInt64 _)], _)) rfl (u_ rfl) ?_
        refine wcI (pc := 20) (len_s := 3) rfl rfl (l := [some (.long _), none]) rfl ?_
        refine w_t (pc := 0) (e_s := (2, 1, 0, 0, 0, .null, [])) (y_s := (1, [some (.long _), none], [.long _], _)) rfl (u_ rfl) ?_
        refine w_t (pc := 1) (e_s := (0, 1, 0, 0, 0, .long 0, [])) (y_s := (2, [some (.long _), none], [.long _, .long _], _)) rfl (u_ rfl) ?_
        refine w_t (pc := 2) (e_s := (14, 1, 0, 0, 0, .null, [])) (y_s := (3, [some (.long _), none], [.int (lg_cmp _ _)], _)) rfl (u_ rfl) ?_
        refine wl2 (pc := 3) (len_s := 3) (Y := 0) rfl (Int32.toInt_toInt64 _) (by decide) (fun c4_s => ?_) (fun c4_s => ?_)
        · replace t_s := t_s.1 c4_s
          refine w_t (pc := 18) (e_s := (0, 1, 0, 0, 0, .int 0, [])) (y_s := (19, [some (.long _), none], [.int _], _)) rfl (u_ rfl) ?_
          refine wrI (pc := 19) (len_s := 1) rfl hk ?_
          show wF _ 138 (23, [some (.int _)], [.int _], _) _
          refine w_t (pc := 23) (e_s := (15, 3, 41, 0, 0, .null, [])) (y_s := (41, [some (.int _)], [], _)) rfl (u_ rfl) ?_
          refine w_t (pc := 41) (e_s := (0, 1, 0, 0, 0, .int 0, [])) (y_s := (42, [some (.int _)], [.int _], _)) rfl (u_ rfl) ?_
          refine wrI (pc := 42) (len_s := 1) rfl hk ?_
          show wF _ 95 (4, [some (.ref _), some (.int _), some (.int _)], [.int _], _) _
          refine w_t (pc := 4) (e_s := (15, 3, 18, 0, 0, .null, [])) (y_s := (18, [some (.ref _), some (.int _), some (.int _)], [], _)) rfl (u_ rfl) ?_
          refine w_t (pc := 18) (e_s := (0, 1, 0, 0, 0, .int (-1), [])) (y_s := (19, [some (.ref _), some (.int _), some (.int _)], [.int _], _)) rfl (u_ rfl) ?_
          exact wrI (pc := 19) (len_s := 1) rfl hk t_s
        · replace t_s := t_s.2 c4_s
          refine w_t (pc := 6) (e_s := (2, 1, 0, 0, 0, .null, [])) (y_s := (7, [some (.long _), none], [.long _], _)) rfl (u_ rfl) ?_
          refine w_t (pc := 7) (e_s := (0, 3, 0, 0, 0, .long 8, [(0, 1028)])) (y_s := (10, [some (.long _), none], [.long _, .long _], _)) rfl (u_ rfl) ?_
          refine w_t (pc := 10) (e_s := (14, 1, 0, 0, 0, .null, [])) (y_s := (11, [some (.long _), none], [.int (lg_cmp _ _)], _)) rfl (u_ rfl) ?_
          refine wl3 (pc := 11) (len_s := 3) (Y := 8) rfl (Int32.toInt_toInt64 _) (by decide) (fun c5_s => ?_) (fun c5_s => ?_)
          · replace t_s := t_s.1 c5_s
            refine w_t (pc := 14) (e_s := (0, 1, 0, 0, 0, .int 1, [])) (y_s := (15, [some (.long _), none], [.int _], _)) rfl (u_ rfl) ?_
            refine w_t (pc := 15) (e_s := (17, 3, 19, 0, 0, .null, [])) (y_s := (19, [some (.long _), none], [.int _], _)) rfl (u_ rfl) ?_
            refine wrI (pc := 19) (len_s := 1) rfl hk ?_
            show wF _ 138 (23, [some (.int _)], [.int _], _) _
            refine w_t (pc := 23) (e_s := (15, 3, 41, 0, 0, .null, [])) (y_s := (26, [some (.int _)], [], _)) rfl (u_ rfl) ?_
            refine w_t (pc := 26) (e_s := (1, 1, 0, 0, 0, .null, [])) (y_s := (27, [some (.int _)], [.int _], _)) rfl (u_ rfl) ?_
            refine w_t (pc := 27) (e_s := (0, 2, 0, 0, 0, .int 10, [])) (y_s := (29, [some (.int _)], [.int _, .int _], _)) rfl (u_ rfl) ?_
            refine w8 (pc := 29) (len_s := 1) rfl ?_
            refine w_t (pc := 30) (e_s := (1, 1, 0, 0, 0, .null, [])) (y_s := (31, [some (.int _)], [.int _, .int _], _)) rfl (u_ rfl) ?_
            refine w_t (pc := 31) (e_s := (0, 2, 0, 0, 0, .int 10, [])) (y_s := (33, [some (.int _)], [.int _, .int _, .int _], _)) rfl (u_ rfl) ?_
            refine w8m (pc := 33) (len_s := 1) rfl ?_
            refine wi0 (pc := 34) (len_s := 3) rfl rfl rfl (fun c6_s => ?_) (fun c6_s => ?_)
            · replace t_s := t_s.1 c6_s
              refine w_t (pc := 41) (e_s := (0, 1, 0, 0, 0, .int 0, [])) (y_s := (42, [some (.int _)], [.int _], _)) rfl (u_ rfl) ?_
              refine wrI (pc := 42) (len_s := 1) rfl hk ?_
              show wF _ 95 (4, [some (.ref _), some (.int _), some (.int _)], [.int _], _) _
              refine w_t (pc := 4) (e_s := (15, 3, 18, 0, 0, .null, [])) (y_s := (18, [some (.ref _), some (.int _), some (.int _)], [], _)) rfl (u_ rfl) ?_
              refine w_t (pc := 18) (e_s := (0, 1, 0, 0, 0, .int (-1), [])) (y_s := (19, [some (.ref _), some (.int _), some (.int _)], [.int _], _)) rfl (u_ rfl) ?_
              exact wrI (pc := 19) (len_s := 1) rfl hk t_s
            · replace t_s := t_s.2 c6_s
              refine w_t (pc := 37) (e_s := (0, 1, 0, 0, 0, .int 1, [])) (y_s := (38, [some (.int _)], [.int _], _)) rfl (u_ rfl) ?_
              refine w_t (pc := 38) (e_s := (17, 3, 42, 0, 0, .null, [])) (y_s := (42, [some (.int _)], [.int _], _)) rfl (u_ rfl) ?_
              refine wrI (pc := 42) (len_s := 1) rfl hk ?_
              show wF _ 95 (4, [some (.ref _), some (.int _), some (.int _)], [.int _], _) _
              refine w_t (pc := 4) (e_s := (15, 3, 18, 0, 0, .null, [])) (y_s := (7, [some (.ref _), some (.int _), some (.int _)], [], _)) rfl (u_ rfl) ?_
              refine w_t (pc := 7) (e_s := (1, 1, 2, 0, 0, .null, [])) (y_s := (8, [some (.ref _), some (.int _), some (.int _)], [.int _], _)) rfl (u_ rfl) ?_
              refine w_t (pc := 8) (e_s := (0, 1, 0, 0, 0, .int 1, [])) (y_s := (9, [some (.ref _), some (.int _), some (.int _)], [.int _, .int _], _)) rfl (u_ rfl) ?_
              refine wi2 (pc := 9) (len_s := 3) (Y := 1) rfl rfl (by decide) (fun c7_s => ?_) (fun c7_s => ?_)
              · replace t_s := t_s.1 c7_s
                refine w_t (pc := 18) (e_s := (0, 1, 0, 0, 0, .int (-1), [])) (y_s := (19, [some (.ref _), some (.int _), some (.int _)], [.int _], _)) rfl (u_ rfl) ?_
                exact wrI (pc := 19) (len_s := 1) rfl hk t_s
              · replace t_s := t_s.2 c7_s
                refine w_t (pc := 12) (e_s := (1, 1, 2, 0, 0, .null, [])) (y_s := (13, [some (.ref _), some (.int _), some (.int _)], [.int _], _)) rfl (u_ rfl) ?_
                refine w_t (pc := 13) (e_s := (0, 2, 0, 0, 0, .int 9, [])) (y_s := (15, [some (.ref _), some (.int _), some (.int _)], [.int _, .int _], _)) rfl (u_ rfl) ?_
                refine wi5 (pc := 15) (len_s := 3) (Y := 9) rfl rfl (by decide) (fun c8_s => ?_) (fun c8_s => ?_)
                · replace t_s := t_s.1 c8_s
                  refine w_t (pc := 18) (e_s := (0, 1, 0, 0, 0, .int (-1), [])) (y_s := (19, [some (.ref _), some (.int _), some (.int _)], [.int _], _)) rfl (u_ rfl) ?_
                  exact wrI (pc := 19) (len_s := 1) rfl hk t_s
                · replace t_s := t_s.2 c8_s
                  refine w_t (pc := 20) (e_s := (3, 1, 0, 0, 0, .null, [])) (y_s := (21, [some (.ref _), some (.int _), some (.int _)], [.ref _], _)) rfl (u_ rfl) ?_
                  refine w20r (pc := 21) (len_s := 3) (q_s := 7) rfl (krq hk rfl) ?_
                  refine w_t (pc := 24) (e_s := (1, 1, 1, 0, 0, .null, [])) (y_s := (25, [some (.ref _), some (.int _), some (.int _)], [.int _, .ref _], _)) rfl (u_ rfl) ?_
                  refine w_t (pc := 25) (e_s := (0, 2, 0, 0, 0, .int 10, [])) (y_s := (27, [some (.ref _), some (.int _), some (.int _)], [.int _, .int _, .ref _], _)) rfl (u_ rfl) ?_
                  refine w8 (pc := 27) (len_s := 1) rfl ?_
                  refine w_t (pc := 28) (e_s := (1, 1, 1, 0, 0, .null, [])) (y_s := (29, [some (.ref _), some (.int _), some (.int _)], [.int _, .int _, .ref _], _)) rfl (u_ rfl) ?_
                  refine w_t (pc := 29) (e_s := (0, 2, 0, 0, 0, .int 10, [])) (y_s := (31, [some (.ref _), some (.int _), some (.int _)], [.int _, .int _, .int _, .ref _], _)) rfl (u_ rfl) ?_
                  refine w8m (pc := 31) (len_s := 1) rfl ?_
                  refine w_t (pc := 32) (e_s := (1, 1, 2, 0, 0, .null, [])) (y_s := (33, [some (.ref _), some (.int _), some (.int _)], [.int _, .int _, .int _, .ref _], _)) rfl (u_ rfl) ?_
                  refine wcI (pc := 33) (len_s := 3) rfl rfl (l := [some (.ref _), some (.int _), some (.int _), some (.int _), none]) rfl ?_
                  refine w_t (pc := 0) (e_s := (3, 1, 0, 0, 0, .null, [])) (y_s := (1, [some (.ref _), some (.int _), some (.int _), some (.int _), none], [.ref _], _)) rfl (u_ rfl) ?_
                  refine w20 (pc := 1) (len_s := 3) rfl ?_
                  refine w_t (pc := 4) (e_s := (0, 2, 0, 0, 0, .int 12, [])) (y_s := (6, [some (.ref _), some (.int _), some (.int _), some (.int _), none], [.int _, .int _], _)) rfl (u_ rfl) ?_
                  refine wi2 (pc := 6) (len_s := 3) (Y := 12) rfl rfl (by decide) (fun c9_s => ?_) (fun c9_s => ?_)
                  · replace t_s := t_s.1 c9_s
                    refine w_t (pc := 12) (e_s := (3, 1, 0, 0, 0, .null, [])) (y_s := (13, [some (.ref _), some (.int _), some (.int _), some (.int _), none], [.ref _], _)) rfl (u_ rfl) ?_
                    refine w20r (pc := 13) (len_s := 3) (q_s := 11) rfl (krq hk rfl) ?_
                    refine w_t (pc := 16) (e_s := (3, 1, 0, 0, 0, .null, [])) (y_s := (17, [some (.ref _), some (.int _), some (.int _), some (.int _), none], [.ref _, .ref _], _)) rfl (u_ rfl) ?_
                    refine w20 (pc := 17) (len_s := 3) rfl ?_
                    refine w24 (g_s := fun j_ => 28 + j_) (pc := 20) (len_s := 1) hk rfl (hk.1 11 3 12 rfl rfl) kg11 (fun c10_s => ?_)
                    replace t_s := t_s c10_s
                    refine w_t (pc := 21) (e_s := (6, 2, 4, 0, 0, .null, [])) (y_s := (23, [some (.ref _), some (.int _), some (.int _), some (.int _), some (.ref _)], [], _)) rfl (u_ rfl) ?_
                    refine w_t (pc := 23) (e_s := (3, 2, 4, 0, 0, .null, [])) (y_s := (25, [some (.ref _), some (.int _), some (.int _), some (.int _), some (.ref _)], [.ref _], _)) rfl (u_ rfl) ?_
                    refine w_t (pc := 25) (e_s := (1, 1, 1, 0, 0, .null, [])) (y_s := (26, [some (.ref _), some (.int _), some (.int _), some (.int _), some (.ref _)], [.int _, .ref _], _)) rfl (u_ rfl) ?_
                    refine w21 (pc := 26) (len_s := 3) rfl ?_
                    refine w_t (pc := 29) (e_s := (3, 2, 4, 0, 0, .null, [])) (y_s := (31, [some (.ref _), some (.int _), some (.int _), some (.int _), some (.ref _)], [.ref _], _)) rfl (u_ rfl) ?_
                    refine w_t (pc := 31) (e_s := (1, 1, 2, 0, 0, .null, [])) (y_s := (32, [some (.ref _), some (.int _), some (.int _), some (.int _), some (.ref _)], [.int _, .ref _], _)) rfl (u_ rfl) ?_
                    refine w21 (pc := 32) (len_s := 3) rfl ?_
                    refine w_t (pc := 35) (e_s := (3, 2, 4, 0, 0, .null, [])) (y_s := (37, [some (.ref _), some (.int _), some (.int _), some (.int _), some (.ref _)], [.ref _], _)) rfl (u_ rfl) ?_
                    refine w_t (pc := 37) (e_s := (1, 1, 3, 0, 0, .null, [])) (y_s := (38, [some (.ref _), some (.int _), some (.int _), some (.int _), some (.ref _)], [.int _, .ref _], _)) rfl (u_ rfl) ?_
                    refine w21 (pc := 38) (len_s := 3) rfl ?_
                    refine w_t (pc := 41) (e_s := (3, 1, 0, 0, 0, .null, [])) (y_s := (42, [some (.ref _), some (.int _), some (.int _), some (.int _), some (.ref _)], [.ref _], _)) rfl (u_ rfl) ?_
                    refine w_t (pc := 42) (e_s := (39, 1, 0, 0, 0, .null, [])) (y_s := (43, [some (.ref _), some (.int _), some (.int _), some (.int _), some (.ref _)], [.ref _, .ref _], _)) rfl (u_ rfl) ?_
                    refine w20 (pc := 43) (len_s := 3) rfl ?_
                    refine w_t (pc := 46) (e_s := (40, 1, 0, 0, 0, .null, [])) (y_s := (47, [some (.ref _), some (.int _), some (.int _), some (.int _), some (.ref _)], [.int _, .ref _, .int _], _)) rfl (u_ rfl) ?_
                    refine w_t (pc := 47) (e_s := (0, 1, 0, 0, 0, .int 1, [])) (y_s := (48, [some (.ref _), some (.int _), some (.int _), some (.int _), some (.ref _)], [.int _, .int _, .ref _, .int _], _)) rfl (u_ rfl) ?_
                    refine w_t (pc := 48) (e_s := (7, 1, 0, 0, 0, .null, [])) (y_s := (49, [some (.ref _), some (.int _), some (.int _), some (.int _), some (.ref _)], [.int (_ + _), .ref _, .int _], _)) rfl (u_ rfl) ?_
                    refine w21 (pc := 49) (len_s := 3) rfl ?_
                    refine wrI (pc := 52) (len_s := 1) rfl hk ?_
                    show wF _ 95 (36, [some (.ref _), some (.int _), some (.int _)], [.int _], _) _
                    exact wrI (pc := 36) (len_s := 1) rfl hk t_s
                  · replace t_s := t_s.2 c9_s
                    refine w_t (pc := 9) (e_s := (0, 2, 0, 0, 0, .int (-3), [])) (y_s := (11, [some (.ref _), some (.int _), some (.int _), some (.int _), none], [.int _], _)) rfl (u_ rfl) ?_
                    refine wrI (pc := 11) (len_s := 1) rfl hk ?_
                    show wF _ 95 (36, [some (.ref _), some (.int _), some (.int _)], [.int _], _) _
                    exact wrI (pc := 36) (len_s := 1) rfl hk t_s
          · replace t_s := t_s.2 c5_s
            refine w_t (pc := 18) (e_s := (0, 1, 0, 0, 0, .int 0, [])) (y_s := (19, [some (.long _), none], [.int _], _)) rfl (u_ rfl) ?_
            refine wrI (pc := 19) (len_s := 1) rfl hk ?_
            show wF _ 138 (23, [some (.int _)], [.int _], _) _
            refine w_t (pc := 23) (e_s := (15, 3, 41, 0, 0, .null, [])) (y_s := (41, [some (.int _)], [], _)) rfl (u_ rfl) ?_
            refine w_t (pc := 41) (e_s := (0, 1, 0, 0, 0, .int 0, [])) (y_s := (42, [some (.int _)], [.int _], _)) rfl (u_ rfl) ?_
            refine wrI (pc := 42) (len_s := 1) rfl hk ?_
            show wF _ 95 (4, [some (.ref _), some (.int _), some (.int _)], [.int _], _) _
            refine w_t (pc := 4) (e_s := (15, 3, 18, 0, 0, .null, [])) (y_s := (18, [some (.ref _), some (.int _), some (.int _)], [], _)) rfl (u_ rfl) ?_
            refine w_t (pc := 18) (e_s := (0, 1, 0, 0, 0, .int (-1), [])) (y_s := (19, [some (.ref _), some (.int _), some (.int _)], [.int _], _)) rfl (u_ rfl) ?_
            exact wrI (pc := 19) (len_s := 1) rfl hk t_s
      · replace t_s := t_s.2 c3_s
        refine w_t (pc := 18) (e_s := (0, 1, 0, 0, 0, .int 0, [])) (y_s := (19, [some (.long _), none], [.int _], _)) rfl (u_ rfl) ?_
        refine wrI (pc := 19) (len_s := 1) rfl hk ?_
        show wF _ 138 (12, [some (.int _)], [.int _], _) _
        refine w_t (pc := 12) (e_s := (15, 3, 41, 0, 0, .null, [])) (y_s := (41, [some (.int _)], [], _)) rfl (u_ rfl) ?_
        refine w_t (pc := 41) (e_s := (0, 1, 0, 0, 0, .int 0, [])) (y_s := (42, [some (.int _)], [.int _], _)) rfl (u_ rfl) ?_
        refine wrI (pc := 42) (len_s := 1) rfl hk ?_
        show wF _ 95 (4, [some (.ref _), some (.int _), some (.int _)], [.int _], _) _
        refine w_t (pc := 4) (e_s := (15, 3, 18, 0, 0, .null, [])) (y_s := (18, [some (.ref _), some (.int _), some (.int _)], [], _)) rfl (u_ rfl) ?_
        refine w_t (pc := 18) (e_s := (0, 1, 0, 0, 0, .int (-1), [])) (y_s := (19, [some (.ref _), some (.int _), some (.int _)], [.int _], _)) rfl (u_ rfl) ?_
        exact wrI (pc := 19) (len_s := 1) rfl hk t_s
/-- ColdShodModel.road(II)I, from 0 on -/
theorem sg_159_0 {F_s : Nat} {x1_s : Int32} {x2_s : Int32} {h_s : zH} {K_s : Int32 → zH → Prop} (hk : hKn h_s) (t_s : (x1_s.toInt < 0 → K_s (-1) h_s) ∧ (¬ x1_s.toInt < 0 → (((x1_s / 10).toInt < 0 → K_s (-1) h_s) ∧ (¬ (x1_s / 10).toInt < 0 → ((7 < (x1_s / 10).toInt → K_s (-1) h_s) ∧ (¬ 7 < (x1_s / 10).toInt → (((x1_s - x1_s / 10 * 10).toInt < 0 → K_s (-1) h_s) ∧ (¬ (x1_s - x1_s / 10 * 10).toInt < 0 → ((7 < (x1_s - x1_s / 10 * 10).toInt → K_s (-1) h_s) ∧ (¬ 7 < (x1_s - x1_s / 10 * 10).toInt → (((x1_s / 10).toInt = (x1_s - x1_s / 10 * 10).toInt → K_s (-1) h_s) ∧ (¬ (x1_s / 10).toInt = (x1_s - x1_s / 10 * 10).toInt → ((x2_s.toInt < 1 → K_s (-1) h_s) ∧ (¬ x2_s.toInt < 1 → ((9 < x2_s.toInt → K_s (-1) h_s) ∧ (¬ 9 < x2_s.toInt → (((h_s.2.1 102 8).toInt = 12 → K_s (-3) h_s) ∧ (¬ (h_s.2.1 102 8).toInt = 12 → (zix (h_s.2.1 102 8) < 12 → (zix (68 + (h_s.2.1 102 8)) < 104 → K_s (((h_s.2.1 102 8) + 1) - 1) (h_s.1, zup (zup (zup (zup h_s.2.1 107 (zix (h_s.2.1 102 8)) (x1_s / 10)) 108 (zix (h_s.2.1 102 8)) (x1_s - x1_s / 10 * 10)) 103 (zix (68 + (h_s.2.1 102 8))) x2_s) 102 8 ((h_s.2.1 102 8) + 1), h_s.2.2.1, h_s.2.2.2))))))))))))))))))))) : wF (F_s + 1) 159 (0, [some (.ref 102), some (.int x1_s), some (.int x2_s)], [], h_s) (gI K_s) := by
  refine w_0 (pc := 0) (e_s := (1, 1, 1, 0, 0, .null, [])) (y_s := (1, [some (.ref _), some (.int _), some (.int _)], [.int _], _)) rfl (u_ rfl) ?_
  refine wq2 (pc := 1) (len_s := 3) rfl rfl (fun c1_s => ?_) (fun c1_s => ?_)
  · replace t_s := t_s.1 c1_s
    refine w_t (pc := 22) (e_s := (0, 1, 0, 0, 0, .int (-1), [])) (y_s := (23, [some (.ref _), some (.int _), some (.int _)], [.int _], _)) rfl (u_ rfl) ?_
    exact wrI (pc := 23) (len_s := 1) rfl hk t_s
  · replace t_s := t_s.2 c1_s
    refine w_t (pc := 4) (e_s := (1, 1, 1, 0, 0, .null, [])) (y_s := (5, [some (.ref _), some (.int _), some (.int _)], [.int _], _)) rfl (u_ rfl) ?_
    refine w_t (pc := 5) (e_s := (0, 2, 0, 0, 0, .int 10, [])) (y_s := (7, [some (.ref _), some (.int _), some (.int _)], [.int _, .int _], _)) rfl (u_ rfl) ?_
    refine w8 (pc := 7) (len_s := 1) rfl ?_
    refine w_t (pc := 8) (e_s := (10, 1, 0, 0, 0, .null, [])) (y_s := (9, [some (.ref _), some (.int _), some (.int _)], [.long (Int32.toInt64 _)], _)) rfl (u_ rfl) ?_
    refine w_t (pc := 9) (e_s := (1, 1, 1, 0, 0, .null, [])) (y_s := (10, [some (.ref _), some (.int _), some (.int _)], [.int _, .long _], _)) rfl (u_ rfl) ?_
    refine w_t (pc := 10) (e_s := (0, 2, 0, 0, 0, .int 10, [])) (y_s := (12, [some (.ref _), some (.int _), some (.int _)], [.int _, .int _, .long _], _)) rfl (u_ rfl) ?_
    refine w8m (pc := 12) (len_s := 1) rfl ?_
    refine w_t (pc := 13) (e_s := (10, 1, 0, 0, 0, .null, [])) (y_s := (14, [some (.ref _), some (.int _), some (.int _)], [.long (Int32.toInt64 _), .long _], _)) rfl (u_ rfl) ?_
    refine w_t (pc := 14) (e_s := (1, 1, 2, 0, 0, .null, [])) (y_s := (15, [some (.ref _), some (.int _), some (.int _)], [.int _, .long _, .long _], _)) rfl (u_ rfl) ?_
    refine w_t (pc := 15) (e_s := (10, 1, 0, 0, 0, .null, [])) (y_s := (16, [some (.ref _), some (.int _), some (.int _)], [.long (Int32.toInt64 _), .long _, .long _], _)) rfl (u_ rfl) ?_
    refine wcI (pc := 16) (len_s := 3) rfl rfl (l := [some (.long _), none, some (.long _), none, some (.long _), none]) rfl ?_
    refine w_t (pc := 0) (e_s := (2, 1, 0, 0, 0, .null, [])) (y_s := (1, [some (.long _), none, some (.long _), none, some (.long _), none], [.long _], _)) rfl (u_ rfl) ?_
    refine wcI (pc := 1) (len_s := 3) rfl rfl (l := [some (.long _), none]) rfl ?_
    refine w_t (pc := 0) (e_s := (2, 1, 0, 0, 0, .null, [])) (y_s := (1, [some (.long _), none], [.long _], _)) rfl (u_ rfl) ?_
    refine w_t (pc := 1) (e_s := (0, 1, 0, 0, 0, .long 0, [])) (y_s := (2, [some (.long _), none], [.long _, .long _], _)) rfl (u_ rfl) ?_
    refine w_t (pc := 2) (e_s := (0, 3, 0, 0, 0, .long 7, [(0, 1062)])) (y_s := (5, [some (.long _), none], [.long _, .long _, .long _], _)) rfl (u_ rfl) ?_
    refine wcI (pc := 5) (len_s := 3) rfl rfl (l := [some (.long _), none, some (.long _), none, some (.long _), none]) rfl ?_
    refine w_t (pc := 0) (e_s := (2, 1, 0, 0, 0, .null, [])) (y_s := (1, [some (.long _), none, some (.long _), none, some (.long _), none], [.long _], _)) rfl (u_ rfl) ?_
    refine w_t (pc := 1) (e_s := (2, 1, 2, 0, 0, .null, [])) (y_s := (2, [some (.long _), none, some (.long _), none, some (.long _), none], [.long _, .long _], _)) rfl (u_ rfl) ?_
    refine w_t (pc := 2) (e_s := (14, 1, 0, 0, 0, .null, [])) (y_s := (3, [some (.long _), none, some (.long _), none, some (.long _), none], [.int (lg_cmp _ _)], _)) rfl (u_ rfl) ?_
    refine wl2 (pc := 3) (len_s := 3) (Y := 0) rfl (Int32.toInt_toInt64 _) (by decide) (fun c2_s => ?_) (fun c2_s => ?_)
    · replace t_s := t_s.1 c2_s
      refine w_t (pc := 17) (e_s := (0, 1, 0, 0, 0, .int 0, [])) (y_s := (18, [some (.long _), none, some (.long _), none, some (.long _), none], [.int _], _)) rfl (u_ rfl) ?_
      refine wrI (pc := 18) (len_s := 1) rfl hk ?_
      show wF _ 154 (8, [some (.long _), none], [.int _], _) _
      refine wrI (pc := 8) (len_s := 1) rfl hk ?_
      show wF _ 157 (4, [some (.long _), none, some (.long _), none, some (.long _), none], [.int _], _) _
      refine w_t (pc := 4) (e_s := (15, 3, 36, 0, 0, .null, [])) (y_s := (36, [some (.long _), none, some (.long _), none, some (.long _), none], [], _)) rfl (u_ rfl) ?_
      refine w_t (pc := 36) (e_s := (0, 1, 0, 0, 0, .int 0, [])) (y_s := (37, [some (.long _), none, some (.long _), none, some (.long _), none], [.int _], _)) rfl (u_ rfl) ?_
      refine wrI (pc := 37) (len_s := 1) rfl hk ?_
      show wF _ 159 (19, [some (.ref _), some (.int _), some (.int _)], [.int _], _) _
      refine w_t (pc := 19) (e_s := (15, 3, 24, 1, 0, .null, [])) (y_s := (22, [some (.ref _), some (.int _), some (.int _)], [], _)) rfl (u_ rfl) ?_
      refine w_t (pc := 22) (e_s := (0, 1, 0, 0, 0, .int (-1), [])) (y_s := (23, [some (.ref _), some (.int _), some (.int _)], [.int _], _)) rfl (u_ rfl) ?_
      exact wrI (pc := 23) (len_s := 1) rfl hk t_s
    · replace t_s := t_s.2 c2_s
      refine w_t (pc := 6) (e_s := (2, 1, 0, 0, 0, .null, [])) (y_s := (7, [some (.long _), none, some (.long _), none, some (.long _), none], [.long _], _)) rfl (u_ rfl) ?_
      refine w_t (pc := 7) (e_s := (2, 2, 4, 0, 0, .null, [])) (y_s := (9, [some (.long _), none, some (.long _), none, some (.long _), none], [.long _, .long _], _)) rfl (u_ rfl) ?_
      refine w_t (pc := 9) (e_s := (14, 1, 0, 0, 0, .null, [])) (y_s := (10, [some (.long _), none, some (.long _), none, some (.long _), none], [.int (lg_cmp _ _)], _)) rfl (u_ rfl) ?_
      refine wl4 (pc := 10) (len_s := 3) (Y := 7) rfl (Int32.toInt_toInt64 _) (by decide) (fun c3_s => ?_) (fun c3_s => ?_)
      · replace t_s := t_s.1 c3_s
        refine w_t (pc := 17) (e_s := (0, 1, 0, 0, 0, .int 0, [])) (y_s := (18, [some (.long _), none, some (.long _), none, some (.long _), none], [.int _], _)) rfl (u_ rfl) ?_
        refine wrI (pc := 18) (len_s := 1) rfl hk ?_
        show wF _ 154 (8, [some (.long _), none], [.int _], _) _
        refine wrI (pc := 8) (len_s := 1) rfl hk ?_
        show wF _ 157 (4, [some (.long _), none, some (.long _), none, some (.long _), none], [.int _], _) _
        refine w_t (pc := 4) (e_s := (15, 3, 36, 0, 0, .null, [])) (y_s := (36, [some (.long _), none, some (.long _), none, some (.long _), none], [], _)) rfl (u_ rfl) ?_
        refine w_t (pc := 36) (e_s := (0, 1, 0, 0, 0, .int 0, [])) (y_s := (37, [some (.long _), none, some (.long _), none, some (.long _), none], [.int _], _)) rfl (u_ rfl) ?_
        refine wrI (pc := 37) (len_s := 1) rfl hk ?_
        show wF _ 159 (19, [some (.ref _), some (.int _), some (.int _)], [.int _], _) _
        refine w_t (pc := 19) (e_s := (15, 3, 24, 1, 0, .null, [])) (y_s := (22, [some (.ref _), some (.int _), some (.int _)], [], _)) rfl (u_ rfl) ?_
        refine w_t (pc := 22) (e_s := (0, 1, 0, 0, 0, .int (-1), [])) (y_s := (23, [some (.ref _), some (.int _), some (.int _)], [.int _], _)) rfl (u_ rfl) ?_
        exact wrI (pc := 23) (len_s := 1) rfl hk t_s
      · replace t_s := t_s.2 c3_s
        refine w_t (pc := 13) (e_s := (0, 1, 0, 0, 0, .int 1, [])) (y_s := (14, [some (.long _), none, some (.long _), none, some (.long _), none], [.int _], _)) rfl (u_ rfl) ?_
        refine w_t (pc := 14) (e_s := (17, 3, 18, 0, 0, .null, [])) (y_s := (18, [some (.long _), none, some (.long _), none, some (.long _), none], [.int _], _)) rfl (u_ rfl) ?_
        refine wrI (pc := 18) (len_s := 1) rfl hk ?_
        show wF _ 154 (8, [some (.long _), none], [.int _], _) _
        refine wrI (pc := 8) (len_s := 1) rfl hk ?_
        show wF _ 157 (4, [some (.long _), none, some (.long _), none, some (.long _), none], [.int _], _) _
        refine w_t (pc := 4) (e_s := (15, 3, 36, 0, 0, .null, [])) (y_s := (7, [some (.long _), none, some (.long _), none, some (.long _), none], [], _)) rfl (u_ rfl) ?_
        refine w_t (pc := 7) (e_s := (2, 1, 2, 0, 0, .null, [])) (y_s := (8, [some (.long _), none, some (.long _), none, some (.long _), none], [.long _], _)) rfl (u_ rfl) ?_
        refine wcI (pc := 8) (len_s := 3) rfl rfl (l := [some (.long _), none]) rfl ?_
        refine w_t (pc := 0) (e_s := (2, 1, 0, 0, 0, .null, [])) (y_s := (1, [some (.long _), none], [.long _], _)) rfl (u_ rfl) ?_
        refine w_t (pc := 1) (e_s := (0, 1, 0, 0, 0, .long 0, [])) (y_s := (2, [some (.long _), none], [.long _, .long _], _)) rfl (u_ rfl) ?_
        refine w_t (pc := 2) (e_s := (0, 3, 0, 0, 0, .long 7, [(0, 1062)])) (y_s := (5, [some (.long _), none], [.long _, .long _, .long _], _)) rfl (u_ rfl) ?_
        refine wcI (pc := 5) (len_s := 3) rfl rfl (l := [some (.long _), none, some (.long _), none, some (.long _), none]) rfl ?_
        refine w_t (pc := 0) (e_s := (2, 1, 0, 0, 0, .null, [])) (y_s := (1, [some (.long _), none, some (.long _), none, some (.long _), none], [.long _], _)) rfl (u_ rfl) ?_
        refine w_t (pc := 1) (e_s := (2, 1, 2, 0, 0, .null, [])) (y_s := (2, [some (.long _), none, some (.long _), none, some (.long _), none], [.long _, .long _], _)) rfl (u_ rfl) ?_
        refine w_t (pc := 2) (e_s := (14, 1, 0, 0, 0, .null, [])) (y_s := (3, [some (.long _), none, some (.long _), none, some (.long _), none], [.int (lg_cmp _ _)], _)) rfl (u_ rfl) ?_
        refine wl2 (pc := 3) (len_s := 3) (Y := 0) rfl (Int32.toInt_toInt64 _) (by decide) (fun c4_s => ?_) (fun c4_s => ?_)
        · replace t_s := t_s.1 c4_s
          refine w_t (pc := 17) (e_s := (0, 1, 0, 0, 0, .int 0, [])) (y_s := (18, [some (.long _), none, some (.long _), none, some (.long _), none], [.int _], _)) rfl (u_ rfl) ?_
          refine wrI (pc := 18) (len_s := 1) rfl hk ?_
          show wF _ 154 (8, [some (.long _), none], [.int _], _) _
          refine wrI (pc := 8) (len_s := 1) rfl hk ?_
          show wF _ 157 (11, [some (.long _), none, some (.long _), none, some (.long _), none], [.int _], _) _
          refine w_t (pc := 11) (e_s := (15, 3, 36, 0, 0, .null, [])) (y_s := (36, [some (.long _), none, some (.long _), none, some (.long _), none], [], _)) rfl (u_ rfl) ?_
          refine w_t (pc := 36) (e_s := (0, 1, 0, 0, 0, .int 0, [])) (y_s := (37, [some (.long _), none, some (.long _), none, some (.long _), none], [.int _], _)) rfl (u_ rfl) ?_
          refine wrI (pc := 37) (len_s := 1) rfl hk ?_
          show wF _ 159 (19, [some (.ref _), some (.int _), some (.int _)], [.int _], _) _
          refine w_t (pc := 19) (e_s := (15, 3, 24, 1, 0, .null, [])) (y_s := (22, [some (.ref _), some (.int _), some (.int _)], [], _)) rfl (u_ rfl) ?_
          refine w_t (pc := 22) (e_s := (0, 1, 0, 0, 0, .int (-1), [])) (y_s := (23, [some (.ref _), some (.int _), some (.int _)], [.int _], _)) rfl (u_ rfl) ?_
          exact wrI (pc := 23) (len_s := 1) rfl hk t_s
        · replace t_s := t_s.2 c4_s
          refine w_t (pc := 6) (e_s := (2, 1, 0, 0, 0, .null, [])) (y_s := (7, [some (.long _), none, some (.long _), none, some (.long _), none], [.long _], _)) rfl (u_ rfl) ?_
          refine w_t (pc := 7) (e_s := (2, 2, 4, 0, 0, .null, [])) (y_s := (9, [some (.long _), none, some (.long _), none, some (.long _), none], [.long _, .long _], _)) rfl (u_ rfl) ?_
          refine w_t (pc := 9) (e_s := (14, 1, 0, 0, 0, .null, [])) (y_s := (10, [some (.long _), none, some (.long _), none, some (.long _), none], [.int (lg_cmp _ _)], _)) rfl (u_ rfl) ?_
          refine wl4 (pc := 10) (len_s := 3) (Y := 7) rfl (Int32.toInt_toInt64 _) (by decide) (fun c5_s => ?_) (fun c5_s => ?_)
          · replace t_s := t_s.1 c5_s
            refine w_t (pc := 17) (e_s := (0, 1, 0, 0, 0, .int 0, [])) (y_s := (18, [some (.long _), none, some (.long _), none, some (.long _), none], [.int _], _)) rfl (u_ rfl) ?_
            refine wrI (pc := 18) (len_s := 1) rfl hk ?_
            show wF _ 154 (8, [some (.long _), none], [.int _], _) _
            refine wrI (pc := 8) (len_s := 1) rfl hk ?_
            show wF _ 157 (11, [some (.long _), none, some (.long _), none, some (.long _), none], [.int _], _) _
            refine w_t (pc := 11) (e_s := (15, 3, 36, 0, 0, .null, [])) (y_s := (36, [some (.long _), none, some (.long _), none, some (.long _), none], [], _)) rfl (u_ rfl) ?_
            refine w_t (pc := 36) (e_s := (0, 1, 0, 0, 0, .int 0, [])) (y_s := (37, [some (.long _), none, some (.long _), none, some (.long _), none], [.int _], _)) rfl (u_ rfl) ?_
            refine wrI (pc := 37) (len_s := 1) rfl hk ?_
            show wF _ 159 (19, [some (.ref _), some (.int _), some (.int _)], [.int _], _) _
            refine w_t (pc := 19) (e_s := (15, 3, 24, 1, 0, .null, [])) (y_s := (22, [some (.ref _), some (.int _), some (.int _)], [], _)) rfl (u_ rfl) ?_
            refine w_t (pc := 22) (e_s := (0, 1, 0, 0, 0, .int (-1), [])) (y_s := (23, [some (.ref _), some (.int _), some (.int _)], [.int _], _)) rfl (u_ rfl) ?_
            exact wrI (pc := 23) (len_s := 1) rfl hk t_s
          · replace t_s := t_s.2 c5_s
            refine w_t (pc := 13) (e_s := (0, 1, 0, 0, 0, .int 1, [])) (y_s := (14, [some (.long _), none, some (.long _), none, some (.long _), none], [.int _], _)) rfl (u_ rfl) ?_
            refine w_t (pc := 14) (e_s := (17, 3, 18, 0, 0, .null, [])) (y_s := (18, [some (.long _), none, some (.long _), none, some (.long _), none], [.int _], _)) rfl (u_ rfl) ?_
            refine wrI (pc := 18) (len_s := 1) rfl hk ?_
            show wF _ 154 (8, [some (.long _), none], [.int _], _) _
            refine wrI (pc := 8) (len_s := 1) rfl hk ?_
            show wF _ 157 (11, [some (.long _), none, some (.long _), none, some (.long _), none], [.int _], _) _
            refine w_t (pc := 11) (e_s := (15, 3, 36, 0, 0, .null, [])) (y_s := (14, [some (.long _), none, some (.long _), none, some (.long _), none], [], _)) rfl (u_ rfl) ?_
            refine w_t (pc := 14) (e_s := (2, 1, 0, 0, 0, .null, [])) (y_s := (15, [some (.long _), none, some (.long _), none, some (.long _), none], [.long _], _)) rfl (u_ rfl) ?_
            refine w_t (pc := 15) (e_s := (2, 1, 2, 0, 0, .null, [])) (y_s := (16, [some (.long _), none, some (.long _), none, some (.long _), none], [.long _, .long _], _)) rfl (u_ rfl) ?_
            refine w_t (pc := 16) (e_s := (14, 1, 0, 0, 0, .null, [])) (y_s := (17, [some (.long _), none, some (.long _), none, some (.long _), none], [.int (lg_cmp _ _)], _)) rfl (u_ rfl) ?_
            refine wl0 (pc := 17) (len_s := 3) rfl (Int32.toInt_toInt64 _) (Int32.toInt_toInt64 _) (fun c6_s => ?_) (fun c6_s => ?_)
            · replace t_s := t_s.1 c6_s
              refine w_t (pc := 36) (e_s := (0, 1, 0, 0, 0, .int 0, [])) (y_s := (37, [some (.long _), none, some (.long _), none, some (.long _), none], [.int _], _)) rfl (u_ rfl) ?_
              refine wrI (pc := 37) (len_s := 1) rfl hk ?_
              show wF _ 159 (19, [some (.ref _), some (.int _), some (.int _)], [.int _], _) _
              refine w_t (pc := 19) (e_s := (15, 3, 24, 1, 0, .null, [])) (y_s := (22, [some (.ref _), some (.int _), some (.int _)], [], _)) rfl (u_ rfl) ?_
              refine w_t (pc := 22) (e_s := (0, 1, 0, 0, 0, .int (-1), [])) (y_s := (23, [some (.ref _), some (.int _), some (.int _)], [.int _], _)) rfl (u_ rfl) ?_
              exact wrI (pc := 23) (len_s := 1) rfl hk t_s
            · replace t_s := t_s.2 c6_s
              refine w_t (pc := 20) (e_s := (2, 2, 4, 0, 0, .null, [])) (y_s := (22, [some (.long _), none, some (.long _), none, some (.long _), none], [.long _], _)) rfl (u_ rfl) ?_
              refine w_t (pc := 22) (e_s := (0, 1, 0, 0, 0, .long 1, [])) (y_s := (23, [some (.long _), none, some (.long _), none, some (.long _), none], [.long _, .long _], _)) rfl (u_ rfl) ?_
              refine w_t (pc := 23) (e_s := (0, 3, 0, 0, 0, .long 9, [(0, 1066)])) (y_s := (26, [some (.long _), none, some (.long _), none, some (.long _), none], [.long _, .long _, .long _], _)) rfl (u_ rfl) ?_
              refine wcI (pc := 26) (len_s := 3) rfl rfl (l := [some (.long _), none, some (.long _), none, some (.long _), none]) rfl ?_
              refine w_t (pc := 0) (e_s := (2, 1, 0, 0, 0, .null, [])) (y_s := (1, [some (.long _), none, some (.long _), none, some (.long _), none], [.long _], _)) rfl (u_ rfl) ?_
              refine w_t (pc := 1) (e_s := (2, 1, 2, 0, 0, .null, [])) (y_s := (2, [some (.long _), none, some (.long _), none, some (.long _), none], [.long _, .long _], _)) rfl (u_ rfl) ?_
              refine w_t (pc := 2) (e_s := (14, 1, 0, 0, 0, .null, [])) (y_s := (3, [some (.long _), none, some (.long _), none, some (.long _), none], [.int (lg_cmp _ _)], _)) rfl (u_ rfl) ?_
              refine wl2 (pc := 3) (len_s := 3) (Y := 1) rfl (Int32.toInt_toInt64 _) (by decide) (fun c7_s => ?_) (fun c7_s => ?_)
              · replace t_s := t_s.1 c7_s
                refine w_t (pc := 17) (e_s := (0, 1, 0, 0, 0, .int 0, [])) (y_s := (18, [some (.long _), none, some (.long _), none, some (.long _), none], [.int _], _)) rfl (u_ rfl) ?_
                refine wrI (pc := 18) (len_s := 1) rfl hk ?_
                show wF _ 157 (29, [some (.long _), none, some (.long _), none, some (.long _), none], [.int _], _) _
                refine w_t (pc := 29) (e_s := (15, 3, 36, 0, 0, .null, [])) (y_s := (36, [some (.long _), none, some (.long _), none, some (.long _), none], [], _)) rfl (u_ rfl) ?_
                refine w_t (pc := 36) (e_s := (0, 1, 0, 0, 0, .int 0, [])) (y_s := (37, [some (.long _), none, some (.long _), none, some (.long _), none], [.int _], _)) rfl (u_ rfl) ?_
                refine wrI (pc := 37) (len_s := 1) rfl hk ?_
                show wF _ 159 (19, [some (.ref _), some (.int _), some (.int _)], [.int _], _) _
                refine w_t (pc := 19) (e_s := (15, 3, 24, 1, 0, .null, [])) (y_s := (22, [some (.ref _), some (.int _), some (.int _)], [], _)) rfl (u_ rfl) ?_
                refine w_t (pc := 22) (e_s := (0, 1, 0, 0, 0, .int (-1), [])) (y_s := (23, [some (.ref _), some (.int _), some (.int _)], [.int _], _)) rfl (u_ rfl) ?_
                exact wrI (pc := 23) (len_s := 1) rfl hk t_s
              · replace t_s := t_s.2 c7_s
                refine w_t (pc := 6) (e_s := (2, 1, 0, 0, 0, .null, [])) (y_s := (7, [some (.long _), none, some (.long _), none, some (.long _), none], [.long _], _)) rfl (u_ rfl) ?_
                refine w_t (pc := 7) (e_s := (2, 2, 4, 0, 0, .null, [])) (y_s := (9, [some (.long _), none, some (.long _), none, some (.long _), none], [.long _, .long _], _)) rfl (u_ rfl) ?_
                refine w_t (pc := 9) (e_s := (14, 1, 0, 0, 0, .null, [])) (y_s := (10, [some (.long _), none, some (.long _), none, some (.long _), none], [.int (lg_cmp _ _)], _)) rfl (u_ rfl) ?_
                refine wl4 (pc := 10) (len_s := 3) (Y := 9) rfl (Int32.toInt_toInt64 _) (by decide) (fun c8_s => ?_) (fun c8_s => ?_)
                · replace t_s := t_s.1 c8_s
                  refine w_t (pc := 17) (e_s := (0, 1, 0, 0, 0, .int 0, [])) (y_s := (18, [some (.long _), none, some (.long _), none, some (.long _), none], [.int _], _)) rfl (u_ rfl) ?_
                  refine wrI (pc := 18) (len_s := 1) rfl hk ?_
                  show wF _ 157 (29, [some (.long _), none, some (.long _), none, some (.long _), none], [.int _], _) _
                  refine w_t (pc := 29) (e_s := (15, 3, 36, 0, 0, .null, [])) (y_s := (36, [some (.long _), none, some (.long _), none, some (.long _), none], [], _)) rfl (u_ rfl) ?_
                  refine w_t (pc := 36) (e_s := (0, 1, 0, 0, 0, .int 0, [])) (y_s := (37, [some (.long _), none, some (.long _), none, some (.long _), none], [.int _], _)) rfl (u_ rfl) ?_
                  refine wrI (pc := 37) (len_s := 1) rfl hk ?_
                  show wF _ 159 (19, [some (.ref _), some (.int _), some (.int _)], [.int _], _) _
                  refine w_t (pc := 19) (e_s := (15, 3, 24, 1, 0, .null, [])) (y_s := (22, [some (.ref _), some (.int _), some (.int _)], [], _)) rfl (u_ rfl) ?_
                  refine w_t (pc := 22) (e_s := (0, 1, 0, 0, 0, .int (-1), [])) (y_s := (23, [some (.ref _), some (.int _), some (.int _)], [.int _], _)) rfl (u_ rfl) ?_
                  exact wrI (pc := 23) (len_s := 1) rfl hk t_s
                · replace t_s := t_s.2 c8_s
                  refine w_t (pc := 13) (e_s := (0, 1, 0, 0, 0, .int 1, [])) (y_s := (14, [some (.long _), none, some (.long _), none, some (.long _), none], [.int _], _)) rfl (u_ rfl) ?_
                  refine w_t (pc := 14) (e_s := (17, 3, 18, 0, 0, .null, [])) (y_s := (18, [some (.long _), none, some (.long _), none, some (.long _), none], [.int _], _)) rfl (u_ rfl) ?_
                  refine wrI (pc := 18) (len_s := 1) rfl hk ?_
                  show wF _ 157 (29, [some (.long _), none, some (.long _), none, some (.long _), none], [.int _], _) _
                  refine w_t (pc := 29) (e_s := (15, 3, 36, 0, 0, .null, [])) (y_s := (32, [some (.long _), none, some (.long _), none, some (.long _), none], [], _)) rfl (u_ rfl) ?_
                  refine w_t (pc := 32) (e_s := (0, 1, 0, 0, 0, .int 1, [])) (y_s := (33, [some (.long _), none, some (.long _), none, some (.long _), none], [.int _], _)) rfl (u_ rfl) ?_
                  refine w_t (pc := 33) (e_s := (17, 3, 37, 0, 0, .null, [])) (y_s := (37, [some (.long _), none, some (.long _), none, some (.long _), none], [.int _], _)) rfl (u_ rfl) ?_
                  refine wrI (pc := 37) (len_s := 1) rfl hk ?_
                  show wF _ 159 (19, [some (.ref _), some (.int _), some (.int _)], [.int _], _) _
                  refine w_t (pc := 19) (e_s := (15, 3, 24, 1, 0, .null, [])) (y_s := (24, [some (.ref _), some (.int _), some (.int _)], [], _)) rfl (u_ rfl) ?_
                  refine w_t (pc := 24) (e_s := (3, 1, 0, 0, 0, .null, [])) (y_s := (25, [some (.ref _), some (.int _), some (.int _)], [.ref _], _)) rfl (u_ rfl) ?_
                  refine w20 (pc := 25) (len_s := 3) rfl ?_
                  refine w_t (pc := 28) (e_s := (0, 2, 0, 0, 0, .int 12, [])) (y_s := (30, [some (.ref _), some (.int _), some (.int _)], [.int _, .int _], _)) rfl (u_ rfl) ?_
                  refine wi1 (pc := 30) (len_s := 3) (Y := 12) rfl rfl (by decide) (fun c9_s => ?_) (fun c9_s => ?_)
                  · replace t_s := t_s.1 c9_s
                    refine w_t (pc := 33) (e_s := (0, 2, 0, 0, 0, .int (-3), [])) (y_s := (35, [some (.ref _), some (.int _), some (.int _)], [.int _], _)) rfl (u_ rfl) ?_
                    exact wrI (pc := 35) (len_s := 1) rfl hk t_s
                  · replace t_s := t_s.2 c9_s
                    refine w_t (pc := 36) (e_s := (3, 1, 0, 0, 0, .null, [])) (y_s := (37, [some (.ref _), some (.int _), some (.int _)], [.ref _], _)) rfl (u_ rfl) ?_
                    refine w_t (pc := 37) (e_s := (1, 1, 1, 0, 0, .null, [])) (y_s := (38, [some (.ref _), some (.int _), some (.int _)], [.int _, .ref _], _)) rfl (u_ rfl) ?_
                    refine w_t (pc := 38) (e_s := (0, 2, 0, 0, 0, .int 10, [])) (y_s := (40, [some (.ref _), some (.int _), some (.int _)], [.int _, .int _, .ref _], _)) rfl (u_ rfl) ?_
                    refine w8 (pc := 40) (len_s := 1) rfl ?_
                    refine w_t (pc := 41) (e_s := (1, 1, 1, 0, 0, .null, [])) (y_s := (42, [some (.ref _), some (.int _), some (.int _)], [.int _, .int _, .ref _], _)) rfl (u_ rfl) ?_
                    refine w_t (pc := 42) (e_s := (0, 2, 0, 0, 0, .int 10, [])) (y_s := (44, [some (.ref _), some (.int _), some (.int _)], [.int _, .int _, .int _, .ref _], _)) rfl (u_ rfl) ?_
                    refine w8m (pc := 44) (len_s := 1) rfl ?_
                    refine w_t (pc := 45) (e_s := (1, 1, 2, 0, 0, .null, [])) (y_s := (46, [some (.ref _), some (.int _), some (.int _)], [.int _, .int _, .int _, .ref _], _)) rfl (u_ rfl) ?_
                    refine wcV (pc := 46) (len_s := 3) rfl rfl (l := [some (.ref _), some (.int _), some (.int _), some (.int _)]) rfl ?_
                    refine w_t (pc := 0) (e_s := (3, 1, 0, 0, 0, .null, [])) (y_s := (1, [some (.ref _), some (.int _), some (.int _), some (.int _)], [.ref _], _)) rfl (u_ rfl) ?_
                    refine w20r (pc := 1) (len_s := 3) (q_s := 107) rfl (krq hk rfl) ?_
                    refine w_t (pc := 4) (e_s := (3, 1, 0, 0, 0, .null, [])) (y_s := (5, [some (.ref _), some (.int _), some (.int _), some (.int _)], [.ref _, .ref _], _)) rfl (u_ rfl) ?_
                    refine w20 (pc := 5) (len_s := 3) rfl ?_
                    refine w_t (pc := 8) (e_s := (1, 1, 1, 0, 0, .null, [])) (y_s := (9, [some (.ref _), some (.int _), some (.int _), some (.int _)], [.int _, .int _, .ref _], _)) rfl (u_ rfl) ?_
                    refine w25 (pc := 9) (len_s := 1) rfl (hk.1 107 0 12 rfl rfl) (fun c10_s => ?_)
                    replace t_s := t_s c10_s
                    refine w_t (pc := 10) (e_s := (3, 1, 0, 0, 0, .null, [])) (y_s := (11, [some (.ref _), some (.int _), some (.int _), some (.int _)], [.ref _], _)) rfl (u_ rfl) ?_
                    refine w20r (pc := 11) (len_s := 3) (q_s := 108) rfl (krq hk rfl) ?_
                    refine w_t (pc := 14) (e_s := (3, 1, 0, 0, 0, .null, [])) (y_s := (15, [some (.ref _), some (.int _), some (.int _), some (.int _)], [.ref _, .ref _], _)) rfl (u_ rfl) ?_
                    refine w20 (pc := 15) (len_s := 3) rfl ?_
                    refine w_t (pc := 18) (e_s := (1, 1, 2, 0, 0, .null, [])) (y_s := (19, [some (.ref _), some (.int _), some (.int _), some (.int _)], [.int _, .int _, .ref _], _)) rfl (u_ rfl) ?_
                    refine w25 (pc := 19) (len_s := 1) rfl (hk.1 108 0 12 rfl rfl) (fun c11_s => ?_)
                    refine w_t (pc := 20) (e_s := (3, 1, 0, 0, 0, .null, [])) (y_s := (21, [some (.ref _), some (.int _), some (.int _), some (.int _)], [.ref _], _)) rfl (u_ rfl) ?_
                    refine w20r (pc := 21) (len_s := 3) (q_s := 103) rfl (krq hk rfl) ?_
                    refine w_t (pc := 24) (e_s := (0, 2, 0, 0, 0, .int 68, [])) (y_s := (26, [some (.ref _), some (.int _), some (.int _), some (.int _)], [.int _, .ref _], _)) rfl (u_ rfl) ?_
                    refine w_t (pc := 26) (e_s := (3, 1, 0, 0, 0, .null, [])) (y_s := (27, [some (.ref _), some (.int _), some (.int _), some (.int _)], [.ref _, .int _, .ref _], _)) rfl (u_ rfl) ?_
                    refine w20 (pc := 27) (len_s := 3) rfl ?_
                    refine w_t (pc := 30) (e_s := (7, 1, 0, 0, 0, .null, [])) (y_s := (31, [some (.ref _), some (.int _), some (.int _), some (.int _)], [.int (_ + _), .ref _], _)) rfl (u_ rfl) ?_
                    refine w_t (pc := 31) (e_s := (1, 1, 3, 0, 0, .null, [])) (y_s := (32, [some (.ref _), some (.int _), some (.int _), some (.int _)], [.int _, .int _, .ref _], _)) rfl (u_ rfl) ?_
                    refine w25 (pc := 32) (len_s := 1) rfl (hk.1 103 0 104 rfl rfl) (fun c12_s => ?_)
                    replace t_s := t_s c12_s
                    refine w_t (pc := 33) (e_s := (3, 1, 0, 0, 0, .null, [])) (y_s := (34, [some (.ref _), some (.int _), some (.int _), some (.int _)], [.ref _], _)) rfl (u_ rfl) ?_
                    refine w_t (pc := 34) (e_s := (39, 1, 0, 0, 0, .null, [])) (y_s := (35, [some (.ref _), some (.int _), some (.int _), some (.int _)], [.ref _, .ref _], _)) rfl (u_ rfl) ?_
                    refine w20 (pc := 35) (len_s := 3) rfl ?_
                    refine w_t (pc := 38) (e_s := (0, 1, 0, 0, 0, .int 1, [])) (y_s := (39, [some (.ref _), some (.int _), some (.int _), some (.int _)], [.int _, .int _, .ref _], _)) rfl (u_ rfl) ?_
                    refine w_t (pc := 39) (e_s := (7, 1, 0, 0, 0, .null, [])) (y_s := (40, [some (.ref _), some (.int _), some (.int _), some (.int _)], [.int (_ + _), .ref _], _)) rfl (u_ rfl) ?_
                    refine w21 (pc := 40) (len_s := 3) rfl ?_
                    refine wrV (pc := 43) (len_s := 1) rfl hk ?_
                    show wF _ 159 (49, [some (.ref _), some (.int _), some (.int _)], [], _) _
                    refine w_t (pc := 49) (e_s := (3, 1, 0, 0, 0, .null, [])) (y_s := (50, [some (.ref _), some (.int _), some (.int _)], [.ref _], _)) rfl (u_ rfl) ?_
                    refine w20 (pc := 50) (len_s := 3) rfl ?_
                    refine w_t (pc := 53) (e_s := (0, 1, 0, 0, 0, .int 1, [])) (y_s := (54, [some (.ref _), some (.int _), some (.int _)], [.int _, .int _], _)) rfl (u_ rfl) ?_
                    refine w_t (pc := 54) (e_s := (7, 1, 0, 1, 0, .null, [])) (y_s := (55, [some (.ref _), some (.int _), some (.int _)], [.int (_ - _)], _)) rfl (u_ rfl) ?_
                    exact wrI (pc := 55) (len_s := 1) rfl hk t_s
/-- ColdShod.roads(III)I, from 0 on -/
theorem sg_96_0 {F_s : Nat} {x1_s : Int32} {x2_s : Int32} {x3 : Int32} {h_s : zH} {K_s : Int32 → zH → Prop} (hk : hKn h_s) (t_s : (x1_s.toInt < 0 → K_s (-1) h_s) ∧ (¬ x1_s.toInt < 0 → ((x1_s.toInt < 6 → ((x3.toInt < 1 → K_s (-1) h_s) ∧ (¬ x3.toInt < 1 → ((12 < x3.toInt → K_s (-1) h_s) ∧ (¬ 12 < x3.toInt → (zix x1_s < 6 → ((h_s.2.1 (76 + 2 * (zix x1_s)) 0).toInt = 0 → K_s 0 h_s) ∧ (¬ (h_s.2.1 (76 + 2 * (zix x1_s)) 0).toInt = 0 → (((h_s.2.1 (76 + 2 * (zix x1_s)) 0).toInt = 2 → (((h_s.2.1 (76 + 2 * (zix x1_s)) 2).toInt = 0 → ((x2_s.toInt < 0 → K_s 0 h_s) ∧ (¬ x2_s.toInt < 0 → wF F_s 96 (61, [some (.ref 6), some (.int x1_s), some (.int x2_s), some (.int x3), some (.ref (76 + 2 * (zix x1_s))), some (.int 0), some (.int x2_s)], [], h_s) (gI K_s)))) ∧ (¬ (h_s.2.1 (76 + 2 * (zix x1_s)) 2).toInt = 0 → K_s (-12) h_s))) ∧ (¬ (h_s.2.1 (76 + 2 * (zix x1_s)) 0).toInt = 2 → K_s (-12) h_s))))))))) ∧ (¬ x1_s.toInt < 6 → K_s (-1) h_s)))) : wF (F_s + 1) 96 (0, [some (.ref 6), some (.int x1_s), some (.int x2_s), some (.int x3), none, none, none], [], h_s) (gI K_s) := by
  refine w_0 (pc := 0) (e_s := (1, 1, 1, 0, 0, .null, [])) (y_s := (1, [some (.ref _), some (.int _), some (.int _), some (.int _), none, none, none], [.int _], _)) rfl (u_ rfl) ?_
  refine wcI (pc := 1) (len_s := 3) rfl rfl (l := [some (.int _)]) rfl ?_
  refine w_t (pc := 0) (e_s := (1, 1, 0, 0, 0, .null, [])) (y_s := (1, [some (.int _)], [.int _], _)) rfl (u_ rfl) ?_
  refine wq2 (pc := 1) (len_s := 3) rfl rfl (fun c1_s => ?_) (fun c1_s => ?_)
  · replace t_s := t_s.1 c1_s
    refine w_t (pc := 14) (e_s := (0, 1, 0, 0, 0, .int 0, [])) (y_s := (15, [some (.int _)], [.int _], _)) rfl (u_ rfl) ?_
    refine wrI (pc := 15) (len_s := 1) rfl hk ?_
    show wF _ 96 (4, [some (.ref _), some (.int _), some (.int _), some (.int _), none, none, none], [.int _], _) _
    refine w_t (pc := 4) (e_s := (15, 3, 18, 0, 0, .null, [])) (y_s := (18, [some (.ref _), some (.int _), some (.int _), some (.int _), none, none, none], [], _)) rfl (u_ rfl) ?_
    refine w_t (pc := 18) (e_s := (0, 1, 0, 0, 0, .int (-1), [])) (y_s := (19, [some (.ref _), some (.int _), some (.int _), some (.int _), none, none, none], [.int _], _)) rfl (u_ rfl) ?_
    exact wrI (pc := 19) (len_s := 1) rfl hk t_s
  · replace t_s := t_s.2 c1_s
    refine w_t (pc := 4) (e_s := (1, 1, 0, 0, 0, .null, [])) (y_s := (5, [some (.int _)], [.int _], _)) rfl (u_ rfl) ?_
    refine w_t (pc := 5) (e_s := (0, 2, 0, 0, 0, .int 6, [])) (y_s := (7, [some (.int _)], [.int _, .int _], _)) rfl (u_ rfl) ?_
    refine wi3 (pc := 7) (len_s := 3) (Y := 6) rfl rfl (by decide) (fun c2_s => ?_) (fun c2_s => ?_)
    · replace t_s := t_s.1 c2_s
      refine w_t (pc := 10) (e_s := (0, 1, 0, 0, 0, .int 1, [])) (y_s := (11, [some (.int _)], [.int _], _)) rfl (u_ rfl) ?_
      refine w_t (pc := 11) (e_s := (17, 3, 15, 0, 0, .null, [])) (y_s := (15, [some (.int _)], [.int _], _)) rfl (u_ rfl) ?_
      refine wrI (pc := 15) (len_s := 1) rfl hk ?_
      show wF _ 96 (4, [some (.ref _), some (.int _), some (.int _), some (.int _), none, none, none], [.int _], _) _
      refine w_t (pc := 4) (e_s := (15, 3, 18, 0, 0, .null, [])) (y_s := (7, [some (.ref _), some (.int _), some (.int _), some (.int _), none, none, none], [], _)) rfl (u_ rfl) ?_
      refine w_t (pc := 7) (e_s := (1, 1, 3, 0, 0, .null, [])) (y_s := (8, [some (.ref _), some (.int _), some (.int _), some (.int _), none, none, none], [.int _], _)) rfl (u_ rfl) ?_
      refine w_t (pc := 8) (e_s := (0, 1, 0, 0, 0, .int 1, [])) (y_s := (9, [some (.ref _), some (.int _), some (.int _), some (.int _), none, none, none], [.int _, .int _], _)) rfl (u_ rfl) ?_
      refine wi2 (pc := 9) (len_s := 3) (Y := 1) rfl rfl (by decide) (fun c3_s => ?_) (fun c3_s => ?_)
      · replace t_s := t_s.1 c3_s
        refine w_t (pc := 18) (e_s := (0, 1, 0, 0, 0, .int (-1), [])) (y_s := (19, [some (.ref _), some (.int _), some (.int _), some (.int _), none, none, none], [.int _], _)) rfl (u_ rfl) ?_
        exact wrI (pc := 19) (len_s := 1) rfl hk t_s
      · replace t_s := t_s.2 c3_s
        refine w_t (pc := 12) (e_s := (1, 1, 3, 0, 0, .null, [])) (y_s := (13, [some (.ref _), some (.int _), some (.int _), some (.int _), none, none, none], [.int _], _)) rfl (u_ rfl) ?_
        refine w_t (pc := 13) (e_s := (0, 2, 0, 0, 0, .int 12, [])) (y_s := (15, [some (.ref _), some (.int _), some (.int _), some (.int _), none, none, none], [.int _, .int _], _)) rfl (u_ rfl) ?_
        refine wi5 (pc := 15) (len_s := 3) (Y := 12) rfl rfl (by decide) (fun c4_s => ?_) (fun c4_s => ?_)
        · replace t_s := t_s.1 c4_s
          refine w_t (pc := 18) (e_s := (0, 1, 0, 0, 0, .int (-1), [])) (y_s := (19, [some (.ref _), some (.int _), some (.int _), some (.int _), none, none, none], [.int _], _)) rfl (u_ rfl) ?_
          exact wrI (pc := 19) (len_s := 1) rfl hk t_s
        · replace t_s := t_s.2 c4_s
          refine w_t (pc := 20) (e_s := (3, 1, 0, 0, 0, .null, [])) (y_s := (21, [some (.ref _), some (.int _), some (.int _), some (.int _), none, none, none], [.ref _], _)) rfl (u_ rfl) ?_
          refine w20r (pc := 21) (len_s := 3) (q_s := 71) rfl (krq hk rfl) ?_
          refine w_t (pc := 24) (e_s := (1, 1, 1, 0, 0, .null, [])) (y_s := (25, [some (.ref _), some (.int _), some (.int _), some (.int _), none, none, none], [.int _, .ref _], _)) rfl (u_ rfl) ?_
          refine w24 (g_s := fun j_ => 76 + 2 * j_) (pc := 25) (len_s := 1) hk rfl (hk.1 71 4 6 rfl rfl) kg71 (fun c5_s => ?_)
          replace t_s := t_s c5_s
          refine w_t (pc := 26) (e_s := (6, 2, 4, 0, 0, .null, [])) (y_s := (28, [some (.ref _), some (.int _), some (.int _), some (.int _), some (.ref _), none, none], [], _)) rfl (u_ rfl) ?_
          refine w_t (pc := 28) (e_s := (3, 2, 4, 0, 0, .null, [])) (y_s := (30, [some (.ref _), some (.int _), some (.int _), some (.int _), some (.ref _), none, none], [.ref _], _)) rfl (u_ rfl) ?_
          refine w20 (pc := 30) (len_s := 3) rfl ?_
          refine wq1 (pc := 33) (len_s := 3) rfl rfl (fun c6_s => ?_) (fun c6_s => ?_)
          · replace t_s := t_s.1 c6_s
            refine w_t (pc := 36) (e_s := (0, 1, 0, 0, 0, .int 0, [])) (y_s := (37, [some (.ref _), some (.int _), some (.int _), some (.int _), some (.ref _), none, none], [.int _], _)) rfl (u_ rfl) ?_
            exact wrI (pc := 37) (len_s := 1) rfl hk t_s
          · replace t_s := t_s.2 c6_s
            refine w_t (pc := 38) (e_s := (3, 2, 4, 0, 0, .null, [])) (y_s := (40, [some (.ref _), some (.int _), some (.int _), some (.int _), some (.ref _), none, none], [.ref _], _)) rfl (u_ rfl) ?_
            refine wcI (pc := 40) (len_s := 3) rfl rfl (l := [some (.ref _)]) rfl ?_
            refine w_t (pc := 0) (e_s := (3, 1, 0, 0, 0, .null, [])) (y_s := (1, [some (.ref _)], [.ref _], _)) rfl (u_ rfl) ?_
            refine w20 (pc := 1) (len_s := 3) rfl ?_
            refine w_t (pc := 4) (e_s := (0, 1, 0, 0, 0, .int 2, [])) (y_s := (5, [some (.ref _)], [.int _, .int _], _)) rfl (u_ rfl) ?_
            refine wi1 (pc := 5) (len_s := 3) (Y := 2) rfl rfl (by decide) (fun c7_s => ?_) (fun c7_s => ?_)
            · replace t_s := t_s.1 c7_s
              refine w_t (pc := 8) (e_s := (3, 1, 0, 0, 0, .null, [])) (y_s := (9, [some (.ref _)], [.ref _], _)) rfl (u_ rfl) ?_
              refine w20 (pc := 9) (len_s := 3) rfl ?_
              refine wq1 (pc := 12) (len_s := 3) rfl rfl (fun c8_s => ?_) (fun c8_s => ?_)
              · replace t_s := t_s.1 c8_s
                refine w_t (pc := 15) (e_s := (0, 1, 0, 0, 0, .int 1, [])) (y_s := (16, [some (.ref _)], [.int _], _)) rfl (u_ rfl) ?_
                refine w_t (pc := 16) (e_s := (17, 3, 20, 0, 0, .null, [])) (y_s := (20, [some (.ref _)], [.int _], _)) rfl (u_ rfl) ?_
                refine wrI (pc := 20) (len_s := 1) rfl hk ?_
                show wF _ 96 (43, [some (.ref _), some (.int _), some (.int _), some (.int _), some (.ref _), none, none], [.int _], _) _
                refine w_t (pc := 43) (e_s := (15, 3, 49, 1, 0, .null, [])) (y_s := (49, [some (.ref _), some (.int _), some (.int _), some (.int _), some (.ref _), none, none], [], _)) rfl (u_ rfl) ?_
                refine w_t (pc := 49) (e_s := (1, 1, 2, 0, 0, .null, [])) (y_s := (50, [some (.ref _), some (.int _), some (.int _), some (.int _), some (.ref _), none, none], [.int _], _)) rfl (u_ rfl) ?_
                refine wq3 (pc := 50) (len_s := 3) rfl rfl (fun c9_s => ?_) (fun c9_s => ?_)
                · replace t_s := t_s.1 c9_s
                  refine w_t (pc := 53) (e_s := (0, 1, 0, 0, 0, .int 0, [])) (y_s := (54, [some (.ref _), some (.int _), some (.int _), some (.int _), some (.ref _), none, none], [.int _], _)) rfl (u_ rfl) ?_
                  exact wrI (pc := 54) (len_s := 1) rfl hk t_s
                · replace t_s := t_s.2 c9_s
                  refine w_t (pc := 55) (e_s := (0, 1, 0, 0, 0, .int 0, [])) (y_s := (56, [some (.ref _), some (.int _), some (.int _), some (.int _), some (.ref _), none, none], [.int _], _)) rfl (u_ rfl) ?_
                  refine w_t (pc := 56) (e_s := (4, 2, 5, 0, 0, .null, [])) (y_s := (58, [some (.ref _), some (.int _), some (.int _), some (.int _), some (.ref _), some (.int _), none], [], _)) rfl (u_ rfl) ?_
                  refine w_t (pc := 58) (e_s := (1, 1, 2, 0, 0, .null, [])) (y_s := (59, [some (.ref _), some (.int _), some (.int _), some (.int _), some (.ref _), some (.int _), none], [.int _], _)) rfl (u_ rfl) ?_
                  refine w_t (pc := 59) (e_s := (4, 2, 6, 0, 0, .null, [])) (y_s := (61, [some (.ref _), some (.int _), some (.int _), some (.int _), some (.ref _), some (.int _), some (.int _)], [], _)) rfl (u_ rfl) ?_
                  exact t_s
              · replace t_s := t_s.2 c8_s
                refine w_t (pc := 19) (e_s := (0, 1, 0, 0, 0, .int 0, [])) (y_s := (20, [some (.ref _)], [.int _], _)) rfl (u_ rfl) ?_
                refine wrI (pc := 20) (len_s := 1) rfl hk ?_
                show wF _ 96 (43, [some (.ref _), some (.int _), some (.int _), some (.int _), some (.ref _), none, none], [.int _], _) _
                refine w_t (pc := 43) (e_s := (15, 3, 49, 1, 0, .null, [])) (y_s := (46, [some (.ref _), some (.int _), some (.int _), some (.int _), some (.ref _), none, none], [], _)) rfl (u_ rfl) ?_
                refine w_t (pc := 46) (e_s := (0, 2, 0, 0, 0, .int (-12), [])) (y_s := (48, [some (.ref _), some (.int _), some (.int _), some (.int _), some (.ref _), none, none], [.int _], _)) rfl (u_ rfl) ?_
                exact wrI (pc := 48) (len_s := 1) rfl hk t_s
            · replace t_s := t_s.2 c7_s
              refine w_t (pc := 19) (e_s := (0, 1, 0, 0, 0, .int 0, [])) (y_s := (20, [some (.ref _)], [.int _], _)) rfl (u_ rfl) ?_
              refine wrI (pc := 20) (len_s := 1) rfl hk ?_
              show wF _ 96 (43, [some (.ref _), some (.int _), some (.int _), some (.int _), some (.ref _), none, none], [.int _], _) _
              refine w_t (pc := 43) (e_s := (15, 3, 49, 1, 0, .null, [])) (y_s := (46, [some (.ref _), some (.int _), some (.int _), some (.int _), some (.ref _), none, none], [], _)) rfl (u_ rfl) ?_
              refine w_t (pc := 46) (e_s := (0, 2, 0, 0, 0, .int (-12), [])) (y_s := (48, [some (.ref _), some (.int _), some (.int _), some (.int _), some (.ref _), none, none], [.int _], _)) rfl (u_ rfl) ?_
              exact wrI (pc := 48) (len_s := 1) rfl hk t_s
    · replace t_s := t_s.2 c2_s
      refine w_t (pc := 14) (e_s := (0, 1, 0, 0, 0, .int 0, [])) (y_s := (15, [some (.int _)], [.int _], _)) rfl (u_ rfl) ?_
      refine wrI (pc := 15) (len_s := 1) rfl hk ?_
      show wF _ 96 (4, [some (.ref _), some (.int _), some (.int _), some (.int _), none, none, none], [.int _], _) _
      refine w_t (pc := 4) (e_s := (15, 3, 18, 0, 0, .null, [])) (y_s := (18, [some (.ref _), some (.int _), some (.int _), some (.int _), none, none, none], [], _)) rfl (u_ rfl) ?_
      refine w_t (pc := 18) (e_s := (0, 1, 0, 0, 0, .int (-1), [])) (y_s := (19, [some (.ref _), some (.int _), some (.int _), some (.int _), none, none, none], [.int _], _)) rfl (u_ rfl) ?_
      exact wrI (pc := 19) (len_s := 1) rfl hk t_s
/-- ColdShod.roads(III)I, from 61 on -/
theorem sg_96_61 {F_s : Nat} {d_s : Nat} {x1_s x2_s x3 x5_s x6 : Int32} {h_s : zH} {K_s : Int32 → zH → Prop} (hd_s : d_s < 6) (hk : hKn h_s) (t_s : (x5_s.toInt < x3.toInt → ((x6.toInt < ((h_s.2.1 (76 + 2 * d_s) 3) - 2).toInt → (zix x6 < 60 → (zix (x6 + 1) < 60 → (zix (x6 + 2) < 60 → ((h_s.2.2.1 (76 + 2 * d_s + 1) (zix x6)).toInt < 0 → K_s x5_s h_s) ∧ (¬ (h_s.2.2.1 (76 + 2 * d_s + 1) (zix x6)).toInt < 0 → (((h_s.2.2.1 (76 + 2 * d_s + 1) (zix x6)).toInt < 8 → (((h_s.2.2.1 (76 + 2 * d_s + 1) (zix (x6 + 1))).toInt < 0 → K_s x5_s h_s) ∧ (¬ (h_s.2.2.1 (76 + 2 * d_s + 1) (zix (x6 + 1))).toInt < 0 → (((h_s.2.2.1 (76 + 2 * d_s + 1) (zix (x6 + 1))).toInt < 8 → (((h_s.2.2.1 (76 + 2 * d_s + 1) (zix x6)).toInt = (h_s.2.2.1 (76 + 2 * d_s + 1) (zix (x6 + 1))).toInt → K_s x5_s h_s) ∧ (¬ (h_s.2.2.1 (76 + 2 * d_s + 1) (zix x6)).toInt = (h_s.2.2.1 (76 + 2 * d_s + 1) (zix (x6 + 1))).toInt → (((h_s.2.2.1 (76 + 2 * d_s + 1) (zix (x6 + 2))).toInt < 1 → K_s x5_s h_s) ∧ (¬ (h_s.2.2.1 (76 + 2 * d_s + 1) (zix (x6 + 2))).toInt < 1 → ((9 < (h_s.2.2.1 (76 + 2 * d_s + 1) (zix (x6 + 2))).toInt → K_s x5_s h_s) ∧ (¬ 9 < (h_s.2.2.1 (76 + 2 * d_s + 1) (zix (x6 + 2))).toInt → (((h_s.2.1 7 8).toInt < 12 → (zix (h_s.2.1 7 8) < 12 → (((zup (zup (zup h_s.2.1 (28 + (zix (h_s.2.1 7 8))) 0 ((h_s.2.2.1 (76 + 2 * d_s + 1) (zix x6)).toInt32)) (28 + (zix (h_s.2.1 7 8))) 1 ((h_s.2.2.1 (76 + 2 * d_s + 1) (zix (x6 + 1))).toInt32)) (28 + (zix (h_s.2.1 7 8))) 2 ((h_s.2.2.1 (76 + 2 * d_s + 1) (zix (x6 + 2))).toInt32)) 7 8).toInt < 0 → K_s x5_s (h_s.1, zup (zup (zup (zup h_s.2.1 (28 + (zix (h_s.2.1 7 8))) 0 ((h_s.2.2.1 (76 + 2 * d_s + 1) (zix x6)).toInt32)) (28 + (zix (h_s.2.1 7 8))) 1 ((h_s.2.2.1 (76 + 2 * d_s + 1) (zix (x6 + 1))).toInt32)) (28 + (zix (h_s.2.1 7 8))) 2 ((h_s.2.2.1 (76 + 2 * d_s + 1) (zix (x6 + 2))).toInt32)) 7 8 (((zup (zup (zup h_s.2.1 (28 + (zix (h_s.2.1 7 8))) 0 ((h_s.2.2.1 (76 + 2 * d_s + 1) (zix x6)).toInt32)) (28 + (zix (h_s.2.1 7 8))) 1 ((h_s.2.2.1 (76 + 2 * d_s + 1) (zix (x6 + 1))).toInt32)) (28 + (zix (h_s.2.1 7 8))) 2 ((h_s.2.2.1 (76 + 2 * d_s + 1) (zix (x6 + 2))).toInt32)) 7 8) + 1), h_s.2.2.1, h_s.2.2.2)) ∧ (¬ ((zup (zup (zup h_s.2.1 (28 + (zix (h_s.2.1 7 8))) 0 ((h_s.2.2.1 (76 + 2 * d_s + 1) (zix x6)).toInt32)) (28 + (zix (h_s.2.1 7 8))) 1 ((h_s.2.2.1 (76 + 2 * d_s + 1) (zix (x6 + 1))).toInt32)) (28 + (zix (h_s.2.1 7 8))) 2 ((h_s.2.2.1 (76 + 2 * d_s + 1) (zix (x6 + 2))).toInt32)) 7 8).toInt < 0 → wF F_s 96 (61, [some (.ref 6), some (.int x1_s), some (.int x2_s), some (.int x3), some (.ref (76 + 2 * d_s)), some (.int (x5_s + 1)), some (.int (x6 + 3))], [], (h_s.1, zup (zup (zup (zup h_s.2.1 (28 + (zix (h_s.2.1 7 8))) 0 ((h_s.2.2.1 (76 + 2 * d_s + 1) (zix x6)).toInt32)) (28 + (zix (h_s.2.1 7 8))) 1 ((h_s.2.2.1 (76 + 2 * d_s + 1) (zix (x6 + 1))).toInt32)) (28 + (zix (h_s.2.1 7 8))) 2 ((h_s.2.2.1 (76 + 2 * d_s + 1) (zix (x6 + 2))).toInt32)) 7 8 (((zup (zup (zup h_s.2.1 (28 + (zix (h_s.2.1 7 8))) 0 ((h_s.2.2.1 (76 + 2 * d_s + 1) (zix x6)).toInt32)) (28 + (zix (h_s.2.1 7 8))) 1 ((h_s.2.2.1 (76 + 2 * d_s + 1) (zix (x6 + 1))).toInt32)) (28 + (zix (h_s.2.1 7 8))) 2 ((h_s.2.2.1 (76 + 2 * d_s + 1) (zix (x6 + 2))).toInt32)) 7 8) + 1), h_s.2.2.1, h_s.2.2.2)) (gI K_s)))) ∧ (¬ (h_s.2.1 7 8).toInt < 12 → K_s x5_s h_s))))))))) ∧ (¬ (h_s.2.2.1 (76 + 2 * d_s + 1) (zix (x6 + 1))).toInt < 8 → K_s x5_s h_s))))) ∧ (¬ (h_s.2.2.1 (76 + 2 * d_s + 1) (zix x6)).toInt < 8 → K_s x5_s h_s))))))) ∧ (¬ x6.toInt < ((h_s.2.1 (76 + 2 * d_s) 3) - 2).toInt → K_s x5_s h_s))) ∧ (¬ x5_s.toInt < x3.toInt → K_s x5_s h_s)) : wF (F_s + 1) 96 (61, [some (.ref 6), some (.int x1_s), some (.int x2_s), some (.int x3), some (.ref (76 + 2 * d_s)), some (.int x5_s), some (.int x6)], [], h_s) (gI K_s) := by
  refine w_0 (pc := 61) (e_s := (1, 2, 5, 0, 0, .null, [])) (y_s := (63, [some (.ref _), some (.int _), some (.int _), some (.int _), some (.ref _), some (.int _), some (.int _)], [.int _], _)) rfl (u_ rfl) ?_
  refine w_t (pc := 63) (e_s := (1, 1, 3, 0, 0, .null, [])) (y_s := (64, [some (.ref _), some (.int _), some (.int _), some (.int _), some (.ref _), some (.int _), some (.int _)], [.int _, .int _], _)) rfl (u_ rfl) ?_
  refine wi3 (pc := 64) (len_s := 3) rfl rfl rfl (fun c1_s => ?_) (fun c1_s => ?_)
  · replace t_s := t_s.1 c1_s
    refine w_t (pc := 67) (e_s := (1, 2, 6, 0, 0, .null, [])) (y_s := (69, [some (.ref _), some (.int _), some (.int _), some (.int _), some (.ref _), some (.int _), some (.int _)], [.int _], _)) rfl (u_ rfl) ?_
    refine w_t (pc := 69) (e_s := (3, 2, 4, 0, 0, .null, [])) (y_s := (71, [some (.ref _), some (.int _), some (.int _), some (.int _), some (.ref _), some (.int _), some (.int _)], [.ref _, .int _], _)) rfl (u_ rfl) ?_
    refine w20 (pc := 71) (len_s := 3) rfl ?_
    refine w_t (pc := 74) (e_s := (0, 1, 0, 0, 0, .int 2, [])) (y_s := (75, [some (.ref _), some (.int _), some (.int _), some (.int _), some (.ref _), some (.int _), some (.int _)], [.int _, .int _, .int _], _)) rfl (u_ rfl) ?_
    refine w_t (pc := 75) (e_s := (7, 1, 0, 1, 0, .null, [])) (y_s := (76, [some (.ref _), some (.int _), some (.int _), some (.int _), some (.ref _), some (.int _), some (.int _)], [.int (_ - _), .int _], _)) rfl (u_ rfl) ?_
    refine wi3 (pc := 76) (len_s := 3) rfl rfl rfl (fun c2_s => ?_) (fun c2_s => ?_)
    · replace t_s := t_s.1 c2_s
      refine w_t (pc := 79) (e_s := (3, 1, 0, 0, 0, .null, [])) (y_s := (80, [some (.ref _), some (.int _), some (.int _), some (.int _), some (.ref _), some (.int _), some (.int _)], [.ref _], _)) rfl (u_ rfl) ?_
      refine w_t (pc := 80) (e_s := (3, 2, 4, 0, 0, .null, [])) (y_s := (82, [some (.ref _), some (.int _), some (.int _), some (.int _), some (.ref _), some (.int _), some (.int _)], [.ref _, .ref _], _)) rfl (u_ rfl) ?_
      refine w_t (pc := 82) (e_s := (1, 2, 6, 0, 0, .null, [])) (y_s := (84, [some (.ref _), some (.int _), some (.int _), some (.int _), some (.ref _), some (.int _), some (.int _)], [.int _, .ref _, .ref _], _)) rfl (u_ rfl) ?_
      refine wcI (pc := 84) (len_s := 3) rfl rfl (l := [some (.ref _), some (.ref _), some (.int _), none, none, none, none, none, none]) rfl ?_
      refine w_t (pc := 0) (e_s := (3, 1, 1, 0, 0, .null, [])) (y_s := (1, [some (.ref _), some (.ref _), some (.int _), none, none, none, none, none, none], [.ref _], _)) rfl (u_ rfl) ?_
      refine w20r (pc := 1) (len_s := 3) (q_s := 76 + 2 * d_s + 1) rfl (kshc hk hd_s) ?_
      refine w_t (pc := 4) (e_s := (1, 1, 2, 0, 0, .null, [])) (y_s := (5, [some (.ref _), some (.ref _), some (.int _), none, none, none, none, none, none], [.int _, .ref _], _)) rfl (u_ rfl) ?_
      refine w23 (pc := 5) (len_s := 1) rfl (kshz hk hd_s) (fun c3_s => ?_)
      replace t_s := t_s c3_s
      refine w_t (pc := 6) (e_s := (5, 1, 3, 0, 0, .null, [])) (y_s := (7, [some (.ref _), some (.ref _), some (.int _), some (.long _), none, none, none, none, none], [], _)) rfl (u_ rfl) ?_
      refine w_t (pc := 7) (e_s := (3, 1, 1, 0, 0, .null, [])) (y_s := (8, [some (.ref _), some (.ref _), some (.int _), some (.long _), none, none, none, none, none], [.ref _], _)) rfl (u_ rfl) ?_
      refine w20r (pc := 8) (len_s := 3) (q_s := 76 + 2 * d_s + 1) rfl (kshc hk hd_s) ?_
      refine w_t (pc := 11) (e_s := (1, 1, 2, 0, 0, .null, [])) (y_s := (12, [some (.ref _), some (.ref _), some (.int _), some (.long _), none, none, none, none, none], [.int _, .ref _], _)) rfl (u_ rfl) ?_
      refine w_t (pc := 12) (e_s := (0, 1, 0, 0, 0, .int 1, [])) (y_s := (13, [some (.ref _), some (.ref _), some (.int _), some (.long _), none, none, none, none, none], [.int _, .int _, .ref _], _)) rfl (u_ rfl) ?_
      refine w_t (pc := 13) (e_s := (7, 1, 0, 0, 0, .null, [])) (y_s := (14, [some (.ref _), some (.ref _), some (.int _), some (.long _), none, none, none, none, none], [.int (_ + _), .ref _], _)) rfl (u_ rfl) ?_
      refine w23 (pc := 14) (len_s := 1) rfl (kshz hk hd_s) (fun c4_s => ?_)
      replace t_s := t_s c4_s
      refine w_t (pc := 15) (e_s := (5, 2, 5, 0, 0, .null, [])) (y_s := (17, [some (.ref _), some (.ref _), some (.int _), some (.long _), none, some (.long _), none, none, none], [], _)) rfl (u_ rfl) ?_
      refine w_t (pc := 17) (e_s := (3, 1, 1, 0, 0, .null, [])) (y_s := (18, [some (.ref _), some (.ref _), some (.int _), some (.long _), none, some (.long _), none, none, none], [.ref _], _)) rfl (u_ rfl) ?_
      refine w20r (pc := 18) (len_s := 3) (q_s := 76 + 2 * d_s + 1) rfl (kshc hk hd_s) ?_
      refine w_t (pc := 21) (e_s := (1, 1, 2, 0, 0, .null, [])) (y_s := (22, [some (.ref _), some (.ref _), some (.int _), some (.long _), none, some (.long _), none, none, none], [.int _, .ref _], _)) rfl (u_ rfl) ?_
      refine w_t (pc := 22) (e_s := (0, 1, 0, 0, 0, .int 2, [])) (y_s := (23, [some (.ref _), some (.ref _), some (.int _), some (.long _), none, some (.long _), none, none, none], [.int _, .int _, .ref _], _)) rfl (u_ rfl) ?_
      refine w_t (pc := 23) (e_s := (7, 1, 0, 0, 0, .null, [])) (y_s := (24, [some (.ref _), some (.ref _), some (.int _), some (.long _), none, some (.long _), none, none, none], [.int (_ + _), .ref _], _)) rfl (u_ rfl) ?_
      refine w23 (pc := 24) (len_s := 1) rfl (kshz hk hd_s) (fun c5_s => ?_)
      replace t_s := t_s c5_s
      refine w_t (pc := 25) (e_s := (5, 2, 7, 0, 0, .null, [])) (y_s := (27, [some (.ref _), some (.ref _), some (.int _), some (.long _), none, some (.long _), none, some (.long _), none], [], _)) rfl (u_ rfl) ?_
      refine w_t (pc := 27) (e_s := (2, 1, 3, 0, 0, .null, [])) (y_s := (28, [some (.ref _), some (.ref _), some (.int _), some (.long _), none, some (.long _), none, some (.long _), none], [.long _], _)) rfl (u_ rfl) ?_
      refine wcI (pc := 28) (len_s := 3) rfl rfl (l := [some (.long _), none]) rfl ?_
      refine w_t (pc := 0) (e_s := (2, 1, 0, 0, 0, .null, [])) (y_s := (1, [some (.long _), none], [.long _], _)) rfl (u_ rfl) ?_
      refine w_t (pc := 1) (e_s := (0, 1, 0, 0, 0, .long 0, [])) (y_s := (2, [some (.long _), none], [.long _, .long _], _)) rfl (u_ rfl) ?_
      refine w_t (pc := 2) (e_s := (14, 1, 0, 0, 0, .null, [])) (y_s := (3, [some (.long _), none], [.int (lg_cmp _ _)], _)) rfl (u_ rfl) ?_
      refine wl2 (pc := 3) (len_s := 3) (Y := 0) rfl rfl (by decide) (fun c6_s => ?_) (fun c6_s => ?_)
      · replace t_s := t_s.1 c6_s
        refine w_t (pc := 18) (e_s := (0, 1, 0, 0, 0, .int 0, [])) (y_s := (19, [some (.long _), none], [.int _], _)) rfl (u_ rfl) ?_
        refine wrI (pc := 19) (len_s := 1) rfl hk ?_
        show wF _ 97 (31, [some (.ref _), some (.ref _), some (.int _), some (.long _), none, some (.long _), none, some (.long _), none], [.int _], _) _
        refine w_t (pc := 31) (e_s := (15, 3, 65, 0, 0, .null, [])) (y_s := (65, [some (.ref _), some (.ref _), some (.int _), some (.long _), none, some (.long _), none, some (.long _), none], [], _)) rfl (u_ rfl) ?_
        refine w_t (pc := 65) (e_s := (0, 1, 0, 0, 0, .int 0, [])) (y_s := (66, [some (.ref _), some (.ref _), some (.int _), some (.long _), none, some (.long _), none, some (.long _), none], [.int _], _)) rfl (u_ rfl) ?_
        refine wrI (pc := 66) (len_s := 1) rfl hk ?_
        show wF _ 96 (87, [some (.ref _), some (.int _), some (.int _), some (.int _), some (.ref _), some (.int _), some (.int _)], [.int _], _) _
        refine w_t (pc := 87) (e_s := (15, 3, 93, 1, 0, .null, [])) (y_s := (90, [some (.ref _), some (.int _), some (.int _), some (.int _), some (.ref _), some (.int _), some (.int _)], [], _)) rfl (u_ rfl) ?_
        refine w_t (pc := 90) (e_s := (1, 2, 5, 0, 0, .null, [])) (y_s := (92, [some (.ref _), some (.int _), some (.int _), some (.int _), some (.ref _), some (.int _), some (.int _)], [.int _], _)) rfl (u_ rfl) ?_
        exact wrI (pc := 92) (len_s := 1) rfl hk t_s
      · replace t_s := t_s.2 c6_s
        refine w_t (pc := 6) (e_s := (2, 1, 0, 0, 0, .null, [])) (y_s := (7, [some (.long _), none], [.long _], _)) rfl (u_ rfl) ?_
        refine w_t (pc := 7) (e_s := (0, 3, 0, 0, 0, .long 8, [(0, 1028)])) (y_s := (10, [some (.long _), none], [.long _, .long _], _)) rfl (u_ rfl) ?_
        refine w_t (pc := 10) (e_s := (14, 1, 0, 0, 0, .null, [])) (y_s := (11, [some (.long _), none], [.int (lg_cmp _ _)], _)) rfl (u_ rfl) ?_
        refine wl3 (pc := 11) (len_s := 3) (Y := 8) rfl rfl (by decide) (fun c7_s => ?_) (fun c7_s => ?_)
        · replace t_s := t_s.1 c7_s
          refine w_t (pc := 14) (e_s := (0, 1, 0, 0, 0, .int 1, [])) (y_s := (15, [some (.long _), none], [.int _], _)) rfl (u_ rfl) ?_
          refine w_t (pc := 15) (e_s := (17, 3, 19, 0, 0, .null, [])) (y_s := (19, [some (.long _), none], [.int _], _)) rfl (u_ rfl) ?_
          refine wrI (pc := 19) (len_s := 1) rfl hk ?_
          show wF _ 97 (31, [some (.ref _), some (.ref _), some (.int _), some (.long _), none, some (.long _), none, some (.long _), none], [.int _], _) _
          refine w_t (pc := 31) (e_s := (15, 3, 65, 0, 0, .null, [])) (y_s := (34, [some (.ref _), some (.ref _), some (.int _), some (.long _), none, some (.long _), none, some (.long _), none], [], _)) rfl (u_ rfl) ?_
          refine w_t (pc := 34) (e_s := (2, 2, 5, 0, 0, .null, [])) (y_s := (36, [some (.ref _), some (.ref _), some (.int _), some (.long _), none, some (.long _), none, some (.long _), none], [.long _], _)) rfl (u_ rfl) ?_
          refine wcI (pc := 36) (len_s := 3) rfl rfl (l := [some (.long _), none]) rfl ?_
          refine w_t (pc := 0) (e_s := (2, 1, 0, 0, 0, .null, [])) (y_s := (1, [some (.long _), none], [.long _], _)) rfl (u_ rfl) ?_
          refine w_t (pc := 1) (e_s := (0, 1, 0, 0, 0, .long 0, [])) (y_s := (2, [some (.long _), none], [.long _, .long _], _)) rfl (u_ rfl) ?_
          refine w_t (pc := 2) (e_s := (14, 1, 0, 0, 0, .null, [])) (y_s := (3, [some (.long _), none], [.int (lg_cmp _ _)], _)) rfl (u_ rfl) ?_
          refine wl2 (pc := 3) (len_s := 3) (Y := 0) rfl rfl (by decide) (fun c8_s => ?_) (fun c8_s => ?_)
          · replace t_s := t_s.1 c8_s
            refine w_t (pc := 18) (e_s := (0, 1, 0, 0, 0, .int 0, [])) (y_s := (19, [some (.long _), none], [.int _], _)) rfl (u_ rfl) ?_
            refine wrI (pc := 19) (len_s := 1) rfl hk ?_
            show wF _ 97 (39, [some (.ref _), some (.ref _), some (.int _), some (.long _), none, some (.long _), none, some (.long _), none], [.int _], _) _
            refine w_t (pc := 39) (e_s := (15, 3, 65, 0, 0, .null, [])) (y_s := (65, [some (.ref _), some (.ref _), some (.int _), some (.long _), none, some (.long _), none, some (.long _), none], [], _)) rfl (u_ rfl) ?_
            refine w_t (pc := 65) (e_s := (0, 1, 0, 0, 0, .int 0, [])) (y_s := (66, [some (.ref _), some (.ref _), some (.int _), some (.long _), none, some (.long _), none, some (.long _), none], [.int _], _)) rfl (u_ rfl) ?_
            refine wrI (pc := 66) (len_s := 1) rfl hk ?_
            show wF _ 96 (87, [some (.ref _), some (.int _), some (.int _), some (.int _), some (.ref _), some (.int _), some (.int _)], [.int _], _) _
            refine w_t (pc := 87) (e_s := (15, 3, 93, 1, 0, .null, [])) (y_s := (90, [some (.ref _), some (.int _), some (.int _), some (.int _), some (.ref _), some (.int _), some (.int _)], [], _)) rfl (u_ rfl) ?_
            refine w_t (pc := 90) (e_s := (1, 2, 5, 0, 0, .null, [])) (y_s := (92, [some (.ref _), some (.int _), some (.int _), some (.int _), some (.ref _), some (.int _), some (.int _)], [.int _], _)) rfl (u_ rfl) ?_
            exact wrI (pc := 92) (len_s := 1) rfl hk t_s
          · replace t_s := t_s.2 c8_s
            refine w_t (pc := 6) (e_s := (2, 1, 0, 0, 0, .null, [])) (y_s := (7, [some (.long _), none], [.long _], _)) rfl (u_ rfl) ?_
            refine w_t (pc := 7) (e_s := (0, 3, 0, 0, 0, .long 8, [(0, 1028)])) (y_s := (10, [some (.long _), none], [.long _, .long _], _)) rfl (u_ rfl) ?_
            refine w_t (pc := 10) (e_s := (14, 1, 0, 0, 0, .null, [])) (y_s := (11, [some (.long _), none], [.int (lg_cmp _ _)], _)) rfl (u_ rfl) ?_
            refine wl3 (pc := 11) (len_s := 3) (Y := 8) rfl rfl (by decide) (fun c9_s => ?_) (fun c9_s => ?_)
            · replace t_s := t_s.1 c9_s
              refine w_t (pc := 14) (e_s := (0, 1, 0, 0, 0, .int 1, [])) (y_s := (15, [some (.long _), none], [.int _], _)) rfl (u_ rfl) ?_
              refine w_t (pc := 15) (e_s := (17, 3, 19, 0, 0, .null, [])) (y_s := (19, [some (.long _), none], [.int _], _)) rfl (u_ rfl) ?_
              refine wrI (pc := 19) (len_s := 1) rfl hk ?_
              show wF _ 97 (39, [some (.ref _), some (.ref _), some (.int _), some (.long _), none, some (.long _), none, some (.long _), none], [.int _], _) _
              refine w_t (pc := 39) (e_s := (15, 3, 65, 0, 0, .null, [])) (y_s := (42, [some (.ref _), some (.ref _), some (.int _), some (.long _), none, some (.long _), none, some (.long _), none], [], _)) rfl (u_ rfl) ?_
              refine w_t (pc := 42) (e_s := (2, 1, 3, 0, 0, .null, [])) (y_s := (43, [some (.ref _), some (.ref _), some (.int _), some (.long _), none, some (.long _), none, some (.long _), none], [.long _], _)) rfl (u_ rfl) ?_
              refine w_t (pc := 43) (e_s := (2, 2, 5, 0, 0, .null, [])) (y_s := (45, [some (.ref _), some (.ref _), some (.int _), some (.long _), none, some (.long _), none, some (.long _), none], [.long _, .long _], _)) rfl (u_ rfl) ?_
              refine w_t (pc := 45) (e_s := (14, 1, 0, 0, 0, .null, [])) (y_s := (46, [some (.ref _), some (.ref _), some (.int _), some (.long _), none, some (.long _), none, some (.long _), none], [.int (lg_cmp _ _)], _)) rfl (u_ rfl) ?_
              refine wl0 (pc := 46) (len_s := 3) rfl rfl rfl (fun c10_s => ?_) (fun c10_s => ?_)
              · replace t_s := t_s.1 c10_s
                refine w_t (pc := 65) (e_s := (0, 1, 0, 0, 0, .int 0, [])) (y_s := (66, [some (.ref _), some (.ref _), some (.int _), some (.long _), none, some (.long _), none, some (.long _), none], [.int _], _)) rfl (u_ rfl) ?_
                refine wrI (pc := 66) (len_s := 1) rfl hk ?_
                show wF _ 96 (87, [some (.ref _), some (.int _), some (.int _), some (.int _), some (.ref _), some (.int _), some (.int _)], [.int _], _) _
                refine w_t (pc := 87) (e_s := (15, 3, 93, 1, 0, .null, [])) (y_s := (90, [some (.ref _), some (.int _), some (.int _), some (.int _), some (.ref _), some (.int _), some (.int _)], [], _)) rfl (u_ rfl) ?_
                refine w_t (pc := 90) (e_s := (1, 2, 5, 0, 0, .null, [])) (y_s := (92, [some (.ref _), some (.int _), some (.int _), some (.int _), some (.ref _), some (.int _), some (.int _)], [.int _], _)) rfl (u_ rfl) ?_
                exact wrI (pc := 92) (len_s := 1) rfl hk t_s
              · replace t_s := t_s.2 c10_s
                refine w_t (pc := 49) (e_s := (2, 2, 7, 0, 0, .null, [])) (y_s := (51, [some (.ref _), some (.ref _), some (.int _), some (.long _), none, some (.long _), none, some (.long _), none], [.long _], _)) rfl (u_ rfl) ?_
                refine w_t (pc := 51) (e_s := (0, 1, 0, 0, 0, .long 1, [])) (y_s := (52, [some (.ref _), some (.ref _), some (.int _), some (.long _), none, some (.long _), none, some (.long _), none], [.long _, .long _], _)) rfl (u_ rfl) ?_
                refine w_t (pc := 52) (e_s := (14, 1, 0, 0, 0, .null, [])) (y_s := (53, [some (.ref _), some (.ref _), some (.int _), some (.long _), none, some (.long _), none, some (.long _), none], [.int (lg_cmp _ _)], _)) rfl (u_ rfl) ?_
                refine wl2 (pc := 53) (len_s := 3) (Y := 1) rfl rfl (by decide) (fun c11_s => ?_) (fun c11_s => ?_)
                · replace t_s := t_s.1 c11_s
                  refine w_t (pc := 65) (e_s := (0, 1, 0, 0, 0, .int 0, [])) (y_s := (66, [some (.ref _), some (.ref _), some (.int _), some (.long _), none, some (.long _), none, some (.long _), none], [.int _], _)) rfl (u_ rfl) ?_
                  refine wrI (pc := 66) (len_s := 1) rfl hk ?_
                  show wF _ 96 (87, [some (.ref _), some (.int _), some (.int _), some (.int _), some (.ref _), some (.int _), some (.int _)], [.int _], _) _
                  refine w_t (pc := 87) (e_s := (15, 3, 93, 1, 0, .null, [])) (y_s := (90, [some (.ref _), some (.int _), some (.int _), some (.int _), some (.ref _), some (.int _), some (.int _)], [], _)) rfl (u_ rfl) ?_
                  refine w_t (pc := 90) (e_s := (1, 2, 5, 0, 0, .null, [])) (y_s := (92, [some (.ref _), some (.int _), some (.int _), some (.int _), some (.ref _), some (.int _), some (.int _)], [.int _], _)) rfl (u_ rfl) ?_
                  exact wrI (pc := 92) (len_s := 1) rfl hk t_s
                · replace t_s := t_s.2 c11_s
                  refine w_t (pc := 56) (e_s := (2, 2, 7, 0, 0, .null, [])) (y_s := (58, [some (.ref _), some (.ref _), some (.int _), some (.long _), none, some (.long _), none, some (.long _), none], [.long _], _)) rfl (u_ rfl) ?_
                  refine w_t (pc := 58) (e_s := (0, 3, 0, 0, 0, .long 9, [(0, 946)])) (y_s := (61, [some (.ref _), some (.ref _), some (.int _), some (.long _), none, some (.long _), none, some (.long _), none], [.long _, .long _], _)) rfl (u_ rfl) ?_
                  refine w_t (pc := 61) (e_s := (14, 1, 0, 0, 0, .null, [])) (y_s := (62, [some (.ref _), some (.ref _), some (.int _), some (.long _), none, some (.long _), none, some (.long _), none], [.int (lg_cmp _ _)], _)) rfl (u_ rfl) ?_
                  refine wl5 (pc := 62) (len_s := 3) (Y := 9) rfl rfl (by decide) (fun c12_s => ?_) (fun c12_s => ?_)
                  · replace t_s := t_s.1 c12_s
                    refine w_t (pc := 65) (e_s := (0, 1, 0, 0, 0, .int 0, [])) (y_s := (66, [some (.ref _), some (.ref _), some (.int _), some (.long _), none, some (.long _), none, some (.long _), none], [.int _], _)) rfl (u_ rfl) ?_
                    refine wrI (pc := 66) (len_s := 1) rfl hk ?_
                    show wF _ 96 (87, [some (.ref _), some (.int _), some (.int _), some (.int _), some (.ref _), some (.int _), some (.int _)], [.int _], _) _
                    refine w_t (pc := 87) (e_s := (15, 3, 93, 1, 0, .null, [])) (y_s := (90, [some (.ref _), some (.int _), some (.int _), some (.int _), some (.ref _), some (.int _), some (.int _)], [], _)) rfl (u_ rfl) ?_
                    refine w_t (pc := 90) (e_s := (1, 2, 5, 0, 0, .null, [])) (y_s := (92, [some (.ref _), some (.int _), some (.int _), some (.int _), some (.ref _), some (.int _), some (.int _)], [.int _], _)) rfl (u_ rfl) ?_
                    exact wrI (pc := 92) (len_s := 1) rfl hk t_s
                  · replace t_s := t_s.2 c12_s
                    refine w_t (pc := 67) (e_s := (3, 1, 0, 0, 0, .null, [])) (y_s := (68, [some (.ref _), some (.ref _), some (.int _), some (.long _), none, some (.long _), none, some (.long _), none], [.ref _], _)) rfl (u_ rfl) ?_
                    refine w20r (pc := 68) (len_s := 3) (q_s := 7) rfl (krq hk rfl) ?_
                    refine w_t (pc := 71) (e_s := (2, 1, 3, 0, 0, .null, [])) (y_s := (72, [some (.ref _), some (.ref _), some (.int _), some (.long _), none, some (.long _), none, some (.long _), none], [.long _, .ref _], _)) rfl (u_ rfl) ?_
                    refine w_t (pc := 72) (e_s := (11, 1, 0, 0, 0, .null, [])) (y_s := (73, [some (.ref _), some (.ref _), some (.int _), some (.long _), none, some (.long _), none, some (.long _), none], [.int (Int64.toInt32 _), .ref _], _)) rfl (u_ rfl) ?_
                    refine w_t (pc := 73) (e_s := (2, 2, 5, 0, 0, .null, [])) (y_s := (75, [some (.ref _), some (.ref _), some (.int _), some (.long _), none, some (.long _), none, some (.long _), none], [.long _, .int _, .ref _], _)) rfl (u_ rfl) ?_
                    refine w_t (pc := 75) (e_s := (11, 1, 0, 0, 0, .null, [])) (y_s := (76, [some (.ref _), some (.ref _), some (.int _), some (.long _), none, some (.long _), none, some (.long _), none], [.int (Int64.toInt32 _), .int _, .ref _], _)) rfl (u_ rfl) ?_
                    refine w_t (pc := 76) (e_s := (2, 2, 7, 0, 0, .null, [])) (y_s := (78, [some (.ref _), some (.ref _), some (.int _), some (.long _), none, some (.long _), none, some (.long _), none], [.long _, .int _, .int _, .ref _], _)) rfl (u_ rfl) ?_
                    refine w_t (pc := 78) (e_s := (11, 1, 0, 0, 0, .null, [])) (y_s := (79, [some (.ref _), some (.ref _), some (.int _), some (.long _), none, some (.long _), none, some (.long _), none], [.int (Int64.toInt32 _), .int _, .int _, .ref _], _)) rfl (u_ rfl) ?_
                    refine wcI (pc := 79) (len_s := 3) rfl rfl (l := [some (.ref _), some (.int _), some (.int _), some (.int _), none]) rfl ?_
                    refine w_t (pc := 0) (e_s := (3, 1, 0, 0, 0, .null, [])) (y_s := (1, [some (.ref _), some (.int _), some (.int _), some (.int _), none], [.ref _], _)) rfl (u_ rfl) ?_
                    refine w20 (pc := 1) (len_s := 3) rfl ?_
                    refine w_t (pc := 4) (e_s := (0, 2, 0, 0, 0, .int 12, [])) (y_s := (6, [some (.ref _), some (.int _), some (.int _), some (.int _), none], [.int _, .int _], _)) rfl (u_ rfl) ?_
                    refine wi2 (pc := 6) (len_s := 3) (Y := 12) rfl rfl (by decide) (fun c13_s => ?_) (fun c13_s => ?_)
                    · replace t_s := t_s.1 c13_s
                      refine w_t (pc := 12) (e_s := (3, 1, 0, 0, 0, .null, [])) (y_s := (13, [some (.ref _), some (.int _), some (.int _), some (.int _), none], [.ref _], _)) rfl (u_ rfl) ?_
                      refine w20r (pc := 13) (len_s := 3) (q_s := 11) rfl (krq hk rfl) ?_
                      refine w_t (pc := 16) (e_s := (3, 1, 0, 0, 0, .null, [])) (y_s := (17, [some (.ref _), some (.int _), some (.int _), some (.int _), none], [.ref _, .ref _], _)) rfl (u_ rfl) ?_
                      refine w20 (pc := 17) (len_s := 3) rfl ?_
                      refine w24 (g_s := fun j_ => 28 + j_) (pc := 20) (len_s := 1) hk rfl (hk.1 11 3 12 rfl rfl) kg11 (fun c14_s => ?_)
                      replace t_s := t_s c14_s
                      refine w_t (pc := 21) (e_s := (6, 2, 4, 0, 0, .null, [])) (y_s := (23, [some (.ref _), some (.int _), some (.int _), some (.int _), some (.ref _)], [], _)) rfl (u_ rfl) ?_
                      refine w_t (pc := 23) (e_s := (3, 2, 4, 0, 0, .null, [])) (y_s := (25, [some (.ref _), some (.int _), some (.int _), some (.int _), some (.ref _)], [.ref _], _)) rfl (u_ rfl) ?_
                      refine w_t (pc := 25) (e_s := (1, 1, 1, 0, 0, .null, [])) (y_s := (26, [some (.ref _), some (.int _), some (.int _), some (.int _), some (.ref _)], [.int _, .ref _], _)) rfl (u_ rfl) ?_
                      refine w21 (pc := 26) (len_s := 3) rfl ?_
                      refine w_t (pc := 29) (e_s := (3, 2, 4, 0, 0, .null, [])) (y_s := (31, [some (.ref _), some (.int _), some (.int _), some (.int _), some (.ref _)], [.ref _], _)) rfl (u_ rfl) ?_
                      refine w_t (pc := 31) (e_s := (1, 1, 2, 0, 0, .null, [])) (y_s := (32, [some (.ref _), some (.int _), some (.int _), some (.int _), some (.ref _)], [.int _, .ref _], _)) rfl (u_ rfl) ?_
                      refine w21 (pc := 32) (len_s := 3) rfl ?_
                      refine w_t (pc := 35) (e_s := (3, 2, 4, 0, 0, .null, [])) (y_s := (37, [some (.ref _), some (.int _), some (.int _), some (.int _), some (.ref _)], [.ref _], _)) rfl (u_ rfl) ?_
                      refine w_t (pc := 37) (e_s := (1, 1, 3, 0, 0, .null, [])) (y_s := (38, [some (.ref _), some (.int _), some (.int _), some (.int _), some (.ref _)], [.int _, .ref _], _)) rfl (u_ rfl) ?_
                      refine w21 (pc := 38) (len_s := 3) rfl ?_
                      refine w_t (pc := 41) (e_s := (3, 1, 0, 0, 0, .null, [])) (y_s := (42, [some (.ref _), some (.int _), some (.int _), some (.int _), some (.ref _)], [.ref _], _)) rfl (u_ rfl) ?_
                      refine w_t (pc := 42) (e_s := (39, 1, 0, 0, 0, .null, [])) (y_s := (43, [some (.ref _), some (.int _), some (.int _), some (.int _), some (.ref _)], [.ref _, .ref _], _)) rfl (u_ rfl) ?_
                      refine w20 (pc := 43) (len_s := 3) rfl ?_
                      refine w_t (pc := 46) (e_s := (40, 1, 0, 0, 0, .null, [])) (y_s := (47, [some (.ref _), some (.int _), some (.int _), some (.int _), some (.ref _)], [.int _, .ref _, .int _], _)) rfl (u_ rfl) ?_
                      refine w_t (pc := 47) (e_s := (0, 1, 0, 0, 0, .int 1, [])) (y_s := (48, [some (.ref _), some (.int _), some (.int _), some (.int _), some (.ref _)], [.int _, .int _, .ref _, .int _], _)) rfl (u_ rfl) ?_
                      refine w_t (pc := 48) (e_s := (7, 1, 0, 0, 0, .null, [])) (y_s := (49, [some (.ref _), some (.int _), some (.int _), some (.int _), some (.ref _)], [.int (_ + _), .ref _, .int _], _)) rfl (u_ rfl) ?_
                      refine w21 (pc := 49) (len_s := 3) rfl ?_
                      refine wrI (pc := 52) (len_s := 1) rfl hk ?_
                      show wF _ 97 (82, [some (.ref _), some (.ref _), some (.int _), some (.long _), none, some (.long _), none, some (.long _), none], [.int _], _) _
                      refine wq2 (pc := 82) (len_s := 3) rfl rfl (fun c15_s => ?_) (fun c15_s => ?_)
                      · replace t_s := t_s.1 c15_s
                        refine w_t (pc := 89) (e_s := (0, 1, 0, 0, 0, .int 0, [])) (y_s := (90, [some (.ref _), some (.ref _), some (.int _), some (.long _), none, some (.long _), none, some (.long _), none], [.int _], _)) rfl (u_ rfl) ?_
                        refine wrI (pc := 90) (len_s := 1) rfl hk ?_
                        show wF _ 96 (87, [some (.ref _), some (.int _), some (.int _), some (.int _), some (.ref _), some (.int _), some (.int _)], [.int _], _) _
                        refine w_t (pc := 87) (e_s := (15, 3, 93, 1, 0, .null, [])) (y_s := (90, [some (.ref _), some (.int _), some (.int _), some (.int _), some (.ref _), some (.int _), some (.int _)], [], _)) rfl (u_ rfl) ?_
                        refine w_t (pc := 90) (e_s := (1, 2, 5, 0, 0, .null, [])) (y_s := (92, [some (.ref _), some (.int _), some (.int _), some (.int _), some (.ref _), some (.int _), some (.int _)], [.int _], _)) rfl (u_ rfl) ?_
                        exact wrI (pc := 92) (len_s := 1) rfl hk t_s
                      · replace t_s := t_s.2 c15_s
                        refine w_t (pc := 85) (e_s := (0, 1, 0, 0, 0, .int 1, [])) (y_s := (86, [some (.ref _), some (.ref _), some (.int _), some (.long _), none, some (.long _), none, some (.long _), none], [.int _], _)) rfl (u_ rfl) ?_
                        refine w_t (pc := 86) (e_s := (17, 3, 90, 0, 0, .null, [])) (y_s := (90, [some (.ref _), some (.ref _), some (.int _), some (.long _), none, some (.long _), none, some (.long _), none], [.int _], _)) rfl (u_ rfl) ?_
                        refine wrI (pc := 90) (len_s := 1) rfl hk ?_
                        show wF _ 96 (87, [some (.ref _), some (.int _), some (.int _), some (.int _), some (.ref _), some (.int _), some (.int _)], [.int _], _) _
                        refine w_t (pc := 87) (e_s := (15, 3, 93, 1, 0, .null, [])) (y_s := (93, [some (.ref _), some (.int _), some (.int _), some (.int _), some (.ref _), some (.int _), some (.int _)], [], _)) rfl (u_ rfl) ?_
                        refine w_t (pc := 93) (e_s := (19, 3, 5, 0, 0, .int 1, [])) (y_s := (96, [some (.ref _), some (.int _), some (.int _), some (.int _), some (.ref _), some (.int _), some (.int _)], [], _)) rfl (u_ rfl) ?_
                        refine w_t (pc := 96) (e_s := (19, 3, 6, 0, 0, .int 3, [])) (y_s := (99, [some (.ref _), some (.int _), some (.int _), some (.int _), some (.ref _), some (.int _), some (.int _)], [], _)) rfl (u_ rfl) ?_
                        refine w_t (pc := 99) (e_s := (17, 3, 61, 0, 0, .null, [])) (y_s := (61, [some (.ref _), some (.int _), some (.int _), some (.int _), some (.ref _), some (.int _), some (.int _)], [], _)) rfl (u_ rfl) ?_
                        exact t_s
                    · replace t_s := t_s.2 c13_s
                      refine w_t (pc := 9) (e_s := (0, 2, 0, 0, 0, .int (-3), [])) (y_s := (11, [some (.ref _), some (.int _), some (.int _), some (.int _), none], [.int _], _)) rfl (u_ rfl) ?_
                      refine wrI (pc := 11) (len_s := 1) rfl hk ?_
                      show wF _ 97 (82, [some (.ref _), some (.ref _), some (.int _), some (.long _), none, some (.long _), none, some (.long _), none], [.int _], _) _
                      refine w_t (pc := 82) (e_s := (15, 3, 89, 2, 0, .null, [])) (y_s := (89, [some (.ref _), some (.ref _), some (.int _), some (.long _), none, some (.long _), none, some (.long _), none], [], _)) rfl (u_ rfl) ?_
                      refine w_t (pc := 89) (e_s := (0, 1, 0, 0, 0, .int 0, [])) (y_s := (90, [some (.ref _), some (.ref _), some (.int _), some (.long _), none, some (.long _), none, some (.long _), none], [.int _], _)) rfl (u_ rfl) ?_
                      refine wrI (pc := 90) (len_s := 1) rfl hk ?_
                      show wF _ 96 (87, [some (.ref _), some (.int _), some (.int _), some (.int _), some (.ref _), some (.int _), some (.int _)], [.int _], _) _
                      refine w_t (pc := 87) (e_s := (15, 3, 93, 1, 0, .null, [])) (y_s := (90, [some (.ref _), some (.int _), some (.int _), some (.int _), some (.ref _), some (.int _), some (.int _)], [], _)) rfl (u_ rfl) ?_
                      refine w_t (pc := 90) (e_s := (1, 2, 5, 0, 0, .null, [])) (y_s := (92, [some (.ref _), some (.int _), some (.int _), some (.int _), some (.ref _), some (.int _), some (.int _)], [.int _], _)) rfl (u_ rfl) ?_
                      exact wrI (pc := 92) (len_s := 1) rfl hk t_s
            · replace t_s := t_s.2 c9_s
              refine w_t (pc := 18) (e_s := (0, 1, 0, 0, 0, .int 0, [])) (y_s := (19, [some (.long _), none], [.int _], _)) rfl (u_ rfl) ?_
              refine wrI (pc := 19) (len_s := 1) rfl hk ?_
              show wF _ 97 (39, [some (.ref _), some (.ref _), some (.int _), some (.long _), none, some (.long _), none, some (.long _), none], [.int _], _) _
              refine w_t (pc := 39) (e_s := (15, 3, 65, 0, 0, .null, [])) (y_s := (65, [some (.ref _), some (.ref _), some (.int _), some (.long _), none, some (.long _), none, some (.long _), none], [], _)) rfl (u_ rfl) ?_
              refine w_t (pc := 65) (e_s := (0, 1, 0, 0, 0, .int 0, [])) (y_s := (66, [some (.ref _), some (.ref _), some (.int _), some (.long _), none, some (.long _), none, some (.long _), none], [.int _], _)) rfl (u_ rfl) ?_
              refine wrI (pc := 66) (len_s := 1) rfl hk ?_
              show wF _ 96 (87, [some (.ref _), some (.int _), some (.int _), some (.int _), some (.ref _), some (.int _), some (.int _)], [.int _], _) _
              refine w_t (pc := 87) (e_s := (15, 3, 93, 1, 0, .null, [])) (y_s := (90, [some (.ref _), some (.int _), some (.int _), some (.int _), some (.ref _), some (.int _), some (.int _)], [], _)) rfl (u_ rfl) ?_
              refine w_t (pc := 90) (e_s := (1, 2, 5, 0, 0, .null, [])) (y_s := (92, [some (.ref _), some (.int _), some (.int _), some (.int _), some (.ref _), some (.int _), some (.int _)], [.int _], _)) rfl (u_ rfl) ?_
              exact wrI (pc := 92) (len_s := 1) rfl hk t_s
        · replace t_s := t_s.2 c7_s
          refine w_t (pc := 18) (e_s := (0, 1, 0, 0, 0, .int 0, [])) (y_s := (19, [some (.long _), none], [.int _], _)) rfl (u_ rfl) ?_
          refine wrI (pc := 19) (len_s := 1) rfl hk ?_
          show wF _ 97 (31, [some (.ref _), some (.ref _), some (.int _), some (.long _), none, some (.long _), none, some (.long _), none], [.int _], _) _
          refine w_t (pc := 31) (e_s := (15, 3, 65, 0, 0, .null, [])) (y_s := (65, [some (.ref _), some (.ref _), some (.int _), some (.long _), none, some (.long _), none, some (.long _), none], [], _)) rfl (u_ rfl) ?_
          refine w_t (pc := 65) (e_s := (0, 1, 0, 0, 0, .int 0, [])) (y_s := (66, [some (.ref _), some (.ref _), some (.int _), some (.long _), none, some (.long _), none, some (.long _), none], [.int _], _)) rfl (u_ rfl) ?_
          refine wrI (pc := 66) (len_s := 1) rfl hk ?_
          show wF _ 96 (87, [some (.ref _), some (.int _), some (.int _), some (.int _), some (.ref _), some (.int _), some (.int _)], [.int _], _) _
          refine w_t (pc := 87) (e_s := (15, 3, 93, 1, 0, .null, [])) (y_s := (90, [some (.ref _), some (.int _), some (.int _), some (.int _), some (.ref _), some (.int _), some (.int _)], [], _)) rfl (u_ rfl) ?_
          refine w_t (pc := 90) (e_s := (1, 2, 5, 0, 0, .null, [])) (y_s := (92, [some (.ref _), some (.int _), some (.int _), some (.int _), some (.ref _), some (.int _), some (.int _)], [.int _], _)) rfl (u_ rfl) ?_
          exact wrI (pc := 92) (len_s := 1) rfl hk t_s
    · replace t_s := t_s.2 c2_s
      refine w_t (pc := 102) (e_s := (1, 2, 5, 0, 0, .null, [])) (y_s := (104, [some (.ref _), some (.int _), some (.int _), some (.int _), some (.ref _), some (.int _), some (.int _)], [.int _], _)) rfl (u_ rfl) ?_
      exact wrI (pc := 104) (len_s := 1) rfl hk t_s
  · replace t_s := t_s.2 c1_s
    refine w_t (pc := 102) (e_s := (1, 2, 5, 0, 0, .null, [])) (y_s := (104, [some (.ref _), some (.int _), some (.int _), some (.int _), some (.ref _), some (.int _), some (.int _)], [.int _], _)) rfl (u_ rfl) ?_
    exact wrI (pc := 104) (len_s := 1) rfl hk t_s
/-- ColdShodModel.roads(III)I, from 0 on -/
theorem sg_160_0 {F_s : Nat} {x1_s : Int32} {x2_s : Int32} {x3 : Int32} {h_s : zH} {K_s : Int32 → zH → Prop} (hk : hKn h_s) (t_s : (x1_s.toInt < 0 → K_s (-1) h_s) ∧ (¬ x1_s.toInt < 0 → ((5 < x1_s.toInt → K_s (-1) h_s) ∧ (¬ 5 < x1_s.toInt → ((x3.toInt < 1 → K_s (-1) h_s) ∧ (¬ x3.toInt < 1 → ((12 < x3.toInt → K_s (-1) h_s) ∧ (¬ 12 < x3.toInt → (zix x1_s < 6 → ((h_s.2.1 124 (zix x1_s)).toInt < 0 → (((h_s.2.1 124 (zix x1_s)).toInt = 50 → ((x2_s.toInt < 0 → wF F_s 160 (69, [some (.ref 102), some (.int x1_s), some (.int x2_s), some (.int x3), some (.int 0), some (.int 0), none], [], h_s) (gI K_s)) ∧ (¬ x2_s.toInt < 0 → wF F_s 160 (69, [some (.ref 102), some (.int x1_s), some (.int x2_s), some (.int x3), some (.int 0), some (.int 1), none], [], h_s) (gI K_s)))) ∧ (¬ (h_s.2.1 124 (zix x1_s)).toInt = 50 → wF F_s 160 (69, [some (.ref 102), some (.int x1_s), some (.int x2_s), some (.int x3), some (.int 0), some (.int 0), none], [], h_s) (gI K_s)))) ∧ (¬ (h_s.2.1 124 (zix x1_s)).toInt < 0 → (((h_s.2.1 124 (zix x1_s)).toInt = 50 → ((x2_s.toInt < 0 → wF F_s 160 (69, [some (.ref 102), some (.int x1_s), some (.int x2_s), some (.int x3), some (.int 0), some (.int 0), none], [], h_s) (gI K_s)) ∧ (¬ x2_s.toInt < 0 → wF F_s 160 (69, [some (.ref 102), some (.int x1_s), some (.int x2_s), some (.int x3), some (.int 0), some (.int 1), none], [], h_s) (gI K_s)))) ∧ (¬ (h_s.2.1 124 (zix x1_s)).toInt = 50 → K_s (-12) h_s)))))))))))) : wF (F_s + 1) 160 (0, [some (.ref 102), some (.int x1_s), some (.int x2_s), some (.int x3), none, none, none], [], h_s) (gI K_s) := by
  refine w_0 (pc := 0) (e_s := (1, 1, 1, 0, 0, .null, [])) (y_s := (1, [some (.ref _), some (.int _), some (.int _), some (.int _), none, none, none], [.int _], _)) rfl (u_ rfl) ?_
  refine wcI (pc := 1) (len_s := 3) rfl rfl (l := [some (.int _)]) rfl ?_
  refine w_t (pc := 0) (e_s := (1, 1, 0, 0, 0, .null, [])) (y_s := (1, [some (.int _)], [.int _], _)) rfl (u_ rfl) ?_
  refine w_t (pc := 1) (e_s := (10, 1, 0, 0, 0, .null, [])) (y_s := (2, [some (.int _)], [.long (Int32.toInt64 _)], _)) rfl (u_ rfl) ?_
  refine w_t (pc := 2) (e_s := (0, 1, 0, 0, 0, .long 0, [])) (y_s := (3, [some (.int _)], [.long _, .long _], _)) rfl (u_ rfl) ?_
  refine w_t (pc := 3) (e_s := (0, 3, 0, 0, 0, .long 5, [(0, 1063)])) (y_s := (6, [some (.int _)], [.long _, .long _, .long _], _)) rfl (u_ rfl) ?_
  refine wcI (pc := 6) (len_s := 3) rfl rfl (l := [some (.long _), none, some (.long _), none, some (.long _), none]) rfl ?_
  refine w_t (pc := 0) (e_s := (2, 1, 0, 0, 0, .null, [])) (y_s := (1, [some (.long _), none, some (.long _), none, some (.long _), none], [.long _], _)) rfl (u_ rfl) ?_
  refine w_t (pc := 1) (e_s := (2, 1, 2, 0, 0, .null, [])) (y_s := (2, [some (.long _), none, some (.long _), none, some (.long _), none], [.long _, .long _], _)) rfl (u_ rfl) ?_
  refine w_t (pc := 2) (e_s := (14, 1, 0, 0, 0, .null, [])) (y_s := (3, [some (.long _), none, some (.long _), none, some (.long _), none], [.int (lg_cmp _ _)], _)) rfl (u_ rfl) ?_
  refine wl2 (pc := 3) (len_s := 3) (Y := 0) rfl (Int32.toInt_toInt64 _) (by decide) (fun c1_s => ?_) (fun c1_s => ?_)
  · replace t_s := t_s.1 c1_s
    refine w_t (pc := 17) (e_s := (0, 1, 0, 0, 0, .int 0, [])) (y_s := (18, [some (.long _), none, some (.long _), none, some (.long _), none], [.int _], _)) rfl (u_ rfl) ?_
    refine wrI (pc := 18) (len_s := 1) rfl hk ?_
    show wF _ 228 (9, [some (.int _)], [.int _], _) _
    refine wrI (pc := 9) (len_s := 1) rfl hk ?_
    show wF _ 160 (4, [some (.ref _), some (.int _), some (.int _), some (.int _), none, none, none], [.int _], _) _
    refine w_t (pc := 4) (e_s := (15, 3, 19, 0, 0, .null, [])) (y_s := (19, [some (.ref _), some (.int _), some (.int _), some (.int _), none, none, none], [], _)) rfl (u_ rfl) ?_
    refine w_t (pc := 19) (e_s := (0, 1, 0, 0, 0, .int (-1), [])) (y_s := (20, [some (.ref _), some (.int _), some (.int _), some (.int _), none, none, none], [.int _], _)) rfl (u_ rfl) ?_
    exact wrI (pc := 20) (len_s := 1) rfl hk t_s
  · replace t_s := t_s.2 c1_s
    refine w_t (pc := 6) (e_s := (2, 1, 0, 0, 0, .null, [])) (y_s := (7, [some (.long _), none, some (.long _), none, some (.long _), none], [.long _], _)) rfl (u_ rfl) ?_
    refine w_t (pc := 7) (e_s := (2, 2, 4, 0, 0, .null, [])) (y_s := (9, [some (.long _), none, some (.long _), none, some (.long _), none], [.long _, .long _], _)) rfl (u_ rfl) ?_
    refine w_t (pc := 9) (e_s := (14, 1, 0, 0, 0, .null, [])) (y_s := (10, [some (.long _), none, some (.long _), none, some (.long _), none], [.int (lg_cmp _ _)], _)) rfl (u_ rfl) ?_
    refine wl4 (pc := 10) (len_s := 3) (Y := 5) rfl (Int32.toInt_toInt64 _) (by decide) (fun c2_s => ?_) (fun c2_s => ?_)
    · replace t_s := t_s.1 c2_s
      refine w_t (pc := 17) (e_s := (0, 1, 0, 0, 0, .int 0, [])) (y_s := (18, [some (.long _), none, some (.long _), none, some (.long _), none], [.int _], _)) rfl (u_ rfl) ?_
      refine wrI (pc := 18) (len_s := 1) rfl hk ?_
      show wF _ 228 (9, [some (.int _)], [.int _], _) _
      refine wrI (pc := 9) (len_s := 1) rfl hk ?_
      show wF _ 160 (4, [some (.ref _), some (.int _), some (.int _), some (.int _), none, none, none], [.int _], _) _
      refine w_t (pc := 4) (e_s := (15, 3, 19, 0, 0, .null, [])) (y_s := (19, [some (.ref _), some (.int _), some (.int _), some (.int _), none, none, none], [], _)) rfl (u_ rfl) ?_
      refine w_t (pc := 19) (e_s := (0, 1, 0, 0, 0, .int (-1), [])) (y_s := (20, [some (.ref _), some (.int _), some (.int _), some (.int _), none, none, none], [.int _], _)) rfl (u_ rfl) ?_
      exact wrI (pc := 20) (len_s := 1) rfl hk t_s
    · replace t_s := t_s.2 c2_s
      refine w_t (pc := 13) (e_s := (0, 1, 0, 0, 0, .int 1, [])) (y_s := (14, [some (.long _), none, some (.long _), none, some (.long _), none], [.int _], _)) rfl (u_ rfl) ?_
      refine w_t (pc := 14) (e_s := (17, 3, 18, 0, 0, .null, [])) (y_s := (18, [some (.long _), none, some (.long _), none, some (.long _), none], [.int _], _)) rfl (u_ rfl) ?_
      refine wrI (pc := 18) (len_s := 1) rfl hk ?_
      show wF _ 228 (9, [some (.int _)], [.int _], _) _
      refine wrI (pc := 9) (len_s := 1) rfl hk ?_
      show wF _ 160 (4, [some (.ref _), some (.int _), some (.int _), some (.int _), none, none, none], [.int _], _) _
      refine w_t (pc := 4) (e_s := (15, 3, 19, 0, 0, .null, [])) (y_s := (7, [some (.ref _), some (.int _), some (.int _), some (.int _), none, none, none], [], _)) rfl (u_ rfl) ?_
      refine w_t (pc := 7) (e_s := (1, 1, 3, 0, 0, .null, [])) (y_s := (8, [some (.ref _), some (.int _), some (.int _), some (.int _), none, none, none], [.int _], _)) rfl (u_ rfl) ?_
      refine w_t (pc := 8) (e_s := (10, 1, 0, 0, 0, .null, [])) (y_s := (9, [some (.ref _), some (.int _), some (.int _), some (.int _), none, none, none], [.long (Int32.toInt64 _)], _)) rfl (u_ rfl) ?_
      refine w_t (pc := 9) (e_s := (0, 1, 0, 0, 0, .long 1, [])) (y_s := (10, [some (.ref _), some (.int _), some (.int _), some (.int _), none, none, none], [.long _, .long _], _)) rfl (u_ rfl) ?_
      refine w_t (pc := 10) (e_s := (0, 3, 0, 0, 0, .long 12, [(0, 1070)])) (y_s := (13, [some (.ref _), some (.int _), some (.int _), some (.int _), none, none, none], [.long _, .long _, .long _], _)) rfl (u_ rfl) ?_
      refine wcI (pc := 13) (len_s := 3) rfl rfl (l := [some (.long _), none, some (.long _), none, some (.long _), none]) rfl ?_
      refine w_t (pc := 0) (e_s := (2, 1, 0, 0, 0, .null, [])) (y_s := (1, [some (.long _), none, some (.long _), none, some (.long _), none], [.long _], _)) rfl (u_ rfl) ?_
      refine w_t (pc := 1) (e_s := (2, 1, 2, 0, 0, .null, [])) (y_s := (2, [some (.long _), none, some (.long _), none, some (.long _), none], [.long _, .long _], _)) rfl (u_ rfl) ?_
      refine w_t (pc := 2) (e_s := (14, 1, 0, 0, 0, .null, [])) (y_s := (3, [some (.long _), none, some (.long _), none, some (.long _), none], [.int (lg_cmp _ _)], _)) rfl (u_ rfl) ?_
      refine wl2 (pc := 3) (len_s := 3) (Y := 1) rfl (Int32.toInt_toInt64 _) (by decide) (fun c3_s => ?_) (fun c3_s => ?_)
      · replace t_s := t_s.1 c3_s
        refine w_t (pc := 17) (e_s := (0, 1, 0, 0, 0, .int 0, [])) (y_s := (18, [some (.long _), none, some (.long _), none, some (.long _), none], [.int _], _)) rfl (u_ rfl) ?_
        refine wrI (pc := 18) (len_s := 1) rfl hk ?_
        show wF _ 160 (16, [some (.ref _), some (.int _), some (.int _), some (.int _), none, none, none], [.int _], _) _
        refine w_t (pc := 16) (e_s := (15, 3, 21, 1, 0, .null, [])) (y_s := (19, [some (.ref _), some (.int _), some (.int _), some (.int _), none, none, none], [], _)) rfl (u_ rfl) ?_
        refine w_t (pc := 19) (e_s := (0, 1, 0, 0, 0, .int (-1), [])) (y_s := (20, [some (.ref _), some (.int _), some (.int _), some (.int _), none, none, none], [.int _], _)) rfl (u_ rfl) ?_
        exact wrI (pc := 20) (len_s := 1) rfl hk t_s
      · replace t_s := t_s.2 c3_s
        refine w_t (pc := 6) (e_s := (2, 1, 0, 0, 0, .null, [])) (y_s := (7, [some (.long _), none, some (.long _), none, some (.long _), none], [.long _], _)) rfl (u_ rfl) ?_
        refine w_t (pc := 7) (e_s := (2, 2, 4, 0, 0, .null, [])) (y_s := (9, [some (.long _), none, some (.long _), none, some (.long _), none], [.long _, .long _], _)) rfl (u_ rfl) ?_
        refine w_t (pc := 9) (e_s := (14, 1, 0, 0, 0, .null, [])) (y_s := (10, [some (.long _), none, some (.long _), none, some (.long _), none], [.int (lg_cmp _ _)], _)) rfl (u_ rfl) ?_
        refine wl4 (pc := 10) (len_s := 3) (Y := 12) rfl (Int32.toInt_toInt64 _) (by decide) (fun c4_s => ?_) (fun c4_s => ?_)
        · replace t_s := t_s.1 c4_s
          refine w_t (pc := 17) (e_s := (0, 1, 0, 0, 0, .int 0, [])) (y_s := (18, [some (.long _), none, some (.long _), none, some (.long _), none], [.int _], _)) rfl (u_ rfl) ?_
          refine wrI (pc := 18) (len_s := 1) rfl hk ?_
          show wF _ 160 (16, [some (.ref _), some (.int _), some (.int _), some (.int _), none, none, none], [.int _], _) _
          refine w_t (pc := 16) (e_s := (15, 3, 21, 1, 0, .null, [])) (y_s := (19, [some (.ref _), some (.int _), some (.int _), some (.int _), none, none, none], [], _)) rfl (u_ rfl) ?_
          refine w_t (pc := 19) (e_s := (0, 1, 0, 0, 0, .int (-1), [])) (y_s := (20, [some (.ref _), some (.int _), some (.int _), some (.int _), none, none, none], [.int _], _)) rfl (u_ rfl) ?_
          exact wrI (pc := 20) (len_s := 1) rfl hk t_s
        · replace t_s := t_s.2 c4_s
          refine w_t (pc := 13) (e_s := (0, 1, 0, 0, 0, .int 1, [])) (y_s := (14, [some (.long _), none, some (.long _), none, some (.long _), none], [.int _], _)) rfl (u_ rfl) ?_
          refine w_t (pc := 14) (e_s := (17, 3, 18, 0, 0, .null, [])) (y_s := (18, [some (.long _), none, some (.long _), none, some (.long _), none], [.int _], _)) rfl (u_ rfl) ?_
          refine wrI (pc := 18) (len_s := 1) rfl hk ?_
          show wF _ 160 (16, [some (.ref _), some (.int _), some (.int _), some (.int _), none, none, none], [.int _], _) _
          refine w_t (pc := 16) (e_s := (15, 3, 21, 1, 0, .null, [])) (y_s := (21, [some (.ref _), some (.int _), some (.int _), some (.int _), none, none, none], [], _)) rfl (u_ rfl) ?_
          refine w_t (pc := 21) (e_s := (3, 1, 0, 0, 0, .null, [])) (y_s := (22, [some (.ref _), some (.int _), some (.int _), some (.int _), none, none, none], [.ref _], _)) rfl (u_ rfl) ?_
          refine w20r (pc := 22) (len_s := 3) (q_s := 124) rfl (krq hk rfl) ?_
          refine w_t (pc := 25) (e_s := (1, 1, 1, 0, 0, .null, [])) (y_s := (26, [some (.ref _), some (.int _), some (.int _), some (.int _), none, none, none], [.int _, .ref _], _)) rfl (u_ rfl) ?_
          refine w22 (pc := 26) (len_s := 1) rfl (hk.1 124 0 6 rfl rfl) (fun c5_s => ?_)
          replace t_s := t_s c5_s
          refine wq2 (pc := 27) (len_s := 3) rfl rfl (fun c6_s => ?_) (fun c6_s => ?_)
          · replace t_s := t_s.1 c6_s
            refine w_t (pc := 44) (e_s := (0, 1, 0, 0, 0, .int 0, [])) (y_s := (45, [some (.ref _), some (.int _), some (.int _), some (.int _), none, none, none], [.int _], _)) rfl (u_ rfl) ?_
            refine w_t (pc := 45) (e_s := (4, 2, 4, 0, 0, .null, [])) (y_s := (47, [some (.ref _), some (.int _), some (.int _), some (.int _), some (.int _), none, none], [], _)) rfl (u_ rfl) ?_
            refine w_t (pc := 47) (e_s := (3, 1, 0, 0, 0, .null, [])) (y_s := (48, [some (.ref _), some (.int _), some (.int _), some (.int _), some (.int _), none, none], [.ref _], _)) rfl (u_ rfl) ?_
            refine w20r (pc := 48) (len_s := 3) (q_s := 124) rfl (krq hk rfl) ?_
            refine w_t (pc := 51) (e_s := (1, 1, 1, 0, 0, .null, [])) (y_s := (52, [some (.ref _), some (.int _), some (.int _), some (.int _), some (.int _), none, none], [.int _, .ref _], _)) rfl (u_ rfl) ?_
            refine w22 (pc := 52) (len_s := 1) rfl (hk.1 124 0 6 rfl rfl) (fun c7_s => ?_)
            refine w_t (pc := 53) (e_s := (0, 2, 0, 0, 0, .int 50, [])) (y_s := (55, [some (.ref _), some (.int _), some (.int _), some (.int _), some (.int _), none, none], [.int _, .int _], _)) rfl (u_ rfl) ?_
            refine wi1 (pc := 55) (len_s := 3) (Y := 50) rfl rfl (by decide) (fun c8_s => ?_) (fun c8_s => ?_)
            · replace t_s := t_s.1 c8_s
              refine w_t (pc := 58) (e_s := (1, 1, 2, 0, 0, .null, [])) (y_s := (59, [some (.ref _), some (.int _), some (.int _), some (.int _), some (.int _), none, none], [.int _], _)) rfl (u_ rfl) ?_
              refine wq2 (pc := 59) (len_s := 3) rfl rfl (fun c9_s => ?_) (fun c9_s => ?_)
              · replace t_s := t_s.1 c9_s
                refine w_t (pc := 66) (e_s := (0, 1, 0, 0, 0, .int 0, [])) (y_s := (67, [some (.ref _), some (.int _), some (.int _), some (.int _), some (.int _), none, none], [.int _], _)) rfl (u_ rfl) ?_
                refine w_t (pc := 67) (e_s := (4, 2, 5, 0, 0, .null, [])) (y_s := (69, [some (.ref _), some (.int _), some (.int _), some (.int _), some (.int _), some (.int _), none], [], _)) rfl (u_ rfl) ?_
                exact t_s
              · replace t_s := t_s.2 c9_s
                refine w_t (pc := 62) (e_s := (0, 1, 0, 0, 0, .int 1, [])) (y_s := (63, [some (.ref _), some (.int _), some (.int _), some (.int _), some (.int _), none, none], [.int _], _)) rfl (u_ rfl) ?_
                refine w_t (pc := 63) (e_s := (17, 3, 67, 0, 0, .null, [])) (y_s := (67, [some (.ref _), some (.int _), some (.int _), some (.int _), some (.int _), none, none], [.int _], _)) rfl (u_ rfl) ?_
                refine w_t (pc := 67) (e_s := (4, 2, 5, 0, 0, .null, [])) (y_s := (69, [some (.ref _), some (.int _), some (.int _), some (.int _), some (.int _), some (.int _), none], [], _)) rfl (u_ rfl) ?_
                exact t_s
            · replace t_s := t_s.2 c8_s
              refine w_t (pc := 66) (e_s := (0, 1, 0, 0, 0, .int 0, [])) (y_s := (67, [some (.ref _), some (.int _), some (.int _), some (.int _), some (.int _), none, none], [.int _], _)) rfl (u_ rfl) ?_
              refine w_t (pc := 67) (e_s := (4, 2, 5, 0, 0, .null, [])) (y_s := (69, [some (.ref _), some (.int _), some (.int _), some (.int _), some (.int _), some (.int _), none], [], _)) rfl (u_ rfl) ?_
              exact t_s
          · replace t_s := t_s.2 c6_s
            refine w_t (pc := 30) (e_s := (3, 1, 0, 0, 0, .null, [])) (y_s := (31, [some (.ref _), some (.int _), some (.int _), some (.int _), none, none, none], [.ref _], _)) rfl (u_ rfl) ?_
            refine w20r (pc := 31) (len_s := 3) (q_s := 124) rfl (krq hk rfl) ?_
            refine w_t (pc := 34) (e_s := (1, 1, 1, 0, 0, .null, [])) (y_s := (35, [some (.ref _), some (.int _), some (.int _), some (.int _), none, none, none], [.int _, .ref _], _)) rfl (u_ rfl) ?_
            refine w22 (pc := 35) (len_s := 1) rfl (hk.1 124 0 6 rfl rfl) (fun c10_s => ?_)
            refine w_t (pc := 36) (e_s := (0, 2, 0, 0, 0, .int 50, [])) (y_s := (38, [some (.ref _), some (.int _), some (.int _), some (.int _), none, none, none], [.int _, .int _], _)) rfl (u_ rfl) ?_
            refine wi0 (pc := 38) (len_s := 3) (Y := 50) rfl rfl (by decide) (fun c11_s => ?_) (fun c11_s => ?_)
            · replace t_s := t_s.1 c11_s
              refine w_t (pc := 44) (e_s := (0, 1, 0, 0, 0, .int 0, [])) (y_s := (45, [some (.ref _), some (.int _), some (.int _), some (.int _), none, none, none], [.int _], _)) rfl (u_ rfl) ?_
              refine w_t (pc := 45) (e_s := (4, 2, 4, 0, 0, .null, [])) (y_s := (47, [some (.ref _), some (.int _), some (.int _), some (.int _), some (.int _), none, none], [], _)) rfl (u_ rfl) ?_
              refine w_t (pc := 47) (e_s := (3, 1, 0, 0, 0, .null, [])) (y_s := (48, [some (.ref _), some (.int _), some (.int _), some (.int _), some (.int _), none, none], [.ref _], _)) rfl (u_ rfl) ?_
              refine w20r (pc := 48) (len_s := 3) (q_s := 124) rfl (krq hk rfl) ?_
              refine w_t (pc := 51) (e_s := (1, 1, 1, 0, 0, .null, [])) (y_s := (52, [some (.ref _), some (.int _), some (.int _), some (.int _), some (.int _), none, none], [.int _, .ref _], _)) rfl (u_ rfl) ?_
              refine w22 (pc := 52) (len_s := 1) rfl (hk.1 124 0 6 rfl rfl) (fun c12_s => ?_)
              refine w_t (pc := 53) (e_s := (0, 2, 0, 0, 0, .int 50, [])) (y_s := (55, [some (.ref _), some (.int _), some (.int _), some (.int _), some (.int _), none, none], [.int _, .int _], _)) rfl (u_ rfl) ?_
              refine wi1 (pc := 55) (len_s := 3) (Y := 50) rfl rfl (by decide) (fun c13_s => ?_) (fun c13_s => ?_)
              · skip
                refine w_t (pc := 58) (e_s := (1, 1, 2, 0, 0, .null, [])) (y_s := (59, [some (.ref _), some (.int _), some (.int _), some (.int _), some (.int _), none, none], [.int _], _)) rfl (u_ rfl) ?_
                refine wq2 (pc := 59) (len_s := 3) rfl rfl (fun c14_s => ?_) (fun c14_s => ?_)
                · replace t_s := t_s.1 c14_s
                  refine w_t (pc := 66) (e_s := (0, 1, 0, 0, 0, .int 0, [])) (y_s := (67, [some (.ref _), some (.int _), some (.int _), some (.int _), some (.int _), none, none], [.int _], _)) rfl (u_ rfl) ?_
                  refine w_t (pc := 67) (e_s := (4, 2, 5, 0, 0, .null, [])) (y_s := (69, [some (.ref _), some (.int _), some (.int _), some (.int _), some (.int _), some (.int _), none], [], _)) rfl (u_ rfl) ?_
                  exact t_s
                · replace t_s := t_s.2 c14_s
                  refine w_t (pc := 62) (e_s := (0, 1, 0, 0, 0, .int 1, [])) (y_s := (63, [some (.ref _), some (.int _), some (.int _), some (.int _), some (.int _), none, none], [.int _], _)) rfl (u_ rfl) ?_
                  refine w_t (pc := 63) (e_s := (17, 3, 67, 0, 0, .null, [])) (y_s := (67, [some (.ref _), some (.int _), some (.int _), some (.int _), some (.int _), none, none], [.int _], _)) rfl (u_ rfl) ?_
                  refine w_t (pc := 67) (e_s := (4, 2, 5, 0, 0, .null, [])) (y_s := (69, [some (.ref _), some (.int _), some (.int _), some (.int _), some (.int _), some (.int _), none], [], _)) rfl (u_ rfl) ?_
                  exact t_s
              · exact absurd c11_s c13_s
            · replace t_s := t_s.2 c11_s
              refine w_t (pc := 41) (e_s := (0, 2, 0, 0, 0, .int (-12), [])) (y_s := (43, [some (.ref _), some (.int _), some (.int _), some (.int _), none, none, none], [.int _], _)) rfl (u_ rfl) ?_
              exact wrI (pc := 43) (len_s := 1) rfl hk t_s
/-- ColdShodModel.roads(III)I, from 69 on -/
theorem sg_160_69 {F_s : Nat} {x1_s x2_s x3 x4_s x5_s : Int32} {l6 : Option Value} {h_s : zH} {K_s : Int32 → zH → Prop} (hk : hKn h_s) (t_s : (x5_s.toInt = 0 → K_s x4_s h_s) ∧ (¬ x5_s.toInt = 0 → ((x4_s.toInt < x3.toInt → (zix x1_s < 6 → ((((h_s.2.1 125 (zix x1_s)) - 3) - (3 * x4_s)).toInt < x2_s.toInt → wF F_s 160 (126, [some (.ref 102), some (.int x1_s), some (.int x2_s), some (.int x3), some (.int x4_s), some (.int 0), some (.int (((60 * x1_s) + x2_s) + (3 * x4_s)))], [], h_s) (gI K_s)) ∧ (¬ (((h_s.2.1 125 (zix x1_s)) - 3) - (3 * x4_s)).toInt < x2_s.toInt → (((h_s.2.1 102 8).toInt < 12 → wF F_s 160 (126, [some (.ref 102), some (.int x1_s), some (.int x2_s), some (.int x3), some (.int x4_s), some (.int 1), some (.int (((60 * x1_s) + x2_s) + (3 * x4_s)))], [], h_s) (gI K_s)) ∧ (¬ (h_s.2.1 102 8).toInt < 12 → wF F_s 160 (126, [some (.ref 102), some (.int x1_s), some (.int x2_s), some (.int x3), some (.int x4_s), some (.int 0), some (.int (((60 * x1_s) + x2_s) + (3 * x4_s)))], [], h_s) (gI K_s)))))) ∧ (¬ x4_s.toInt < x3.toInt → K_s x4_s h_s)))) : wF (F_s + 1) 160 (69, [some (.ref 102), some (.int x1_s), some (.int x2_s), some (.int x3), some (.int x4_s), some (.int x5_s), l6], [], h_s) (gI K_s) := by
  refine w_0 (pc := 69) (e_s := (1, 2, 5, 0, 0, .null, [])) (y_s := (71, [some (.ref _), some (.int _), some (.int _), some (.int _), some (.int _), some (.int _), _], [.int _], _)) rfl (u_ rfl) ?_
  refine wq0 (pc := 71) (len_s := 3) rfl rfl (fun c1_s => ?_) (fun c1_s => ?_)
  · replace t_s := t_s.1 c1_s
    refine w_t (pc := 212) (e_s := (1, 2, 4, 0, 0, .null, [])) (y_s := (214, [some (.ref _), some (.int _), some (.int _), some (.int _), some (.int _), some (.int _), _], [.int _], _)) rfl (u_ rfl) ?_
    exact wrI (pc := 214) (len_s := 1) rfl hk t_s
  · replace t_s := t_s.2 c1_s
    refine w_t (pc := 74) (e_s := (1, 2, 4, 0, 0, .null, [])) (y_s := (76, [some (.ref _), some (.int _), some (.int _), some (.int _), some (.int _), some (.int _), _], [.int _], _)) rfl (u_ rfl) ?_
    refine w_t (pc := 76) (e_s := (1, 1, 3, 0, 0, .null, [])) (y_s := (77, [some (.ref _), some (.int _), some (.int _), some (.int _), some (.int _), some (.int _), _], [.int _, .int _], _)) rfl (u_ rfl) ?_
    refine wi3 (pc := 77) (len_s := 3) rfl rfl rfl (fun c2_s => ?_) (fun c2_s => ?_)
    · replace t_s := t_s.1 c2_s
      refine w_t (pc := 80) (e_s := (1, 1, 2, 0, 0, .null, [])) (y_s := (81, [some (.ref _), some (.int _), some (.int _), some (.int _), some (.int _), some (.int _), _], [.int _], _)) rfl (u_ rfl) ?_
      refine w_t (pc := 81) (e_s := (3, 1, 0, 0, 0, .null, [])) (y_s := (82, [some (.ref _), some (.int _), some (.int _), some (.int _), some (.int _), some (.int _), _], [.ref _, .int _], _)) rfl (u_ rfl) ?_
      refine w20r (pc := 82) (len_s := 3) (q_s := 125) rfl (krq hk rfl) ?_
      refine w_t (pc := 85) (e_s := (1, 1, 1, 0, 0, .null, [])) (y_s := (86, [some (.ref _), some (.int _), some (.int _), some (.int _), some (.int _), some (.int _), _], [.int _, .ref _, .int _], _)) rfl (u_ rfl) ?_
      refine w22 (pc := 86) (len_s := 1) rfl (hk.1 125 0 6 rfl rfl) (fun c3_s => ?_)
      replace t_s := t_s c3_s
      refine w_t (pc := 87) (e_s := (0, 1, 0, 0, 0, .int 3, [])) (y_s := (88, [some (.ref _), some (.int _), some (.int _), some (.int _), some (.int _), some (.int _), _], [.int _, .int _, .int _], _)) rfl (u_ rfl) ?_
      refine w_t (pc := 88) (e_s := (7, 1, 0, 1, 0, .null, [])) (y_s := (89, [some (.ref _), some (.int _), some (.int _), some (.int _), some (.int _), some (.int _), _], [.int (_ - _), .int _], _)) rfl (u_ rfl) ?_
      refine w_t (pc := 89) (e_s := (0, 1, 0, 0, 0, .int 3, [])) (y_s := (90, [some (.ref _), some (.int _), some (.int _), some (.int _), some (.int _), some (.int _), _], [.int _, .int _, .int _], _)) rfl (u_ rfl) ?_
      refine w_t (pc := 90) (e_s := (1, 2, 4, 0, 0, .null, [])) (y_s := (92, [some (.ref _), some (.int _), some (.int _), some (.int _), some (.int _), some (.int _), _], [.int _, .int _, .int _, .int _], _)) rfl (u_ rfl) ?_
      refine w_t (pc := 92) (e_s := (7, 1, 0, 2, 0, .null, [])) (y_s := (93, [some (.ref _), some (.int _), some (.int _), some (.int _), some (.int _), some (.int _), _], [.int (_ * _), .int _, .int _], _)) rfl (u_ rfl) ?_
      refine w_t (pc := 93) (e_s := (7, 1, 0, 1, 0, .null, [])) (y_s := (94, [some (.ref _), some (.int _), some (.int _), some (.int _), some (.int _), some (.int _), _], [.int (_ - _), .int _], _)) rfl (u_ rfl) ?_
      refine wi4 (pc := 94) (len_s := 3) rfl rfl rfl (fun c4_s => ?_) (fun c4_s => ?_)
      · replace t_s := t_s.1 c4_s
        refine w_t (pc := 110) (e_s := (0, 1, 0, 0, 0, .int 0, [])) (y_s := (111, [some (.ref _), some (.int _), some (.int _), some (.int _), some (.int _), some (.int _), _], [.int _], _)) rfl (u_ rfl) ?_
        refine w_t (pc := 111) (e_s := (4, 2, 5, 0, 0, .null, [])) (y_s := (113, [some (.ref _), some (.int _), some (.int _), some (.int _), some (.int _), some (.int _), _], [], _)) rfl (u_ rfl) ?_
        refine w_t (pc := 113) (e_s := (0, 2, 0, 0, 0, .int 60, [])) (y_s := (115, [some (.ref _), some (.int _), some (.int _), some (.int _), some (.int _), some (.int _), _], [.int _], _)) rfl (u_ rfl) ?_
        refine w_t (pc := 115) (e_s := (1, 1, 1, 0, 0, .null, [])) (y_s := (116, [some (.ref _), some (.int _), some (.int _), some (.int _), some (.int _), some (.int _), _], [.int _, .int _], _)) rfl (u_ rfl) ?_
        refine w_t (pc := 116) (e_s := (7, 1, 0, 2, 0, .null, [])) (y_s := (117, [some (.ref _), some (.int _), some (.int _), some (.int _), some (.int _), some (.int _), _], [.int (_ * _)], _)) rfl (u_ rfl) ?_
        refine w_t (pc := 117) (e_s := (1, 1, 2, 0, 0, .null, [])) (y_s := (118, [some (.ref _), some (.int _), some (.int _), some (.int _), some (.int _), some (.int _), _], [.int _, .int _], _)) rfl (u_ rfl) ?_
        refine w_t (pc := 118) (e_s := (7, 1, 0, 0, 0, .null, [])) (y_s := (119, [some (.ref _), some (.int _), some (.int _), some (.int _), some (.int _), some (.int _), _], [.int (_ + _)], _)) rfl (u_ rfl) ?_
        refine w_t (pc := 119) (e_s := (0, 1, 0, 0, 0, .int 3, [])) (y_s := (120, [some (.ref _), some (.int _), some (.int _), some (.int _), some (.int _), some (.int _), _], [.int _, .int _], _)) rfl (u_ rfl) ?_
        refine w_t (pc := 120) (e_s := (1, 2, 4, 0, 0, .null, [])) (y_s := (122, [some (.ref _), some (.int _), some (.int _), some (.int _), some (.int _), some (.int _), _], [.int _, .int _, .int _], _)) rfl (u_ rfl) ?_
        refine w_t (pc := 122) (e_s := (7, 1, 0, 2, 0, .null, [])) (y_s := (123, [some (.ref _), some (.int _), some (.int _), some (.int _), some (.int _), some (.int _), _], [.int (_ * _), .int _], _)) rfl (u_ rfl) ?_
        refine w_t (pc := 123) (e_s := (7, 1, 0, 0, 0, .null, [])) (y_s := (124, [some (.ref _), some (.int _), some (.int _), some (.int _), some (.int _), some (.int _), _], [.int (_ + _)], _)) rfl (u_ rfl) ?_
        refine w_t (pc := 124) (e_s := (4, 2, 6, 0, 0, .null, [])) (y_s := (126, [some (.ref _), some (.int _), some (.int _), some (.int _), some (.int _), some (.int _), some (.int _)], [], _)) rfl (u_ rfl) ?_
        exact t_s
      · replace t_s := t_s.2 c4_s
        refine w_t (pc := 97) (e_s := (3, 1, 0, 0, 0, .null, [])) (y_s := (98, [some (.ref _), some (.int _), some (.int _), some (.int _), some (.int _), some (.int _), _], [.ref _], _)) rfl (u_ rfl) ?_
        refine w20 (pc := 98) (len_s := 3) rfl ?_
        refine w_t (pc := 101) (e_s := (0, 2, 0, 0, 0, .int 12, [])) (y_s := (103, [some (.ref _), some (.int _), some (.int _), some (.int _), some (.int _), some (.int _), _], [.int _, .int _], _)) rfl (u_ rfl) ?_
        refine wi3 (pc := 103) (len_s := 3) (Y := 12) rfl rfl (by decide) (fun c5_s => ?_) (fun c5_s => ?_)
        · replace t_s := t_s.1 c5_s
          refine w_t (pc := 106) (e_s := (0, 1, 0, 0, 0, .int 1, [])) (y_s := (107, [some (.ref _), some (.int _), some (.int _), some (.int _), some (.int _), some (.int _), _], [.int _], _)) rfl (u_ rfl) ?_
          refine w_t (pc := 107) (e_s := (17, 3, 111, 0, 0, .null, [])) (y_s := (111, [some (.ref _), some (.int _), some (.int _), some (.int _), some (.int _), some (.int _), _], [.int _], _)) rfl (u_ rfl) ?_
          refine w_t (pc := 111) (e_s := (4, 2, 5, 0, 0, .null, [])) (y_s := (113, [some (.ref _), some (.int _), some (.int _), some (.int _), some (.int _), some (.int _), _], [], _)) rfl (u_ rfl) ?_
          refine w_t (pc := 113) (e_s := (0, 2, 0, 0, 0, .int 60, [])) (y_s := (115, [some (.ref _), some (.int _), some (.int _), some (.int _), some (.int _), some (.int _), _], [.int _], _)) rfl (u_ rfl) ?_
          refine w_t (pc := 115) (e_s := (1, 1, 1, 0, 0, .null, [])) (y_s := (116, [some (.ref _), some (.int _), some (.int _), some (.int _), some (.int _), some (.int _), _], [.int _, .int _], _)) rfl (u_ rfl) ?_
          refine w_t (pc := 116) (e_s := (7, 1, 0, 2, 0, .null, [])) (y_s := (117, [some (.ref _), some (.int _), some (.int _), some (.int _), some (.int _), some (.int _), _], [.int (_ * _)], _)) rfl (u_ rfl) ?_
          refine w_t (pc := 117) (e_s := (1, 1, 2, 0, 0, .null, [])) (y_s := (118, [some (.ref _), some (.int _), some (.int _), some (.int _), some (.int _), some (.int _), _], [.int _, .int _], _)) rfl (u_ rfl) ?_
          refine w_t (pc := 118) (e_s := (7, 1, 0, 0, 0, .null, [])) (y_s := (119, [some (.ref _), some (.int _), some (.int _), some (.int _), some (.int _), some (.int _), _], [.int (_ + _)], _)) rfl (u_ rfl) ?_
          refine w_t (pc := 119) (e_s := (0, 1, 0, 0, 0, .int 3, [])) (y_s := (120, [some (.ref _), some (.int _), some (.int _), some (.int _), some (.int _), some (.int _), _], [.int _, .int _], _)) rfl (u_ rfl) ?_
          refine w_t (pc := 120) (e_s := (1, 2, 4, 0, 0, .null, [])) (y_s := (122, [some (.ref _), some (.int _), some (.int _), some (.int _), some (.int _), some (.int _), _], [.int _, .int _, .int _], _)) rfl (u_ rfl) ?_
          refine w_t (pc := 122) (e_s := (7, 1, 0, 2, 0, .null, [])) (y_s := (123, [some (.ref _), some (.int _), some (.int _), some (.int _), some (.int _), some (.int _), _], [.int (_ * _), .int _], _)) rfl (u_ rfl) ?_
          refine w_t (pc := 123) (e_s := (7, 1, 0, 0, 0, .null, [])) (y_s := (124, [some (.ref _), some (.int _), some (.int _), some (.int _), some (.int _), some (.int _), _], [.int (_ + _)], _)) rfl (u_ rfl) ?_
          refine w_t (pc := 124) (e_s := (4, 2, 6, 0, 0, .null, [])) (y_s := (126, [some (.ref _), some (.int _), some (.int _), some (.int _), some (.int _), some (.int _), some (.int _)], [], _)) rfl (u_ rfl) ?_
          exact t_s
        · replace t_s := t_s.2 c5_s
          refine w_t (pc := 110) (e_s := (0, 1, 0, 0, 0, .int 0, [])) (y_s := (111, [some (.ref _), some (.int _), some (.int _), some (.int _), some (.int _), some (.int _), _], [.int _], _)) rfl (u_ rfl) ?_
          refine w_t (pc := 111) (e_s := (4, 2, 5, 0, 0, .null, [])) (y_s := (113, [some (.ref _), some (.int _), some (.int _), some (.int _), some (.int _), some (.int _), _], [], _)) rfl (u_ rfl) ?_
          refine w_t (pc := 113) (e_s := (0, 2, 0, 0, 0, .int 60, [])) (y_s := (115, [some (.ref _), some (.int _), some (.int _), some (.int _), some (.int _), some (.int _), _], [.int _], _)) rfl (u_ rfl) ?_
          refine w_t (pc := 115) (e_s := (1, 1, 1, 0, 0, .null, [])) (y_s := (116, [some (.ref _), some (.int _), some (.int _), some (.int _), some (.int _), some (.int _), _], [.int _, .int _], _)) rfl (u_ rfl) ?_
          refine w_t (pc := 116) (e_s := (7, 1, 0, 2, 0, .null, [])) (y_s := (117, [some (.ref _), some (.int _), some (.int _), some (.int _), some (.int _), some (.int _), _], [.int (_ * _)], _)) rfl (u_ rfl) ?_
          refine w_t (pc := 117) (e_s := (1, 1, 2, 0, 0, .null, [])) (y_s := (118, [some (.ref _), some (.int _), some (.int _), some (.int _), some (.int _), some (.int _), _], [.int _, .int _], _)) rfl (u_ rfl) ?_
          refine w_t (pc := 118) (e_s := (7, 1, 0, 0, 0, .null, [])) (y_s := (119, [some (.ref _), some (.int _), some (.int _), some (.int _), some (.int _), some (.int _), _], [.int (_ + _)], _)) rfl (u_ rfl) ?_
          refine w_t (pc := 119) (e_s := (0, 1, 0, 0, 0, .int 3, [])) (y_s := (120, [some (.ref _), some (.int _), some (.int _), some (.int _), some (.int _), some (.int _), _], [.int _, .int _], _)) rfl (u_ rfl) ?_
          refine w_t (pc := 120) (e_s := (1, 2, 4, 0, 0, .null, [])) (y_s := (122, [some (.ref _), some (.int _), some (.int _), some (.int _), some (.int _), some (.int _), _], [.int _, .int _, .int _], _)) rfl (u_ rfl) ?_
          refine w_t (pc := 122) (e_s := (7, 1, 0, 2, 0, .null, [])) (y_s := (123, [some (.ref _), some (.int _), some (.int _), some (.int _), some (.int _), some (.int _), _], [.int (_ * _), .int _], _)) rfl (u_ rfl) ?_
          refine w_t (pc := 123) (e_s := (7, 1, 0, 0, 0, .null, [])) (y_s := (124, [some (.ref _), some (.int _), some (.int _), some (.int _), some (.int _), some (.int _), _], [.int (_ + _)], _)) rfl (u_ rfl) ?_
          refine w_t (pc := 124) (e_s := (4, 2, 6, 0, 0, .null, [])) (y_s := (126, [some (.ref _), some (.int _), some (.int _), some (.int _), some (.int _), some (.int _), some (.int _)], [], _)) rfl (u_ rfl) ?_
          exact t_s
    · replace t_s := t_s.2 c2_s
      refine w_t (pc := 212) (e_s := (1, 2, 4, 0, 0, .null, [])) (y_s := (214, [some (.ref _), some (.int _), some (.int _), some (.int _), some (.int _), some (.int _), _], [.int _], _)) rfl (u_ rfl) ?_
      exact wrI (pc := 214) (len_s := 1) rfl hk t_s
/-- ColdShodModel.roads(III)I, from 126 on -/
theorem sg_160_126 {F_s : Nat} {x1_s x2_s x3 x4_s x5_s x6 : Int32} {h_s : zH} {K_s : Int32 → zH → Prop} (hk : hKn h_s) (t_s : (x5_s.toInt = 0 → wF F_s 160 (69, [some (.ref 102), some (.int x1_s), some (.int x2_s), some (.int x3), some (.int x4_s), some (.int 0), some (.int x6)], [], h_s) (gI K_s)) ∧ (¬ x5_s.toInt = 0 → (zix x6 < 360 → (zix (x6 + 1) < 360 → (zix (x6 + 2) < 360 → ((h_s.2.2.1 126 (zix x6)).toInt < 0 → wF F_s 160 (69, [some (.ref 102), some (.int x1_s), some (.int x2_s), some (.int x3), some (.int x4_s), some (.int 0), some (.int x6)], [], h_s) (gI K_s)) ∧ (¬ (h_s.2.2.1 126 (zix x6)).toInt < 0 → ((7 < (h_s.2.2.1 126 (zix x6)).toInt → wF F_s 160 (69, [some (.ref 102), some (.int x1_s), some (.int x2_s), some (.int x3), some (.int x4_s), some (.int 0), some (.int x6)], [], h_s) (gI K_s)) ∧ (¬ 7 < (h_s.2.2.1 126 (zix x6)).toInt → (((h_s.2.2.1 126 (zix (x6 + 1))).toInt < 0 → wF F_s 160 (69, [some (.ref 102), some (.int x1_s), some (.int x2_s), some (.int x3), some (.int x4_s), some (.int 0), some (.int x6)], [], h_s) (gI K_s)) ∧ (¬ (h_s.2.2.1 126 (zix (x6 + 1))).toInt < 0 → ((7 < (h_s.2.2.1 126 (zix (x6 + 1))).toInt → wF F_s 160 (69, [some (.ref 102), some (.int x1_s), some (.int x2_s), some (.int x3), some (.int x4_s), some (.int 0), some (.int x6)], [], h_s) (gI K_s)) ∧ (¬ 7 < (h_s.2.2.1 126 (zix (x6 + 1))).toInt → (((h_s.2.2.1 126 (zix x6)).toInt = (h_s.2.2.1 126 (zix (x6 + 1))).toInt → wF F_s 160 (69, [some (.ref 102), some (.int x1_s), some (.int x2_s), some (.int x3), some (.int x4_s), some (.int 0), some (.int x6)], [], h_s) (gI K_s)) ∧ (¬ (h_s.2.2.1 126 (zix x6)).toInt = (h_s.2.2.1 126 (zix (x6 + 1))).toInt → (((h_s.2.2.1 126 (zix (x6 + 2))).toInt < 1 → wF F_s 160 (69, [some (.ref 102), some (.int x1_s), some (.int x2_s), some (.int x3), some (.int x4_s), some (.int 0), some (.int x6)], [], h_s) (gI K_s)) ∧ (¬ (h_s.2.2.1 126 (zix (x6 + 2))).toInt < 1 → ((9 < (h_s.2.2.1 126 (zix (x6 + 2))).toInt → wF F_s 160 (69, [some (.ref 102), some (.int x1_s), some (.int x2_s), some (.int x3), some (.int x4_s), some (.int 0), some (.int x6)], [], h_s) (gI K_s)) ∧ (¬ 9 < (h_s.2.2.1 126 (zix (x6 + 2))).toInt → (zix (h_s.2.1 102 8) < 12 → (zix (68 + (h_s.2.1 102 8)) < 104 → wF F_s 160 (69, [some (.ref 102), some (.int x1_s), some (.int x2_s), some (.int x3), some (.int (x4_s + 1)), some (.int 1), some (.int x6)], [], (h_s.1, zup (zup (zup (zup h_s.2.1 107 (zix (h_s.2.1 102 8)) ((h_s.2.2.1 126 (zix x6)).toInt32)) 108 (zix (h_s.2.1 102 8)) ((h_s.2.2.1 126 (zix (x6 + 1))).toInt32)) 103 (zix (68 + (h_s.2.1 102 8))) ((h_s.2.2.1 126 (zix (x6 + 2))).toInt32)) 102 8 ((h_s.2.1 102 8) + 1), h_s.2.2.1, h_s.2.2.2)) (gI K_s))))))))))))))))))))) : wF (F_s + 1) 160 (126, [some (.ref 102), some (.int x1_s), some (.int x2_s), some (.int x3), some (.int x4_s), some (.int x5_s), some (.int x6)], [], h_s) (gI K_s) := by
  refine w_0 (pc := 126) (e_s := (1, 2, 5, 0, 0, .null, [])) (y_s := (128, [some (.ref _), some (.int _), some (.int _), some (.int _), some (.int _), some (.int _), some (.int _)], [.int _], _)) rfl (u_ rfl) ?_
  refine wq0 (pc := 128) (len_s := 3) rfl rfl (fun c1_s => ?_) (fun c1_s => ?_)
  · replace t_s := t_s.1 c1_s
    refine w_t (pc := 166) (e_s := (0, 1, 0, 0, 0, .int 0, [])) (y_s := (167, [some (.ref _), some (.int _), some (.int _), some (.int _), some (.int _), some (.int _), some (.int _)], [.int _], _)) rfl (u_ rfl) ?_
    refine w_t (pc := 167) (e_s := (4, 2, 5, 0, 0, .null, [])) (y_s := (169, [some (.ref _), some (.int _), some (.int _), some (.int _), some (.int _), some (.int _), some (.int _)], [], _)) rfl (u_ rfl) ?_
    refine w_t (pc := 169) (e_s := (1, 2, 5, 0, 0, .null, [])) (y_s := (171, [some (.ref _), some (.int _), some (.int _), some (.int _), some (.int _), some (.int _), some (.int _)], [.int _], _)) rfl (u_ rfl) ?_
    refine w_t (pc := 171) (e_s := (15, 3, 209, 0, 0, .null, [])) (y_s := (209, [some (.ref _), some (.int _), some (.int _), some (.int _), some (.int _), some (.int _), some (.int _)], [], _)) rfl (u_ rfl) ?_
    refine w_t (pc := 209) (e_s := (17, 3, 69, 0, 0, .null, [])) (y_s := (69, [some (.ref _), some (.int _), some (.int _), some (.int _), some (.int _), some (.int _), some (.int _)], [], _)) rfl (u_ rfl) ?_
    exact t_s
  · replace t_s := t_s.2 c1_s
    refine w_t (pc := 131) (e_s := (3, 1, 0, 0, 0, .null, [])) (y_s := (132, [some (.ref _), some (.int _), some (.int _), some (.int _), some (.int _), some (.int _), some (.int _)], [.ref _], _)) rfl (u_ rfl) ?_
    refine w20r (pc := 132) (len_s := 3) (q_s := 126) rfl (krq hk rfl) ?_
    refine w_t (pc := 135) (e_s := (1, 2, 6, 0, 0, .null, [])) (y_s := (137, [some (.ref _), some (.int _), some (.int _), some (.int _), some (.int _), some (.int _), some (.int _)], [.int _, .ref _], _)) rfl (u_ rfl) ?_
    refine w23 (pc := 137) (len_s := 1) rfl (hk.1 126 1 360 rfl rfl) (fun c2_s => ?_)
    replace t_s := t_s c2_s
    refine w_t (pc := 138) (e_s := (3, 1, 0, 0, 0, .null, [])) (y_s := (139, [some (.ref _), some (.int _), some (.int _), some (.int _), some (.int _), some (.int _), some (.int _)], [.ref _, .long _], _)) rfl (u_ rfl) ?_
    refine w20r (pc := 139) (len_s := 3) (q_s := 126) rfl (krq hk rfl) ?_
    refine w_t (pc := 142) (e_s := (1, 2, 6, 0, 0, .null, [])) (y_s := (144, [some (.ref _), some (.int _), some (.int _), some (.int _), some (.int _), some (.int _), some (.int _)], [.int _, .ref _, .long _], _)) rfl (u_ rfl) ?_
    refine w_t (pc := 144) (e_s := (0, 1, 0, 0, 0, .int 1, [])) (y_s := (145, [some (.ref _), some (.int _), some (.int _), some (.int _), some (.int _), some (.int _), some (.int _)], [.int _, .int _, .ref _, .long _], _)) rfl (u_ rfl) ?_
    refine w_t (pc := 145) (e_s := (7, 1, 0, 0, 0, .null, [])) (y_s := (146, [some (.ref _), some (.int _), some (.int _), some (.int _), some (.int _), some (.int _), some (.int _)], [.int (_ + _), .ref _, .long _], _)) rfl (u_ rfl) ?_
    refine w23 (pc := 146) (len_s := 1) rfl (hk.1 126 1 360 rfl rfl) (fun c3_s => ?_)
    replace t_s := t_s c3_s
    refine w_t (pc := 147) (e_s := (3, 1, 0, 0, 0, .null, [])) (y_s := (148, [some (.ref _), some (.int _), some (.int _), some (.int _), some (.int _), some (.int _), some (.int _)], [.ref _, .long _, .long _], _)) rfl (u_ rfl) ?_
    refine w20r (pc := 148) (len_s := 3) (q_s := 126) rfl (krq hk rfl) ?_
    refine w_t (pc := 151) (e_s := (1, 2, 6, 0, 0, .null, [])) (y_s := (153, [some (.ref _), some (.int _), some (.int _), some (.int _), some (.int _), some (.int _), some (.int _)], [.int _, .ref _, .long _, .long _], _)) rfl (u_ rfl) ?_
    refine w_t (pc := 153) (e_s := (0, 1, 0, 0, 0, .int 2, [])) (y_s := (154, [some (.ref _), some (.int _), some (.int _), some (.int _), some (.int _), some (.int _), some (.int _)], [.int _, .int _, .ref _, .long _, .long _], _)) rfl (u_ rfl) ?_
    refine w_t (pc := 154) (e_s := (7, 1, 0, 0, 0, .null, [])) (y_s := (155, [some (.ref _), some (.int _), some (.int _), some (.int _), some (.int _), some (.int _), some (.int _)], [.int (_ + _), .ref _, .long _, .long _], _)) rfl (u_ rfl) ?_
    refine w23 (pc := 155) (len_s := 1) rfl (hk.1 126 1 360 rfl rfl) (fun c4_s => ?_)
    replace t_s := t_s c4_s
    refine wcI (pc := 156) (len_s := 3) rfl rfl (l := [some (.long _), none, some (.long _), none, some (.long _), none]) rfl ?_
    refine w_t (pc := 0) (e_s := (2, 1, 0, 0, 0, .null, [])) (y_s := (1, [some (.long _), none, some (.long _), none, some (.long _), none], [.long _], _)) rfl (u_ rfl) ?_
    refine wcI (pc := 1) (len_s := 3) rfl rfl (l := [some (.long _), none]) rfl ?_
    refine w_t (pc := 0) (e_s := (2, 1, 0, 0, 0, .null, [])) (y_s := (1, [some (.long _), none], [.long _], _)) rfl (u_ rfl) ?_
    refine w_t (pc := 1) (e_s := (0, 1, 0, 0, 0, .long 0, [])) (y_s := (2, [some (.long _), none], [.long _, .long _], _)) rfl (u_ rfl) ?_
    refine w_t (pc := 2) (e_s := (0, 3, 0, 0, 0, .long 7, [(0, 1062)])) (y_s := (5, [some (.long _), none], [.long _, .long _, .long _], _)) rfl (u_ rfl) ?_
    refine wcI (pc := 5) (len_s := 3) rfl rfl (l := [some (.long _), none, some (.long _), none, some (.long _), none]) rfl ?_
    refine w_t (pc := 0) (e_s := (2, 1, 0, 0, 0, .null, [])) (y_s := (1, [some (.long _), none, some (.long _), none, some (.long _), none], [.long _], _)) rfl (u_ rfl) ?_
    refine w_t (pc := 1) (e_s := (2, 1, 2, 0, 0, .null, [])) (y_s := (2, [some (.long _), none, some (.long _), none, some (.long _), none], [.long _, .long _], _)) rfl (u_ rfl) ?_
    refine w_t (pc := 2) (e_s := (14, 1, 0, 0, 0, .null, [])) (y_s := (3, [some (.long _), none, some (.long _), none, some (.long _), none], [.int (lg_cmp _ _)], _)) rfl (u_ rfl) ?_
    refine wl2 (pc := 3) (len_s := 3) (Y := 0) rfl rfl (by decide) (fun c5_s => ?_) (fun c5_s => ?_)
    · replace t_s := t_s.1 c5_s
      refine w_t (pc := 17) (e_s := (0, 1, 0, 0, 0, .int 0, [])) (y_s := (18, [some (.long _), none, some (.long _), none, some (.long _), none], [.int _], _)) rfl (u_ rfl) ?_
      refine wrI (pc := 18) (len_s := 1) rfl hk ?_
      show wF _ 154 (8, [some (.long _), none], [.int _], _) _
      refine wrI (pc := 8) (len_s := 1) rfl hk ?_
      show wF _ 157 (4, [some (.long _), none, some (.long _), none, some (.long _), none], [.int _], _) _
      refine w_t (pc := 4) (e_s := (15, 3, 36, 0, 0, .null, [])) (y_s := (36, [some (.long _), none, some (.long _), none, some (.long _), none], [], _)) rfl (u_ rfl) ?_
      refine w_t (pc := 36) (e_s := (0, 1, 0, 0, 0, .int 0, [])) (y_s := (37, [some (.long _), none, some (.long _), none, some (.long _), none], [.int _], _)) rfl (u_ rfl) ?_
      refine wrI (pc := 37) (len_s := 1) rfl hk ?_
      show wF _ 160 (159, [some (.ref _), some (.int _), some (.int _), some (.int _), some (.int _), some (.int _), some (.int _)], [.int _], _) _
      refine w_t (pc := 159) (e_s := (15, 3, 166, 0, 0, .null, [])) (y_s := (166, [some (.ref _), some (.int _), some (.int _), some (.int _), some (.int _), some (.int _), some (.int _)], [], _)) rfl (u_ rfl) ?_
      refine w_t (pc := 166) (e_s := (0, 1, 0, 0, 0, .int 0, [])) (y_s := (167, [some (.ref _), some (.int _), some (.int _), some (.int _), some (.int _), some (.int _), some (.int _)], [.int _], _)) rfl (u_ rfl) ?_
      refine w_t (pc := 167) (e_s := (4, 2, 5, 0, 0, .null, [])) (y_s := (169, [some (.ref _), some (.int _), some (.int _), some (.int _), some (.int _), some (.int _), some (.int _)], [], _)) rfl (u_ rfl) ?_
      refine w_t (pc := 169) (e_s := (1, 2, 5, 0, 0, .null, [])) (y_s := (171, [some (.ref _), some (.int _), some (.int _), some (.int _), some (.int _), some (.int _), some (.int _)], [.int _], _)) rfl (u_ rfl) ?_
      refine w_t (pc := 171) (e_s := (15, 3, 209, 0, 0, .null, [])) (y_s := (209, [some (.ref _), some (.int _), some (.int _), some (.int _), some (.int _), some (.int _), some (.int _)], [], _)) rfl (u_ rfl) ?_
      refine w_t (pc := 209) (e_s := (17, 3, 69, 0, 0, .null, [])) (y_s := (69, [some (.ref _), some (.int _), some (.int _), some (.int _), some (.int _), some (.int _), some (.int _)], [], _)) rfl (u_ rfl) ?_
      exact t_s
    · replace t_s := t_s.2 c5_s
      refine w_t (pc := 6) (e_s := (2, 1, 0, 0, 0, .null, [])) (y_s := (7, [some (.long _), none, some (.long _), none, some (.long _), none], [.long _], _)) rfl (u_ rfl) ?_
      refine w_t (pc := 7) (e_s := (2, 2, 4, 0, 0, .null, [])) (y_s := (9, [some (.long _), none, some (.long _), none, some (.long _), none], [.long _, .long _], _)) rfl (u_ rfl) ?_
      refine w_t (pc := 9) (e_s := (14, 1, 0, 0, 0, .null, [])) (y_s := (10, [some (.long _), none, some (.long _), none, some (.long _), none], [.int (lg_cmp _ _)], _)) rfl (u_ rfl) ?_
      refine wl4 (pc := 10) (len_s := 3) (Y := 7) rfl rfl (by decide) (fun c6_s => ?_) (fun c6_s => ?_)
      · replace t_s := t_s.1 c6_s
        refine w_t (pc := 17) (e_s := (0, 1, 0, 0, 0, .int 0, [])) (y_s := (18, [some (.long _), none, some (.long _), none, some (.long _), none], [.int _], _)) rfl (u_ rfl) ?_
        refine wrI (pc := 18) (len_s := 1) rfl hk ?_
        show wF _ 154 (8, [some (.long _), none], [.int _], _) _
        refine wrI (pc := 8) (len_s := 1) rfl hk ?_
        show wF _ 157 (4, [some (.long _), none, some (.long _), none, some (.long _), none], [.int _], _) _
        refine w_t (pc := 4) (e_s := (15, 3, 36, 0, 0, .null, [])) (y_s := (36, [some (.long _), none, some (.long _), none, some (.long _), none], [], _)) rfl (u_ rfl) ?_
        refine w_t (pc := 36) (e_s := (0, 1, 0, 0, 0, .int 0, [])) (y_s := (37, [some (.long _), none, some (.long _), none, some (.long _), none], [.int _], _)) rfl (u_ rfl) ?_
        refine wrI (pc := 37) (len_s := 1) rfl hk ?_
        show wF _ 160 (159, [some (.ref _), some (.int _), some (.int _), some (.int _), some (.int _), some (.int _), some (.int _)], [.int _], _) _
        refine w_t (pc := 159) (e_s := (15, 3, 166, 0, 0, .null, [])) (y_s := (166, [some (.ref _), some (.int _), some (.int _), some (.int _), some (.int _), some (.int _), some (.int _)], [], _)) rfl (u_ rfl) ?_
        refine w_t (pc := 166) (e_s := (0, 1, 0, 0, 0, .int 0, [])) (y_s := (167, [some (.ref _), some (.int _), some (.int _), some (.int _), some (.int _), some (.int _), some (.int _)], [.int _], _)) rfl (u_ rfl) ?_
        refine w_t (pc := 167) (e_s := (4, 2, 5, 0, 0, .null, [])) (y_s := (169, [some (.ref _), some (.int _), some (.int _), some (.int _), some (.int _), some (.int _), some (.int _)], [], _)) rfl (u_ rfl) ?_
        refine w_t (pc := 169) (e_s := (1, 2, 5, 0, 0, .null, [])) (y_s := (171, [some (.ref _), some (.int _), some (.int _), some (.int _), some (.int _), some (.int _), some (.int _)], [.int _], _)) rfl (u_ rfl) ?_
        refine w_t (pc := 171) (e_s := (15, 3, 209, 0, 0, .null, [])) (y_s := (209, [some (.ref _), some (.int _), some (.int _), some (.int _), some (.int _), some (.int _), some (.int _)], [], _)) rfl (u_ rfl) ?_
        refine w_t (pc := 209) (e_s := (17, 3, 69, 0, 0, .null, [])) (y_s := (69, [some (.ref _), some (.int _), some (.int _), some (.int _), some (.int _), some (.int _), some (.int _)], [], _)) rfl (u_ rfl) ?_
        exact t_s
      · replace t_s := t_s.2 c6_s
        refine w_t (pc := 13) (e_s := (0, 1, 0, 0, 0, .int 1, [])) (y_s := (14, [some (.long _), none, some (.long _), none, some (.long _), none], [.int _], _)) rfl (u_ rfl) ?_
        refine w_t (pc := 14) (e_s := (17, 3, 18, 0, 0, .null, [])) (y_s := (18, [some (.long _), none, some (.long _), none, some (.long _), none], [.int _], _)) rfl (u_ rfl) ?_
        refine wrI (pc := 18) (len_s := 1) rfl hk ?_
        show wF _ 154 (8, [some (.long _), none], [.int _], _) _
        refine wrI (pc := 8) (len_s := 1) rfl hk ?_
        show wF _ 157 (4, [some (.long _), none, some (.long _), none, some (.long _), none], [.int _], _) _
        refine w_t (pc := 4) (e_s := (15, 3, 36, 0, 0, .null, [])) (y_s := (7, [some (.long _), none, some (.long _), none, some (.long _), none], [], _)) rfl (u_ rfl) ?_
        refine w_t (pc := 7) (e_s := (2, 1, 2, 0, 0, .null, [])) (y_s := (8, [some (.long _), none, some (.long _), none, some (.long _), none], [.long _], _)) rfl (u_ rfl) ?_
        refine wcI (pc := 8) (len_s := 3) rfl rfl (l := [some (.long _), none]) rfl ?_
        refine w_t (pc := 0) (e_s := (2, 1, 0, 0, 0, .null, [])) (y_s := (1, [some (.long _), none], [.long _], _)) rfl (u_ rfl) ?_
        refine w_t (pc := 1) (e_s := (0, 1, 0, 0, 0, .long 0, [])) (y_s := (2, [some (.long _), none], [.long _, .long _], _)) rfl (u_ rfl) ?_
        refine w_t (pc := 2) (e_s := (0, 3, 0, 0, 0, .long 7, [(0, 1062)])) (y_s := (5, [some (.long _), none], [.long _, .long _, .long _], _)) rfl (u_ rfl) ?_
        refine wcI (pc := 5) (len_s := 3) rfl rfl (l := [some (.long _), none, some (.long _), none, some (.long _), none]) rfl ?_
        refine w_t (pc := 0) (e_s := (2, 1, 0, 0, 0, .null, [])) (y_s := (1, [some (.long _), none, some (.long _), none, some (.long _), none], [.long _], _)) rfl (u_ rfl) ?_
        refine w_t (pc := 1) (e_s := (2, 1, 2, 0, 0, .null, [])) (y_s := (2, [some (.long _), none, some (.long _), none, some (.long _), none], [.long _, .long _], _)) rfl (u_ rfl) ?_
        refine w_t (pc := 2) (e_s := (14, 1, 0, 0, 0, .null, [])) (y_s := (3, [some (.long _), none, some (.long _), none, some (.long _), none], [.int (lg_cmp _ _)], _)) rfl (u_ rfl) ?_
        refine wl2 (pc := 3) (len_s := 3) (Y := 0) rfl rfl (by decide) (fun c7_s => ?_) (fun c7_s => ?_)
        · replace t_s := t_s.1 c7_s
          refine w_t (pc := 17) (e_s := (0, 1, 0, 0, 0, .int 0, [])) (y_s := (18, [some (.long _), none, some (.long _), none, some (.long _), none], [.int _], _)) rfl (u_ rfl) ?_
          refine wrI (pc := 18) (len_s := 1) rfl hk ?_
          show wF _ 154 (8, [some (.long _), none], [.int _], _) _
          refine wrI (pc := 8) (len_s := 1) rfl hk ?_
          show wF _ 157 (11, [some (.long _), none, some (.long _), none, some (.long _), none], [.int _], _) _
          refine w_t (pc := 11) (e_s := (15, 3, 36, 0, 0, .null, [])) (y_s := (36, [some (.long _), none, some (.long _), none, some (.long _), none], [], _)) rfl (u_ rfl) ?_
          refine w_t (pc := 36) (e_s := (0, 1, 0, 0, 0, .int 0, [])) (y_s := (37, [some (.long _), none, some (.long _), none, some (.long _), none], [.int _], _)) rfl (u_ rfl) ?_
          refine wrI (pc := 37) (len_s := 1) rfl hk ?_
          show wF _ 160 (159, [some (.ref _), some (.int _), some (.int _), some (.int _), some (.int _), some (.int _), some (.int _)], [.int _], _) _
          refine w_t (pc := 159) (e_s := (15, 3, 166, 0, 0, .null, [])) (y_s := (166, [some (.ref _), some (.int _), some (.int _), some (.int _), some (.int _), some (.int _), some (.int _)], [], _)) rfl (u_ rfl) ?_
          refine w_t (pc := 166) (e_s := (0, 1, 0, 0, 0, .int 0, [])) (y_s := (167, [some (.ref _), some (.int _), some (.int _), some (.int _), some (.int _), some (.int _), some (.int _)], [.int _], _)) rfl (u_ rfl) ?_
          refine w_t (pc := 167) (e_s := (4, 2, 5, 0, 0, .null, [])) (y_s := (169, [some (.ref _), some (.int _), some (.int _), some (.int _), some (.int _), some (.int _), some (.int _)], [], _)) rfl (u_ rfl) ?_
          refine w_t (pc := 169) (e_s := (1, 2, 5, 0, 0, .null, [])) (y_s := (171, [some (.ref _), some (.int _), some (.int _), some (.int _), some (.int _), some (.int _), some (.int _)], [.int _], _)) rfl (u_ rfl) ?_
          refine w_t (pc := 171) (e_s := (15, 3, 209, 0, 0, .null, [])) (y_s := (209, [some (.ref _), some (.int _), some (.int _), some (.int _), some (.int _), some (.int _), some (.int _)], [], _)) rfl (u_ rfl) ?_
          refine w_t (pc := 209) (e_s := (17, 3, 69, 0, 0, .null, [])) (y_s := (69, [some (.ref _), some (.int _), some (.int _), some (.int _), some (.int _), some (.int _), some (.int _)], [], _)) rfl (u_ rfl) ?_
          exact t_s
        · replace t_s := t_s.2 c7_s
          refine w_t (pc := 6) (e_s := (2, 1, 0, 0, 0, .null, [])) (y_s := (7, [some (.long _), none, some (.long _), none, some (.long _), none], [.long _], _)) rfl (u_ rfl) ?_
          refine w_t (pc := 7) (e_s := (2, 2, 4, 0, 0, .null, [])) (y_s := (9, [some (.long _), none, some (.long _), none, some (.long _), none], [.long _, .long _], _)) rfl (u_ rfl) ?_
          refine w_t (pc := 9) (e_s := (14, 1, 0, 0, 0, .null, [])) (y_s := (10, [some (.long _), none, some (.long _), none, some (.long _), none], [.int (lg_cmp _ _)], _)) rfl (u_ rfl) ?_
          refine wl4 (pc := 10) (len_s := 3) (Y := 7) rfl rfl (by decide) (fun c8_s => ?_) (fun c8_s => ?_)
          · replace t_s := t_s.1 c8_s
            refine w_t (pc := 17) (e_s := (0, 1, 0, 0, 0, .int 0, [])) (y_s := (18, [some (.long _), none, some (.long _), none, some (.long _), none], [.int _], _)) rfl (u_ rfl) ?_
            refine wrI (pc := 18) (len_s := 1) rfl hk ?_
            show wF _ 154 (8, [some (.long _), none], [.int _], _) _
            refine wrI (pc := 8) (len_s := 1) rfl hk ?_
            show wF _ 157 (11, [some (.long _), none, some (.long _), none, some (.long _), none], [.int _], _) _
            refine w_t (pc := 11) (e_s := (15, 3, 36, 0, 0, .null, [])) (y_s := (36, [some (.long _), none, some (.long _), none, some (.long _), none], [], _)) rfl (u_ rfl) ?_
            refine w_t (pc := 36) (e_s := (0, 1, 0, 0, 0, .int 0, [])) (y_s := (37, [some (.long _), none, some (.long _), none, some (.long _), none], [.int _], _)) rfl (u_ rfl) ?_
            refine wrI (pc := 37) (len_s := 1) rfl hk ?_
            show wF _ 160 (159, [some (.ref _), some (.int _), some (.int _), some (.int _), some (.int _), some (.int _), some (.int _)], [.int _], _) _
            refine w_t (pc := 159) (e_s := (15, 3, 166, 0, 0, .null, [])) (y_s := (166, [some (.ref _), some (.int _), some (.int _), some (.int _), some (.int _), some (.int _), some (.int _)], [], _)) rfl (u_ rfl) ?_
            refine w_t (pc := 166) (e_s := (0, 1, 0, 0, 0, .int 0, [])) (y_s := (167, [some (.ref _), some (.int _), some (.int _), some (.int _), some (.int _), some (.int _), some (.int _)], [.int _], _)) rfl (u_ rfl) ?_
            refine w_t (pc := 167) (e_s := (4, 2, 5, 0, 0, .null, [])) (y_s := (169, [some (.ref _), some (.int _), some (.int _), some (.int _), some (.int _), some (.int _), some (.int _)], [], _)) rfl (u_ rfl) ?_
            refine w_t (pc := 169) (e_s := (1, 2, 5, 0, 0, .null, [])) (y_s := (171, [some (.ref _), some (.int _), some (.int _), some (.int _), some (.int _), some (.int _), some (.int _)], [.int _], _)) rfl (u_ rfl) ?_
            refine w_t (pc := 171) (e_s := (15, 3, 209, 0, 0, .null, [])) (y_s := (209, [some (.ref _), some (.int _), some (.int _), some (.int _), some (.int _), some (.int _), some (.int _)], [], _)) rfl (u_ rfl) ?_
            refine w_t (pc := 209) (e_s := (17, 3, 69, 0, 0, .null, [])) (y_s := (69, [some (.ref _), some (.int _), some (.int _), some (.int _), some (.int _), some (.int _), some (.int _)], [], _)) rfl (u_ rfl) ?_
            exact t_s
          · replace t_s := t_s.2 c8_s
            refine w_t (pc := 13) (e_s := (0, 1, 0, 0, 0, .int 1, [])) (y_s := (14, [some (.long _), none, some (.long _), none, some (.long _), none], [.int _], _)) rfl (u_ rfl) ?_
            refine w_t (pc := 14) (e_s := (17, 3, 18, 0, 0, .null, [])) (y_s := (18, [some (.long _), none, some (.long _), none, some (.long _), none], [.int _], _)) rfl (u_ rfl) ?_
            refine wrI (pc := 18) (len_s := 1) rfl hk ?_
            show wF _ 154 (8, [some (.long _), none], [.int _], _) _
            refine wrI (pc := 8) (len_s := 1) rfl hk ?_
            show wF _ 157 (11, [some (.long _), none, some (.long _), none, some (.long _), none], [.int _], _) _
            refine w_t (pc := 11) (e_s := (15, 3, 36, 0, 0, .null, [])) (y_s := (14, [some (.long _), none, some (.long _), none, some (.long _), none], [], _)) rfl (u_ rfl) ?_
            refine w_t (pc := 14) (e_s := (2, 1, 0, 0, 0, .null, [])) (y_s := (15, [some (.long _), none, some (.long _), none, some (.long _), none], [.long _], _)) rfl (u_ rfl) ?_
            refine w_t (pc := 15) (e_s := (2, 1, 2, 0, 0, .null, [])) (y_s := (16, [some (.long _), none, some (.long _), none, some (.long _), none], [.long _, .long _], _)) rfl (u_ rfl) ?_
            refine w_t (pc := 16) (e_s := (14, 1, 0, 0, 0, .null, [])) (y_s := (17, [some (.long _), none, some (.long _), none, some (.long _), none], [.int (lg_cmp _ _)], _)) rfl (u_ rfl) ?_
            refine wl0 (pc := 17) (len_s := 3) rfl rfl rfl (fun c9_s => ?_) (fun c9_s => ?_)
            · replace t_s := t_s.1 c9_s
              refine w_t (pc := 36) (e_s := (0, 1, 0, 0, 0, .int 0, [])) (y_s := (37, [some (.long _), none, some (.long _), none, some (.long _), none], [.int _], _)) rfl (u_ rfl) ?_
              refine wrI (pc := 37) (len_s := 1) rfl hk ?_
              show wF _ 160 (159, [some (.ref _), some (.int _), some (.int _), some (.int _), some (.int _), some (.int _), some (.int _)], [.int _], _) _
              refine w_t (pc := 159) (e_s := (15, 3, 166, 0, 0, .null, [])) (y_s := (166, [some (.ref _), some (.int _), some (.int _), some (.int _), some (.int _), some (.int _), some (.int _)], [], _)) rfl (u_ rfl) ?_
              refine w_t (pc := 166) (e_s := (0, 1, 0, 0, 0, .int 0, [])) (y_s := (167, [some (.ref _), some (.int _), some (.int _), some (.int _), some (.int _), some (.int _), some (.int _)], [.int _], _)) rfl (u_ rfl) ?_
              refine w_t (pc := 167) (e_s := (4, 2, 5, 0, 0, .null, [])) (y_s := (169, [some (.ref _), some (.int _), some (.int _), some (.int _), some (.int _), some (.int _), some (.int _)], [], _)) rfl (u_ rfl) ?_
              refine w_t (pc := 169) (e_s := (1, 2, 5, 0, 0, .null, [])) (y_s := (171, [some (.ref _), some (.int _), some (.int _), some (.int _), some (.int _), some (.int _), some (.int _)], [.int _], _)) rfl (u_ rfl) ?_
              refine w_t (pc := 171) (e_s := (15, 3, 209, 0, 0, .null, [])) (y_s := (209, [some (.ref _), some (.int _), some (.int _), some (.int _), some (.int _), some (.int _), some (.int _)], [], _)) rfl (u_ rfl) ?_
              refine w_t (pc := 209) (e_s := (17, 3, 69, 0, 0, .null, [])) (y_s := (69, [some (.ref _), some (.int _), some (.int _), some (.int _), some (.int _), some (.int _), some (.int _)], [], _)) rfl (u_ rfl) ?_
              exact t_s
            · replace t_s := t_s.2 c9_s
              refine w_t (pc := 20) (e_s := (2, 2, 4, 0, 0, .null, [])) (y_s := (22, [some (.long _), none, some (.long _), none, some (.long _), none], [.long _], _)) rfl (u_ rfl) ?_
              refine w_t (pc := 22) (e_s := (0, 1, 0, 0, 0, .long 1, [])) (y_s := (23, [some (.long _), none, some (.long _), none, some (.long _), none], [.long _, .long _], _)) rfl (u_ rfl) ?_
              refine w_t (pc := 23) (e_s := (0, 3, 0, 0, 0, .long 9, [(0, 1066)])) (y_s := (26, [some (.long _), none, some (.long _), none, some (.long _), none], [.long _, .long _, .long _], _)) rfl (u_ rfl) ?_
              refine wcI (pc := 26) (len_s := 3) rfl rfl (l := [some (.long _), none, some (.long _), none, some (.long _), none]) rfl ?_
              refine w_t (pc := 0) (e_s := (2, 1, 0, 0, 0, .null, [])) (y_s := (1, [some (.long _), none, some (.long _), none, some (.long _), none], [.long _], _)) rfl (u_ rfl) ?_
              refine w_t (pc := 1) (e_s := (2, 1, 2, 0, 0, .null, [])) (y_s := (2, [some (.long _), none, some (.long _), none, some (.long _), none], [.long _, .long _], _)) rfl (u_ rfl) ?_
              refine w_t (pc := 2) (e_s := (14, 1, 0, 0, 0, .null, [])) (y_s := (3, [some (.long _), none, some (.long _), none, some (.long _), none], [.int (lg_cmp _ _)], _)) rfl (u_ rfl) ?_
              refine wl2 (pc := 3) (len_s := 3) (Y := 1) rfl rfl (by decide) (fun c10_s => ?_) (fun c10_s => ?_)
              · replace t_s := t_s.1 c10_s
                refine w_t (pc := 17) (e_s := (0, 1, 0, 0, 0, .int 0, [])) (y_s := (18, [some (.long _), none, some (.long _), none, some (.long _), none], [.int _], _)) rfl (u_ rfl) ?_
                refine wrI (pc := 18) (len_s := 1) rfl hk ?_
                show wF _ 157 (29, [some (.long _), none, some (.long _), none, some (.long _), none], [.int _], _) _
                refine w_t (pc := 29) (e_s := (15, 3, 36, 0, 0, .null, [])) (y_s := (36, [some (.long _), none, some (.long _), none, some (.long _), none], [], _)) rfl (u_ rfl) ?_
                refine w_t (pc := 36) (e_s := (0, 1, 0, 0, 0, .int 0, [])) (y_s := (37, [some (.long _), none, some (.long _), none, some (.long _), none], [.int _], _)) rfl (u_ rfl) ?_
                refine wrI (pc := 37) (len_s := 1) rfl hk ?_
                show wF _ 160 (159, [some (.ref _), some (.int _), some (.int _), some (.int _), some (.int _), some (.int _), some (.int _)], [.int _], _) _
                refine w_t (pc := 159) (e_s := (15, 3, 166, 0, 0, .null, [])) (y_s := (166, [some (.ref _), some (.int _), some (.int _), some (.int _), some (.int _), some (.int _), some (.int _)], [], _)) rfl (u_ rfl) ?_
                refine w_t (pc := 166) (e_s := (0, 1, 0, 0, 0, .int 0, [])) (y_s := (167, [some (.ref _), some (.int _), some (.int _), some (.int _), some (.int _), some (.int _), some (.int _)], [.int _], _)) rfl (u_ rfl) ?_
                refine w_t (pc := 167) (e_s := (4, 2, 5, 0, 0, .null, [])) (y_s := (169, [some (.ref _), some (.int _), some (.int _), some (.int _), some (.int _), some (.int _), some (.int _)], [], _)) rfl (u_ rfl) ?_
                refine w_t (pc := 169) (e_s := (1, 2, 5, 0, 0, .null, [])) (y_s := (171, [some (.ref _), some (.int _), some (.int _), some (.int _), some (.int _), some (.int _), some (.int _)], [.int _], _)) rfl (u_ rfl) ?_
                refine w_t (pc := 171) (e_s := (15, 3, 209, 0, 0, .null, [])) (y_s := (209, [some (.ref _), some (.int _), some (.int _), some (.int _), some (.int _), some (.int _), some (.int _)], [], _)) rfl (u_ rfl) ?_
                refine w_t (pc := 209) (e_s := (17, 3, 69, 0, 0, .null, [])) (y_s := (69, [some (.ref _), some (.int _), some (.int _), some (.int _), some (.int _), some (.int _), some (.int _)], [], _)) rfl (u_ rfl) ?_
                exact t_s
              · replace t_s := t_s.2 c10_s
                refine w_t (pc := 6) (e_s := (2, 1, 0, 0, 0, .null, [])) (y_s := (7, [some (.long _), none, some (.long _), none, some (.long _), none], [.long _], _)) rfl (u_ rfl) ?_
                refine w_t (pc := 7) (e_s := (2, 2, 4, 0, 0, .null, [])) (y_s := (9, [some (.long _), none, some (.long _), none, some (.long _), none], [.long _, .long _], _)) rfl (u_ rfl) ?_
                refine w_t (pc := 9) (e_s := (14, 1, 0, 0, 0, .null, [])) (y_s := (10, [some (.long _), none, some (.long _), none, some (.long _), none], [.int (lg_cmp _ _)], _)) rfl (u_ rfl) ?_
                refine wl4 (pc := 10) (len_s := 3) (Y := 9) rfl rfl (by decide) (fun c11_s => ?_) (fun c11_s => ?_)
                · replace t_s := t_s.1 c11_s
                  refine w_t (pc := 17) (e_s := (0, 1, 0, 0, 0, .int 0, [])) (y_s := (18, [some (.long _), none, some (.long _), none, some (.long _), none], [.int _], _)) rfl (u_ rfl) ?_
                  refine wrI (pc := 18) (len_s := 1) rfl hk ?_
                  show wF _ 157 (29, [some (.long _), none, some (.long _), none, some (.long _), none], [.int _], _) _
                  refine w_t (pc := 29) (e_s := (15, 3, 36, 0, 0, .null, [])) (y_s := (36, [some (.long _), none, some (.long _), none, some (.long _), none], [], _)) rfl (u_ rfl) ?_
                  refine w_t (pc := 36) (e_s := (0, 1, 0, 0, 0, .int 0, [])) (y_s := (37, [some (.long _), none, some (.long _), none, some (.long _), none], [.int _], _)) rfl (u_ rfl) ?_
                  refine wrI (pc := 37) (len_s := 1) rfl hk ?_
                  show wF _ 160 (159, [some (.ref _), some (.int _), some (.int _), some (.int _), some (.int _), some (.int _), some (.int _)], [.int _], _) _
                  refine w_t (pc := 159) (e_s := (15, 3, 166, 0, 0, .null, [])) (y_s := (166, [some (.ref _), some (.int _), some (.int _), some (.int _), some (.int _), some (.int _), some (.int _)], [], _)) rfl (u_ rfl) ?_
                  refine w_t (pc := 166) (e_s := (0, 1, 0, 0, 0, .int 0, [])) (y_s := (167, [some (.ref _), some (.int _), some (.int _), some (.int _), some (.int _), some (.int _), some (.int _)], [.int _], _)) rfl (u_ rfl) ?_
                  refine w_t (pc := 167) (e_s := (4, 2, 5, 0, 0, .null, [])) (y_s := (169, [some (.ref _), some (.int _), some (.int _), some (.int _), some (.int _), some (.int _), some (.int _)], [], _)) rfl (u_ rfl) ?_
                  refine w_t (pc := 169) (e_s := (1, 2, 5, 0, 0, .null, [])) (y_s := (171, [some (.ref _), some (.int _), some (.int _), some (.int _), some (.int _), some (.int _), some (.int _)], [.int _], _)) rfl (u_ rfl) ?_
                  refine w_t (pc := 171) (e_s := (15, 3, 209, 0, 0, .null, [])) (y_s := (209, [some (.ref _), some (.int _), some (.int _), some (.int _), some (.int _), some (.int _), some (.int _)], [], _)) rfl (u_ rfl) ?_
                  refine w_t (pc := 209) (e_s := (17, 3, 69, 0, 0, .null, [])) (y_s := (69, [some (.ref _), some (.int _), some (.int _), some (.int _), some (.int _), some (.int _), some (.int _)], [], _)) rfl (u_ rfl) ?_
                  exact t_s
                · replace t_s := t_s.2 c11_s
                  refine w_t (pc := 13) (e_s := (0, 1, 0, 0, 0, .int 1, [])) (y_s := (14, [some (.long _), none, some (.long _), none, some (.long _), none], [.int _], _)) rfl (u_ rfl) ?_
                  refine w_t (pc := 14) (e_s := (17, 3, 18, 0, 0, .null, [])) (y_s := (18, [some (.long _), none, some (.long _), none, some (.long _), none], [.int _], _)) rfl (u_ rfl) ?_
                  refine wrI (pc := 18) (len_s := 1) rfl hk ?_
                  show wF _ 157 (29, [some (.long _), none, some (.long _), none, some (.long _), none], [.int _], _) _
                  refine w_t (pc := 29) (e_s := (15, 3, 36, 0, 0, .null, [])) (y_s := (32, [some (.long _), none, some (.long _), none, some (.long _), none], [], _)) rfl (u_ rfl) ?_
                  refine w_t (pc := 32) (e_s := (0, 1, 0, 0, 0, .int 1, [])) (y_s := (33, [some (.long _), none, some (.long _), none, some (.long _), none], [.int _], _)) rfl (u_ rfl) ?_
                  refine w_t (pc := 33) (e_s := (17, 3, 37, 0, 0, .null, [])) (y_s := (37, [some (.long _), none, some (.long _), none, some (.long _), none], [.int _], _)) rfl (u_ rfl) ?_
                  refine wrI (pc := 37) (len_s := 1) rfl hk ?_
                  show wF _ 160 (159, [some (.ref _), some (.int _), some (.int _), some (.int _), some (.int _), some (.int _), some (.int _)], [.int _], _) _
                  refine w_t (pc := 159) (e_s := (15, 3, 166, 0, 0, .null, [])) (y_s := (162, [some (.ref _), some (.int _), some (.int _), some (.int _), some (.int _), some (.int _), some (.int _)], [], _)) rfl (u_ rfl) ?_
                  refine w_t (pc := 162) (e_s := (0, 1, 0, 0, 0, .int 1, [])) (y_s := (163, [some (.ref _), some (.int _), some (.int _), some (.int _), some (.int _), some (.int _), some (.int _)], [.int _], _)) rfl (u_ rfl) ?_
                  refine w_t (pc := 163) (e_s := (17, 3, 167, 0, 0, .null, [])) (y_s := (167, [some (.ref _), some (.int _), some (.int _), some (.int _), some (.int _), some (.int _), some (.int _)], [.int _], _)) rfl (u_ rfl) ?_
                  refine w_t (pc := 167) (e_s := (4, 2, 5, 0, 0, .null, [])) (y_s := (169, [some (.ref _), some (.int _), some (.int _), some (.int _), some (.int _), some (.int _), some (.int _)], [], _)) rfl (u_ rfl) ?_
                  refine w_t (pc := 169) (e_s := (1, 2, 5, 0, 0, .null, [])) (y_s := (171, [some (.ref _), some (.int _), some (.int _), some (.int _), some (.int _), some (.int _), some (.int _)], [.int _], _)) rfl (u_ rfl) ?_
                  refine w_t (pc := 171) (e_s := (15, 3, 209, 0, 0, .null, [])) (y_s := (174, [some (.ref _), some (.int _), some (.int _), some (.int _), some (.int _), some (.int _), some (.int _)], [], _)) rfl (u_ rfl) ?_
                  refine w_t (pc := 174) (e_s := (3, 1, 0, 0, 0, .null, [])) (y_s := (175, [some (.ref _), some (.int _), some (.int _), some (.int _), some (.int _), some (.int _), some (.int _)], [.ref _], _)) rfl (u_ rfl) ?_
                  refine w_t (pc := 175) (e_s := (3, 1, 0, 0, 0, .null, [])) (y_s := (176, [some (.ref _), some (.int _), some (.int _), some (.int _), some (.int _), some (.int _), some (.int _)], [.ref _, .ref _], _)) rfl (u_ rfl) ?_
                  refine w20r (pc := 176) (len_s := 3) (q_s := 126) rfl (krq hk rfl) ?_
                  refine w_t (pc := 179) (e_s := (1, 2, 6, 0, 0, .null, [])) (y_s := (181, [some (.ref _), some (.int _), some (.int _), some (.int _), some (.int _), some (.int _), some (.int _)], [.int _, .ref _, .ref _], _)) rfl (u_ rfl) ?_
                  refine w23 (pc := 181) (len_s := 1) rfl (hk.1 126 1 360 rfl rfl) (fun c12_s => ?_)
                  refine w_t (pc := 182) (e_s := (11, 1, 0, 0, 0, .null, [])) (y_s := (183, [some (.ref _), some (.int _), some (.int _), some (.int _), some (.int _), some (.int _), some (.int _)], [.int (Int64.toInt32 _), .ref _], _)) rfl (u_ rfl) ?_
                  refine w_t (pc := 183) (e_s := (3, 1, 0, 0, 0, .null, [])) (y_s := (184, [some (.ref _), some (.int _), some (.int _), some (.int _), some (.int _), some (.int _), some (.int _)], [.ref _, .int _, .ref _], _)) rfl (u_ rfl) ?_
                  refine w20r (pc := 184) (len_s := 3) (q_s := 126) rfl (krq hk rfl) ?_
                  refine w_t (pc := 187) (e_s := (1, 2, 6, 0, 0, .null, [])) (y_s := (189, [some (.ref _), some (.int _), some (.int _), some (.int _), some (.int _), some (.int _), some (.int _)], [.int _, .ref _, .int _, .ref _], _)) rfl (u_ rfl) ?_
                  refine w_t (pc := 189) (e_s := (0, 1, 0, 0, 0, .int 1, [])) (y_s := (190, [some (.ref _), some (.int _), some (.int _), some (.int _), some (.int _), some (.int _), some (.int _)], [.int _, .int _, .ref _, .int _, .ref _], _)) rfl (u_ rfl) ?_
                  refine w_t (pc := 190) (e_s := (7, 1, 0, 0, 0, .null, [])) (y_s := (191, [some (.ref _), some (.int _), some (.int _), some (.int _), some (.int _), some (.int _), some (.int _)], [.int (_ + _), .ref _, .int _, .ref _], _)) rfl (u_ rfl) ?_
                  refine w23 (pc := 191) (len_s := 1) rfl (hk.1 126 1 360 rfl rfl) (fun c13_s => ?_)
                  refine w_t (pc := 192) (e_s := (11, 1, 0, 0, 0, .null, [])) (y_s := (193, [some (.ref _), some (.int _), some (.int _), some (.int _), some (.int _), some (.int _), some (.int _)], [.int (Int64.toInt32 _), .int _, .ref _], _)) rfl (u_ rfl) ?_
                  refine w_t (pc := 193) (e_s := (3, 1, 0, 0, 0, .null, [])) (y_s := (194, [some (.ref _), some (.int _), some (.int _), some (.int _), some (.int _), some (.int _), some (.int _)], [.ref _, .int _, .int _, .ref _], _)) rfl (u_ rfl) ?_
                  refine w20r (pc := 194) (len_s := 3) (q_s := 126) rfl (krq hk rfl) ?_
                  refine w_t (pc := 197) (e_s := (1, 2, 6, 0, 0, .null, [])) (y_s := (199, [some (.ref _), some (.int _), some (.int _), some (.int _), some (.int _), some (.int _), some (.int _)], [.int _, .ref _, .int _, .int _, .ref _], _)) rfl (u_ rfl) ?_
                  refine w_t (pc := 199) (e_s := (0, 1, 0, 0, 0, .int 2, [])) (y_s := (200, [some (.ref _), some (.int _), some (.int _), some (.int _), some (.int _), some (.int _), some (.int _)], [.int _, .int _, .ref _, .int _, .int _, .ref _], _)) rfl (u_ rfl) ?_
                  refine w_t (pc := 200) (e_s := (7, 1, 0, 0, 0, .null, [])) (y_s := (201, [some (.ref _), some (.int _), some (.int _), some (.int _), some (.int _), some (.int _), some (.int _)], [.int (_ + _), .ref _, .int _, .int _, .ref _], _)) rfl (u_ rfl) ?_
                  refine w23 (pc := 201) (len_s := 1) rfl (hk.1 126 1 360 rfl rfl) (fun c14_s => ?_)
                  refine w_t (pc := 202) (e_s := (11, 1, 0, 0, 0, .null, [])) (y_s := (203, [some (.ref _), some (.int _), some (.int _), some (.int _), some (.int _), some (.int _), some (.int _)], [.int (Int64.toInt32 _), .int _, .int _, .ref _], _)) rfl (u_ rfl) ?_
                  refine wcV (pc := 203) (len_s := 3) rfl rfl (l := [some (.ref _), some (.int _), some (.int _), some (.int _)]) rfl ?_
                  refine w_t (pc := 0) (e_s := (3, 1, 0, 0, 0, .null, [])) (y_s := (1, [some (.ref _), some (.int _), some (.int _), some (.int _)], [.ref _], _)) rfl (u_ rfl) ?_
                  refine w20r (pc := 1) (len_s := 3) (q_s := 107) rfl (krq hk rfl) ?_
                  refine w_t (pc := 4) (e_s := (3, 1, 0, 0, 0, .null, [])) (y_s := (5, [some (.ref _), some (.int _), some (.int _), some (.int _)], [.ref _, .ref _], _)) rfl (u_ rfl) ?_
                  refine w20 (pc := 5) (len_s := 3) rfl ?_
                  refine w_t (pc := 8) (e_s := (1, 1, 1, 0, 0, .null, [])) (y_s := (9, [some (.ref _), some (.int _), some (.int _), some (.int _)], [.int _, .int _, .ref _], _)) rfl (u_ rfl) ?_
                  refine w25 (pc := 9) (len_s := 1) rfl (hk.1 107 0 12 rfl rfl) (fun c15_s => ?_)
                  replace t_s := t_s c15_s
                  refine w_t (pc := 10) (e_s := (3, 1, 0, 0, 0, .null, [])) (y_s := (11, [some (.ref _), some (.int _), some (.int _), some (.int _)], [.ref _], _)) rfl (u_ rfl) ?_
                  refine w20r (pc := 11) (len_s := 3) (q_s := 108) rfl (krq hk rfl) ?_
                  refine w_t (pc := 14) (e_s := (3, 1, 0, 0, 0, .null, [])) (y_s := (15, [some (.ref _), some (.int _), some (.int _), some (.int _)], [.ref _, .ref _], _)) rfl (u_ rfl) ?_
                  refine w20 (pc := 15) (len_s := 3) rfl ?_
                  refine w_t (pc := 18) (e_s := (1, 1, 2, 0, 0, .null, [])) (y_s := (19, [some (.ref _), some (.int _), some (.int _), some (.int _)], [.int _, .int _, .ref _], _)) rfl (u_ rfl) ?_
                  refine w25 (pc := 19) (len_s := 1) rfl (hk.1 108 0 12 rfl rfl) (fun c16 => ?_)
                  refine w_t (pc := 20) (e_s := (3, 1, 0, 0, 0, .null, [])) (y_s := (21, [some (.ref _), some (.int _), some (.int _), some (.int _)], [.ref _], _)) rfl (u_ rfl) ?_
                  refine w20r (pc := 21) (len_s := 3) (q_s := 103) rfl (krq hk rfl) ?_
                  refine w_t (pc := 24) (e_s := (0, 2, 0, 0, 0, .int 68, [])) (y_s := (26, [some (.ref _), some (.int _), some (.int _), some (.int _)], [.int _, .ref _], _)) rfl (u_ rfl) ?_
                  refine w_t (pc := 26) (e_s := (3, 1, 0, 0, 0, .null, [])) (y_s := (27, [some (.ref _), some (.int _), some (.int _), some (.int _)], [.ref _, .int _, .ref _], _)) rfl (u_ rfl) ?_
                  refine w20 (pc := 27) (len_s := 3) rfl ?_
                  refine w_t (pc := 30) (e_s := (7, 1, 0, 0, 0, .null, [])) (y_s := (31, [some (.ref _), some (.int _), some (.int _), some (.int _)], [.int (_ + _), .ref _], _)) rfl (u_ rfl) ?_
                  refine w_t (pc := 31) (e_s := (1, 1, 3, 0, 0, .null, [])) (y_s := (32, [some (.ref _), some (.int _), some (.int _), some (.int _)], [.int _, .int _, .ref _], _)) rfl (u_ rfl) ?_
                  refine w25 (pc := 32) (len_s := 1) rfl (hk.1 103 0 104 rfl rfl) (fun c17 => ?_)
                  replace t_s := t_s c17
                  refine w_t (pc := 33) (e_s := (3, 1, 0, 0, 0, .null, [])) (y_s := (34, [some (.ref _), some (.int _), some (.int _), some (.int _)], [.ref _], _)) rfl (u_ rfl) ?_
                  refine w_t (pc := 34) (e_s := (39, 1, 0, 0, 0, .null, [])) (y_s := (35, [some (.ref _), some (.int _), some (.int _), some (.int _)], [.ref _, .ref _], _)) rfl (u_ rfl) ?_
                  refine w20 (pc := 35) (len_s := 3) rfl ?_
                  refine w_t (pc := 38) (e_s := (0, 1, 0, 0, 0, .int 1, [])) (y_s := (39, [some (.ref _), some (.int _), some (.int _), some (.int _)], [.int _, .int _, .ref _], _)) rfl (u_ rfl) ?_
                  refine w_t (pc := 39) (e_s := (7, 1, 0, 0, 0, .null, [])) (y_s := (40, [some (.ref _), some (.int _), some (.int _), some (.int _)], [.int (_ + _), .ref _], _)) rfl (u_ rfl) ?_
                  refine w21 (pc := 40) (len_s := 3) rfl ?_
                  refine wrV (pc := 43) (len_s := 1) rfl hk ?_
                  show wF _ 160 (206, [some (.ref _), some (.int _), some (.int _), some (.int _), some (.int _), some (.int _), some (.int _)], [], _) _
                  refine w_t (pc := 206) (e_s := (19, 3, 4, 0, 0, .int 1, [])) (y_s := (209, [some (.ref _), some (.int _), some (.int _), some (.int _), some (.int _), some (.int _), some (.int _)], [], _)) rfl (u_ rfl) ?_
                  refine w_t (pc := 209) (e_s := (17, 3, 69, 0, 0, .null, [])) (y_s := (69, [some (.ref _), some (.int _), some (.int _), some (.int _), some (.int _), some (.int _), some (.int _)], [], _)) rfl (u_ rfl) ?_
                  exact t_s
/-! ROADS: class and reference lay the same number of them. -/
noncomputable def vld (a_s b_s m_s : Int64) : Prop := 0 ≤ a_s.toInt ∧ a_s.toInt < 8 ∧ 0 ≤ b_s.toInt ∧ b_s.toInt < 8 ∧ ¬ a_s.toInt = b_s.toInt ∧ 1 ≤ m_s.toInt ∧ m_s.toInt ≤ 9
noncomputable def okR (c_s : Nat → Int64) (len_s i_s R_s j_s : Nat) : Prop := i_s + 3 * j_s + 3 ≤ len_s ∧ R_s + j_s < 12 ∧ vld (c_s (i_s + 3 * j_s)) (c_s (i_s + 3 * j_s + 1)) (c_s (i_s + 3 * j_s + 2))
noncomputable def lstR (c_s : Nat → Int64) (len_s i_s R_s n_s k_s : Nat) : Prop := k_s ≤ n_s ∧ (∀ j_s, j_s < k_s → okR c_s len_s i_s R_s j_s) ∧ (k_s = n_s ∨ ¬ okR c_s len_s i_s R_s k_s)
theorem lstR_det {c_s : Nat → Int64} {len_s i_s R_s n_s k_s k1_s : Nat} (h_s : lstR c_s len_s i_s R_s n_s k_s) (h1 : lstR c_s len_s i_s R_s n_s k1_s) : k_s = k1_s := by
  obtain ⟨a1_s, a2, a3⟩ := h_s
  obtain ⟨b1, b2, b3⟩ := h1
  rcases Nat.lt_trichotomy k_s k1_s with e_s | e_s | e_s
  · rcases a3 with a3 | a3
    · omega
    · exact absurd (b2 k_s e_s) a3
  · exact e_s
  · rcases b3 with b3 | b3
    · omega
    · exact absurd (a2 k1_s e_s) b3
noncomputable def ct96 (c_s : Nat → Int64) (i_s R_s k_s : Nat) (f_s : Nat → Nat → Int32) : Prop := ∀ m_s, m_s < k_s → f_s (28 + (R_s + m_s)) 0 = (c_s (i_s + 3 * m_s)).toInt32 ∧ f_s (28 + (R_s + m_s)) 1 = (c_s (i_s + 3 * m_s + 1)).toInt32 ∧ f_s (28 + (R_s + m_s)) 2 = (c_s (i_s + 3 * m_s + 2)).toInt32
noncomputable def fr96 (R_s k_s : Nat) (f0_s f_s : Nat → Nat → Int32) : Prop := ∀ o j_s, ¬ (o = 7 ∧ j_s = 8) → ¬ (28 + R_s ≤ o ∧ o < 28 + R_s + k_s ∧ j_s ≤ 2) → f_s o j_s = f0_s o j_s
noncomputable def ct60 (c_s : Nat → Int64) (i_s R_s k_s : Nat) (f_s : Nat → Nat → Int32) : Prop := ∀ m_s, m_s < k_s → f_s 107 (R_s + m_s) = (c_s (i_s + 3 * m_s)).toInt32 ∧ f_s 108 (R_s + m_s) = (c_s (i_s + 3 * m_s + 1)).toInt32 ∧ f_s 103 (68 + (R_s + m_s)) = (c_s (i_s + 3 * m_s + 2)).toInt32
noncomputable def fr60 (R_s k_s : Nat) (f0_s f_s : Nat → Nat → Int32) : Prop := ∀ o j_s, ¬ (o = 102 ∧ j_s = 8) → ¬ ((o = 107 ∨ o = 108) ∧ R_s ≤ j_s ∧ j_s < R_s + k_s) → ¬ (o = 103 ∧ 68 + R_s ≤ j_s ∧ j_s < 68 + R_s + k_s) → f_s o j_s = f0_s o j_s
theorem i2_ : (2 : Int32).toInt = 2 := rfl
theorem i3_ : (3 : Int32).toInt = 3 := rfl
theorem i68_ : (68 : Int32).toInt = 68 := rfl
theorem rd96 {h_s : zH} {K_s : Int32 → zH → Prop} {d_s n_s R_s i_s len_s : Nat} {c_s : Nat → Int64} {f0_s : Nat → Nat → Int32} {x1_s x2_s x3 : Int32} (hk : hKn h_s) (hd_s : d_s < 6) (hc_s : ∀ k_s, h_s.2.2.1 (76 + 2 * d_s + 1) k_s = c_s k_s) (hlen : (f0_s (76 + 2 * d_s) 3).toInt = (len_s : Int)) (hl60 : len_s ≤ 60) (hx3 : x3.toInt = (n_s : Int)) (hn : n_s ≤ 12) (t_s : ∀ (k_s : Nat) (v_s : Int32) f1_s, v_s.toInt = (k_s : Int) → lstR c_s len_s i_s R_s n_s k_s → (f1_s 7 8).toInt = ((R_s + k_s : Nat) : Int) → R_s + k_s ≤ 12 → ct96 c_s i_s R_s k_s f1_s → fr96 R_s k_s f0_s f1_s → K_s v_s (h_s.1, f1_s, h_s.2.2.1, h_s.2.2.2)) : ∀ (F_s j_s : Nat) (x5_s x6 : Int32) (f_s : Nat → Nat → Int32), x5_s.toInt = (j_s : Int) → x6.toInt = ((i_s + 3 * j_s : Nat) : Int) → j_s ≤ n_s → (∀ m_s, m_s < j_s → okR c_s len_s i_s R_s m_s) → (f_s 7 8).toInt = ((R_s + j_s : Nat) : Int) → R_s + j_s ≤ 12 → ct96 c_s i_s R_s j_s f_s → fr96 R_s j_s f0_s f_s → wF F_s 96 (61, [some (.ref 6), some (.int x1_s), some (.int x2_s), some (.int x3), some (.ref (76 + 2 * d_s)), some (.int x5_s), some (.int x6)], [], (h_s.1, f_s, h_s.2.2.1, h_s.2.2.2)) (gI K_s)
  | 0, _, _, _, _, _, _, _, _, _, _, _, _ => wF_zero
  | F_s + 1, j_s, x5_s, x6, f_s, hx5, hx6, hj, hok, hR, hR12, hct, hfr => by
    have el : (f_s (76 + 2 * d_s) 3).toInt = (len_s : Int) := by
      rw [hfr _ _ (by omega) (by omega)]
      exact hlen
    have e2_s : (f_s (76 + 2 * d_s) 3 - 2).toInt = (len_s : Int) - 2 := by
      rw [na_sub (by rw [i2_]; omega) (by rw [i2_]; omega), i2_, el]
    have fail_s : ¬ okR c_s len_s i_s R_s j_s → K_s x5_s (h_s.1, f_s, h_s.2.2.1, h_s.2.2.2) := fun w_s => t_s j_s x5_s f_s hx5 ⟨hj, hok, Or.inr w_s⟩ hR hR12 hct hfr
    have all_ : j_s = n_s → K_s x5_s (h_s.1, f_s, h_s.2.2.1, h_s.2.2.2) := fun w_s => t_s j_s x5_s f_s hx5 ⟨hj, hok, Or.inl w_s⟩ hR hR12 hct hfr
    by_cases hb_s : i_s + 3 * j_s + 3 ≤ len_s
    · have z0 := azix (i := x6) (by omega)
      have a1_s := in1_ (x_s := x6) (by omega)
      have a2 : (x6 + 2).toInt = x6.toInt + 2 := by rw [na_add (by rw [i2_]; omega) (by rw [i2_]; omega), i2_]
      have a3 : (x6 + 3).toInt = x6.toInt + 3 := by rw [na_add (by rw [i3_]; omega) (by rw [i3_]; omega), i3_]
      have z1 := azix (i := x6 + 1) (by omega)
      have z2 := azix (i := x6 + 2) (by omega)
      have y0 : zix x6 = i_s + 3 * j_s := by omega
      have y1 : zix (x6 + 1) = i_s + 3 * j_s + 1 := by omega
      have y2 : zix (x6 + 2) = i_s + 3 * j_s + 2 := by omega
      have cA_s : h_s.2.2.1 (76 + 2 * d_s + 1) (zix x6) = c_s (i_s + 3 * j_s) := by rw [y0]; exact hc_s _
      have cB_s : h_s.2.2.1 (76 + 2 * d_s + 1) (zix (x6 + 1)) = c_s (i_s + 3 * j_s + 1) := by rw [y1]; exact hc_s _
      have cC : h_s.2.2.1 (76 + 2 * d_s + 1) (zix (x6 + 2)) = c_s (i_s + 3 * j_s + 2) := by rw [y2]; exact hc_s _
      have zr_ := azix (i := f_s 7 8) (by omega)
      have yr : zix (f_s 7 8) = R_s + j_s := by omega
      refine sg_96_61 (h_s := (h_s.1, f_s, h_s.2.2.1, h_s.2.2.2)) hd_s hk ⟨fun c1_s => ⟨fun c2_s => fun c3_s => fun c4_s => fun c5_s => ⟨fun c6_s => ?_, fun c6_s => ⟨fun c7_s => ⟨fun c8_s => ?_, fun c8_s => ⟨fun c9_s => ⟨fun c10_s => ?_, fun c10_s => ⟨fun c11_s => ?_, fun c11_s => ⟨fun c12_s => ?_, fun c12_s => ⟨fun c13_s => fun c14_s => ⟨fun c15_s => ?_, fun c15_s => ?_⟩, fun c13_s => ?_⟩⟩⟩⟩, fun c9_s => ?_⟩⟩, fun c7_s => ?_⟩⟩, fun c2_s => ?_⟩, fun c1_s => ?_⟩
      · exact fail_s (fun w_s => by
          have w_s := w_s.2.2
          unfold vld at w_s
          dsimp only at c6_s
          rw [cA_s] at c6_s
          omega)
      · exact fail_s (fun w_s => by
          have w_s := w_s.2.2
          unfold vld at w_s
          dsimp only at c8_s
          rw [cB_s] at c8_s
          omega)
      · exact fail_s (fun w_s => by
          have w_s := w_s.2.2
          unfold vld at w_s
          dsimp only at c10_s
          rw [cA_s, cB_s] at c10_s
          omega)
      · exact fail_s (fun w_s => by
          have w_s := w_s.2.2
          unfold vld at w_s
          dsimp only at c11_s
          rw [cC] at c11_s
          omega)
      · exact fail_s (fun w_s => by
          have w_s := w_s.2.2
          unfold vld at w_s
          dsimp only at c12_s
          rw [cC] at c12_s
          omega)
      · exfalso
        dsimp only at c15_s
        rw [zne_up (by omega), zne_up (by omega), zne_up (by omega)] at c15_s
        omega
      · dsimp only at c6_s c7_s c8_s c9_s c10_s c11_s c12_s c13_s
        rw [cA_s] at c6_s c7_s
        rw [cB_s] at c8_s c9_s
        rw [cA_s, cB_s] at c10_s
        rw [cC] at c11_s c12_s
        have okj : okR c_s len_s i_s R_s j_s := ⟨hb_s, by omega, by unfold vld; omega⟩
        dsimp only
        rw [cA_s, cB_s, cC, yr]
        refine rd96 hk hd_s hc_s hlen hl60 hx3 hn t_s F_s (j_s + 1) (x5_s + 1) (x6 + 3) _ ?_ ?_ ?_ (fun m_s hm_s => ?_) ?_ (by omega) (fun m_s hm_s => ?_) (fun o k_s g1 g2 => ?_)
        · rw [in1_ (by omega)]
          omega
        · omega
        · omega
        · by_cases e_s : m_s = j_s
          · rw [e_s]
            exact okj
          · exact hok m_s (by omega)
        · rw [zsame_up, zne_up (by omega), zne_up (by omega), zne_up (by omega), in1_ (by omega)]
          omega
        · by_cases e_s : m_s = j_s
          · subst e_s
            refine ⟨?_, ?_, ?_⟩
            · rw [zne_up (by omega), zne_up (by omega), zne_up (by omega), zsame_up]
            · rw [zne_up (by omega), zne_up (by omega), zsame_up]
            · rw [zne_up (by omega), zsame_up]
          · have g_s := hct m_s (by omega)
            refine ⟨?_, ?_, ?_⟩
            · rw [zne_up (by omega), zne_up (by omega), zne_up (by omega), zne_up (by omega)]
              exact g_s.1
            · rw [zne_up (by omega), zne_up (by omega), zne_up (by omega), zne_up (by omega)]
              exact g_s.2.1
            · rw [zne_up (by omega), zne_up (by omega), zne_up (by omega), zne_up (by omega)]
              exact g_s.2.2
        · rw [zne_up (by omega), zne_up (by omega), zne_up (by omega), zne_up (by omega)]
          exact hfr o k_s g1 (by omega)
      · exact fail_s (fun w_s => by
          have w_s := w_s.2.1
          dsimp only at c13_s
          omega)
      · exact fail_s (fun w_s => by
          have w_s := w_s.2.2
          unfold vld at w_s
          dsimp only at c9_s
          rw [cB_s] at c9_s
          omega)
      · exact fail_s (fun w_s => by
          have w_s := w_s.2.2
          unfold vld at w_s
          dsimp only at c7_s
          rw [cA_s] at c7_s
          omega)
      · exfalso
        dsimp only at c2_s
        omega
      · exact all_ (by omega)
    · refine sg_96_61 (h_s := (h_s.1, f_s, h_s.2.2.1, h_s.2.2.2)) hd_s hk ⟨fun c1_s => ⟨fun c2_s => ?_, fun c2_s => fail_s (fun w_s => hb_s w_s.1)⟩, fun c1_s => all_ (by omega)⟩
      exfalso
      dsimp only at c2_s
      omega
theorem rd60 {h_s : zH} {K_s : Int32 → zH → Prop} {n_s R_s i_s len_s : Nat} {c_s : Nat → Int64} {f0_s : Nat → Nat → Int32} {x1_s x2_s x3 : Int32} (hk : hKn h_s) (b1 : 0 ≤ x1_s.toInt) (b2 : x1_s.toInt ≤ 5) (hx2 : x2_s.toInt = (i_s : Int)) (hc_s : ∀ k_s, k_s < 60 → h_s.2.2.1 126 (60 * zix x1_s + k_s) = c_s k_s) (hlen : (f0_s 125 (zix x1_s)).toInt = (len_s : Int)) (hl60 : len_s ≤ 60) (hx3 : x3.toInt = (n_s : Int)) (hn : n_s ≤ 12) (t_s : ∀ (k_s : Nat) (v_s : Int32) f1_s, v_s.toInt = (k_s : Int) → lstR c_s len_s i_s R_s n_s k_s → (f1_s 102 8).toInt = ((R_s + k_s : Nat) : Int) → R_s + k_s ≤ 12 → ct60 c_s i_s R_s k_s f1_s → fr60 R_s k_s f0_s f1_s → K_s v_s (h_s.1, f1_s, h_s.2.2.1, h_s.2.2.2)) : ∀ (F_s j_s : Nat) (x4_s x5_s : Int32) (l6 : Option Value) (f_s : Nat → Nat → Int32), x4_s.toInt = (j_s : Int) → ¬ x5_s.toInt = 0 → j_s ≤ n_s → (∀ m_s, m_s < j_s → okR c_s len_s i_s R_s m_s) → (f_s 102 8).toInt = ((R_s + j_s : Nat) : Int) → R_s + j_s ≤ 12 → ct60 c_s i_s R_s j_s f_s → fr60 R_s j_s f0_s f_s → wF F_s 160 (69, [some (.ref 102), some (.int x1_s), some (.int x2_s), some (.int x3), some (.int x4_s), some (.int x5_s), l6], [], (h_s.1, f_s, h_s.2.2.1, h_s.2.2.2)) (gI K_s)
  | 0, _, _, _, _, _, _, _, _, _, _, _, _, _ => wF_zero
  | F_s + 1, j_s, x4_s, x5_s, l6, f_s, hx4, h5, hj, hok, hR, hR12, hct, hfr => by
    have el : (f_s 125 (zix x1_s)).toInt = (len_s : Int) := by
      rw [hfr _ _ (by omega) (by omega) (by omega)]
      exact hlen
    have e3_s : (3 * x4_s).toInt = 3 * (j_s : Int) := by
      rw [na_mul (by rw [i3_]; omega) (by rw [i3_]; omega), i3_, hx4]
    have e0_s : (f_s 125 (zix x1_s) - 3).toInt = (len_s : Int) - 3 := by
      rw [na_sub (by rw [i3_]; omega) (by rw [i3_]; omega), i3_, el]
    have e1_s : (f_s 125 (zix x1_s) - 3 - 3 * x4_s).toInt = (len_s : Int) - 3 - 3 * (j_s : Int) := by
      rw [na_sub (by rw [e0_s, e3_s]; omega) (by rw [e0_s, e3_s]; omega), e0_s, e3_s]
    have fail_s : ¬ okR c_s len_s i_s R_s j_s → ∀ (F1_s : Nat) (l : Option Value), wF F1_s 160 (69, [some (.ref 102), some (.int x1_s), some (.int x2_s), some (.int x3), some (.int x4_s), some (.int 0), l], [], (h_s.1, f_s, h_s.2.2.1, h_s.2.2.2)) (gI K_s) := fun w_s F1_s l => wF_le (Nat.le_succ F1_s) (sg_160_69 (h_s := (h_s.1, f_s, h_s.2.2.1, h_s.2.2.2)) hk ⟨fun _ => t_s j_s x4_s f_s hx4 ⟨hj, hok, Or.inr w_s⟩ hR hR12 hct hfr, fun q_s => absurd rfl q_s⟩)
    have stop_s : ¬ okR c_s len_s i_s R_s j_s → ∀ (x6 : Int32), wF F_s 160 (126, [some (.ref 102), some (.int x1_s), some (.int x2_s), some (.int x3), some (.int x4_s), some (.int 0), some (.int x6)], [], (h_s.1, f_s, h_s.2.2.1, h_s.2.2.2)) (gI K_s) := fun w_s x6 => wF_le (Nat.le_succ F_s) (sg_160_126 (h_s := (h_s.1, f_s, h_s.2.2.1, h_s.2.2.2)) hk ⟨fun _ => fail_s w_s F_s _, fun q_s => absurd rfl q_s⟩)
    refine sg_160_69 (h_s := (h_s.1, f_s, h_s.2.2.1, h_s.2.2.2)) hk ⟨fun q_s => absurd q_s h5, fun _ => ⟨fun c2_s => fun c3_s => ⟨fun c4_s => ?_, fun c4_s => ⟨fun c5_s => ?_, fun c5_s => ?_⟩⟩, fun c2_s => t_s j_s x4_s f_s hx4 ⟨hj, hok, Or.inl (by omega)⟩ hR hR12 hct hfr⟩⟩
    · exact stop_s (fun w_s => by
        have w_s := w_s.1
        dsimp only at c4_s
        omega) _
    · dsimp only at c4_s c5_s
      have a0_s := azix (i := x1_s) b1
      have g1 := a60_ (d_s := x1_s) (i_s := x2_s) b1 b2 (by omega) (by omega)
      have g2 : (60 * x1_s + x2_s + 3 * x4_s).toInt = 60 * x1_s.toInt + (i_s : Int) + 3 * (j_s : Int) := by
        rw [na_add (by rw [g1, e3_s]; omega) (by rw [g1, e3_s]; omega), g1, e3_s, hx2]
      generalize hx6 : 60 * x1_s + x2_s + 3 * x4_s = x6 at g2 ⊢
      have z0 := azix (i := x6) (by omega)
      have a1_s := in1_ (x_s := x6) (by omega)
      have a2 : (x6 + 2).toInt = x6.toInt + 2 := by rw [na_add (by rw [i2_]; omega) (by rw [i2_]; omega), i2_]
      have z1 := azix (i := x6 + 1) (by omega)
      have z2 := azix (i := x6 + 2) (by omega)
      have y0 : zix x6 = 60 * zix x1_s + (i_s + 3 * j_s) := by omega
      have y1 : zix (x6 + 1) = 60 * zix x1_s + (i_s + 3 * j_s + 1) := by omega
      have y2 : zix (x6 + 2) = 60 * zix x1_s + (i_s + 3 * j_s + 2) := by omega
      have cA_s : h_s.2.2.1 126 (zix x6) = c_s (i_s + 3 * j_s) := by rw [y0]; exact hc_s _ (by omega)
      have cB_s : h_s.2.2.1 126 (zix (x6 + 1)) = c_s (i_s + 3 * j_s + 1) := by rw [y1]; exact hc_s _ (by omega)
      have cC : h_s.2.2.1 126 (zix (x6 + 2)) = c_s (i_s + 3 * j_s + 2) := by rw [y2]; exact hc_s _ (by omega)
      have zr_ := azix (i := f_s 102 8) (by omega)
      have yr : zix (f_s 102 8) = R_s + j_s := by omega
      have e68 : (68 + f_s 102 8).toInt = 68 + ((R_s + j_s : Nat) : Int) := by rw [na_add (by rw [i68_]; omega) (by rw [i68_]; omega), i68_, hR]
      have z68 := azix (i := 68 + f_s 102 8) (by omega)
      have y68 : zix (68 + f_s 102 8) = 68 + (R_s + j_s) := by omega
      refine wF_le (Nat.le_succ F_s) (sg_160_126 (h_s := (h_s.1, f_s, h_s.2.2.1, h_s.2.2.2)) hk ⟨fun q_s => absurd q_s (by decide), fun _ => fun k2_s => fun k3_s => fun k4_s => ⟨fun k5_s => ?_, fun k5_s => ⟨fun k6_s => ?_, fun k6_s => ⟨fun k7_s => ?_, fun k7_s => ⟨fun k8_s => ?_, fun k8_s => ⟨fun k9 => ?_, fun k9 => ⟨fun k10 => ?_, fun k10 => ⟨fun k11 => ?_, fun k11 => fun k15 => fun k17 => ?_⟩⟩⟩⟩⟩⟩⟩⟩)
      · exact fail_s (fun w_s => by
          have w_s := w_s.2.2
          unfold vld at w_s
          dsimp only at k5_s
          rw [cA_s] at k5_s
          omega) F_s _
      · exact fail_s (fun w_s => by
          have w_s := w_s.2.2
          unfold vld at w_s
          dsimp only at k6_s
          rw [cA_s] at k6_s
          omega) F_s _
      · exact fail_s (fun w_s => by
          have w_s := w_s.2.2
          unfold vld at w_s
          dsimp only at k7_s
          rw [cB_s] at k7_s
          omega) F_s _
      · exact fail_s (fun w_s => by
          have w_s := w_s.2.2
          unfold vld at w_s
          dsimp only at k8_s
          rw [cB_s] at k8_s
          omega) F_s _
      · exact fail_s (fun w_s => by
          have w_s := w_s.2.2
          unfold vld at w_s
          dsimp only at k9
          rw [cA_s, cB_s] at k9
          omega) F_s _
      · exact fail_s (fun w_s => by
          have w_s := w_s.2.2
          unfold vld at w_s
          dsimp only at k10
          rw [cC] at k10
          omega) F_s _
      · exact fail_s (fun w_s => by
          have w_s := w_s.2.2
          unfold vld at w_s
          dsimp only at k11
          rw [cC] at k11
          omega) F_s _
      · dsimp only at k5_s k6_s k7_s k8_s k9 k10 k11
        rw [cA_s] at k5_s k6_s
        rw [cB_s] at k7_s k8_s
        rw [cA_s, cB_s] at k9
        rw [cC] at k10 k11
        have okj : okR c_s len_s i_s R_s j_s := ⟨by omega, by omega, by unfold vld; omega⟩
        dsimp only
        rw [cA_s, cB_s, cC, yr, y68]
        refine rd60 hk b1 b2 hx2 hc_s hlen hl60 hx3 hn t_s F_s (j_s + 1) (x4_s + 1) 1 _ _ ?_ (by decide) (by omega) (fun m_s hm_s => ?_) ?_ (by omega) (fun m_s hm_s => ?_) (fun o k_s g3_s g4 g5_s => ?_)
        · rw [in1_ (by omega)]
          omega
        · by_cases e_s : m_s = j_s
          · rw [e_s]
            exact okj
          · exact hok m_s (by omega)
        · rw [zsame_up, in1_ (by omega)]
          omega
        · by_cases e_s : m_s = j_s
          · subst e_s
            refine ⟨?_, ?_, ?_⟩
            · rw [zne_up (by omega), zne_up (by omega), zne_up (by omega), zsame_up]
            · rw [zne_up (by omega), zne_up (by omega), zsame_up]
            · rw [zne_up (by omega), zsame_up]
          · have g_s := hct m_s (by omega)
            refine ⟨?_, ?_, ?_⟩
            · rw [zne_up (by omega), zne_up (by omega), zne_up (by omega), zne_up (by omega)]
              exact g_s.1
            · rw [zne_up (by omega), zne_up (by omega), zne_up (by omega), zne_up (by omega)]
              exact g_s.2.1
            · rw [zne_up (by omega), zne_up (by omega), zne_up (by omega), zne_up (by omega)]
              exact g_s.2.2
        · rw [zne_up (by omega), zne_up (by omega), zne_up (by omega), zne_up (by omega)]
          exact hfr o k_s g3_s (by omega) (by omega)
    · exact stop_s (fun w_s => by
        have w_s := w_s.2.1
        dsimp only at c5_s
        omega) _
/-- how many roads there are -/
noncomputable def tR (h_s : zH) : Prop := h_s.2.1 7 8 = h_s.2.1 102 8 ∧ 0 ≤ (h_s.2.1 7 8).toInt ∧ (h_s.2.1 7 8).toInt ≤ 12
noncomputable def hcRd (h : zH) : Bool := decide (h.2.1 7 8 = 0) && decide (h.2.1 102 8 = 0)
/-! ROADS: by turns. -/
noncomputable def badR (x1_s x2_s : Int32) : Prop := x1_s.toInt < 0 ∨ (x1_s / 10).toInt < 0 ∨ 7 < (x1_s / 10).toInt ∨ (x1_s - x1_s / 10 * 10).toInt < 0 ∨ 7 < (x1_s - x1_s / 10 * 10).toInt ∨ (x1_s / 10).toInt = (x1_s - x1_s / 10 * 10).toInt ∨ x2_s.toInt < 1 ∨ 9 < x2_s.toInt
section RO
variable {F_s : Nat} {h_s : zH} {K_s : Int32 → zH → Prop} {x1_s x2_s x3 : Int32} {R_s : Nat}
theorem sp_95 (hk : hKn h_s) (hR : (h_s.2.1 7 8).toInt = (R_s : Int)) (t1_s : badR x1_s x2_s → K_s (-1) h_s) (t2_s : ¬ badR x1_s x2_s → R_s < 12 → ∀ f1_s, f1_s 7 8 = h_s.2.1 7 8 + 1 → f1_s (28 + R_s) 0 = x1_s / 10 → f1_s (28 + R_s) 1 = x1_s - x1_s / 10 * 10 → f1_s (28 + R_s) 2 = x2_s → (∀ o k_s, ¬ (o = 7 ∧ k_s = 8) → ¬ (o = 28 + R_s ∧ k_s ≤ 2) → f1_s o k_s = h_s.2.1 o k_s) → K_s (h_s.2.1 7 8) (h_s.1, f1_s, h_s.2.2.1, h_s.2.2.2)) (t3_s : ¬ badR x1_s x2_s → 12 ≤ R_s → K_s (-3) h_s) : wF F_s 95 (0, [some (.ref 6), some (.int x1_s), some (.int x2_s)], [], h_s) (gI K_s) := by
  have z_s := azix (i := h_s.2.1 7 8) (by omega)
  have y_s : zix (h_s.2.1 7 8) = R_s := by omega
  refine wF_le (Nat.le_succ F_s) (sg_95_0 hk ⟨fun c1_s => ?_, fun c1_s => ⟨fun c2_s => ?_, fun c2_s => ⟨fun c3_s => ⟨fun c4_s => ?_, fun c4_s => ⟨fun c5_s => ⟨fun c6_s => ?_, fun c6_s => ⟨fun c7_s => ?_, fun c7_s => ⟨fun c8_s => ?_, fun c8_s => ⟨fun c9_s => fun c10_s => ?_, fun c9_s => ?_⟩⟩⟩⟩, fun c5_s => ?_⟩⟩, fun c3_s => ?_⟩⟩⟩)
  · exact t1_s (by unfold badR; omega)
  · exact t1_s (by unfold badR; omega)
  · exact t1_s (by unfold badR; omega)
  · exact t1_s (by unfold badR; omega)
  · exact t1_s (by unfold badR; omega)
  · exact t1_s (by unfold badR; omega)
  · rw [y_s]
    have q_s := t2_s (by unfold badR; omega) (by omega) (zup (zup (zup (zup h_s.2.1 (28 + R_s) 0 (x1_s / 10)) (28 + R_s) 1 (x1_s - x1_s / 10 * 10)) (28 + R_s) 2 x2_s) 7 8 (h_s.2.1 7 8 + 1)) zsame_up (by rw [zne_up (by omega), zne_up (by omega), zne_up (by omega), zsame_up]) (by rw [zne_up (by omega), zne_up (by omega), zsame_up]) (by rw [zne_up (by omega), zsame_up]) (fun o k_s g1 g2 => by rw [zne_up (by omega), zne_up (by omega), zne_up (by omega), zne_up (by omega)])
    rw [show zup (zup (zup h_s.2.1 (28 + R_s) 0 (x1_s / 10)) (28 + R_s) 1 (x1_s - x1_s / 10 * 10)) (28 + R_s) 2 x2_s 7 8 = h_s.2.1 7 8 by rw [zne_up (by omega), zne_up (by omega), zne_up (by omega)]]
    exact q_s
  · exact t3_s (by unfold badR; omega) (by omega)
  · exact t1_s (by unfold badR; omega)
  · exact t1_s (by unfold badR; omega)
theorem sp_159 (hk : hKn h_s) (hR : (h_s.2.1 102 8).toInt = (R_s : Int)) (hR12 : R_s ≤ 12) (t1_s : badR x1_s x2_s → K_s (-1) h_s) (t2_s : ¬ badR x1_s x2_s → R_s < 12 → ∀ f1_s, f1_s 102 8 = h_s.2.1 102 8 + 1 → f1_s 107 R_s = x1_s / 10 → f1_s 108 R_s = x1_s - x1_s / 10 * 10 → f1_s 103 (68 + R_s) = x2_s → (∀ o k_s, ¬ (o = 102 ∧ k_s = 8) → ¬ ((o = 107 ∨ o = 108) ∧ k_s = R_s) → ¬ (o = 103 ∧ k_s = 68 + R_s) → f1_s o k_s = h_s.2.1 o k_s) → K_s (h_s.2.1 102 8 + 1 - 1) (h_s.1, f1_s, h_s.2.2.1, h_s.2.2.2)) (t3_s : ¬ badR x1_s x2_s → 12 ≤ R_s → K_s (-3) h_s) : wF F_s 159 (0, [some (.ref 102), some (.int x1_s), some (.int x2_s)], [], h_s) (gI K_s) := by
  have z_s := azix (i := h_s.2.1 102 8) (by omega)
  have y_s : zix (h_s.2.1 102 8) = R_s := by omega
  have e68 : (68 + h_s.2.1 102 8).toInt = 68 + (R_s : Int) := by rw [na_add (by rw [i68_]; omega) (by rw [i68_]; omega), i68_, hR]
  have z68 := azix (i := 68 + h_s.2.1 102 8) (by omega)
  have y68 : zix (68 + h_s.2.1 102 8) = 68 + R_s := by omega
  refine wF_le (Nat.le_succ F_s) (sg_159_0 hk ⟨fun c1_s => ?_, fun c1_s => ⟨fun c2_s => ?_, fun c2_s => ⟨fun c3_s => ?_, fun c3_s => ⟨fun c4_s => ?_, fun c4_s => ⟨fun c5_s => ?_, fun c5_s => ⟨fun c6_s => ?_, fun c6_s => ⟨fun c7_s => ?_, fun c7_s => ⟨fun c8_s => ?_, fun c8_s => ⟨fun c9_s => ?_, fun c9_s => fun c10_s => fun c12_s => ?_⟩⟩⟩⟩⟩⟩⟩⟩⟩)
  · exact t1_s (by unfold badR; omega)
  · exact t1_s (by unfold badR; omega)
  · exact t1_s (by unfold badR; omega)
  · exact t1_s (by unfold badR; omega)
  · exact t1_s (by unfold badR; omega)
  · exact t1_s (by unfold badR; omega)
  · exact t1_s (by unfold badR; omega)
  · exact t1_s (by unfold badR; omega)
  · exact t3_s (by unfold badR; omega) (by omega)
  · rw [y_s, y68]
    exact t2_s (by unfold badR; omega) (by omega) _ zsame_up (by rw [zne_up (by omega), zne_up (by omega), zne_up (by omega), zsame_up]) (by rw [zne_up (by omega), zne_up (by omega), zsame_up]) (by rw [zne_up (by omega), zsame_up]) (fun o k_s g1 g2 g3_s => by rw [zne_up (by omega), zne_up (by omega), zne_up (by omega), zne_up (by omega)])
theorem pr_road (hk : hKn h_s) (hr : tR h_s) : wF F_s 95 (0, [some (.ref 6), some (.int x1_s), some (.int x2_s)], [], h_s) (gI (fun v_s h1 => wF F_s 159 (0, [some (.ref 102), some (.int x1_s), some (.int x2_s)], [], h1) (gI (fun v2 h2 => v_s = v2 ∧ tR h2)))) := by
  obtain ⟨r1_s, r2, r3⟩ := hr
  have hr : tR h_s := ⟨r1_s, r2, r3⟩
  have hR : (h_s.2.1 7 8).toInt = ((h_s.2.1 7 8).toInt.toNat : Int) := by omega
  have hR2 : (h_s.2.1 102 8).toInt = ((h_s.2.1 7 8).toInt.toNat : Int) := by
    rw [← r1_s]
    exact hR
  have hR12 : (h_s.2.1 7 8).toInt.toNat ≤ 12 := by omega
  generalize (h_s.2.1 7 8).toInt.toNat = R_s at hR hR2 hR12
  refine sp_95 hk hR (fun c_s => ?_) (fun c_s c1_s f1_s b1 b2 b3 b4 b5 => ?_) (fun c_s c1_s => ?_)
  · exact sp_159 hk hR2 hR12 (fun _ => ⟨rfl, hr⟩) (fun w_s => absurd c_s w_s) (fun w_s => absurd c_s w_s)
  · have e8 : f1_s 102 8 = h_s.2.1 102 8 := b5 102 8 (by omega) (by omega)
    refine sp_159 (h_s := (h_s.1, f1_s, h_s.2.2.1, h_s.2.2.2)) hk (by rw [← hR2]; exact congrArg _ e8) hR12 (fun w_s => absurd w_s c_s) (fun _ _ f2_s d1_s d2_s d3_s d4_s d5_s => ⟨?_, ?_, ?_, ?_⟩) (fun _ w_s => by omega)
    · dsimp only
      rw [e8, ← r1_s]
      refine Int32.toInt_inj.mp ?_
      rw [na_sub (by rw [n1_, in1_ (by omega)]; omega) (by rw [n1_, in1_ (by omega)]; omega), in1_ (by omega), n1_]
      omega
    · dsimp only
      rw [d1_s, d5_s 7 8 (by omega) (by omega) (by omega)]
      dsimp only
      rw [b1, e8, r1_s]
    · dsimp only
      rw [d5_s 7 8 (by omega) (by omega) (by omega)]
      dsimp only
      rw [b1, in1_ (by omega)]
      omega
    · dsimp only
      rw [d5_s 7 8 (by omega) (by omega) (by omega)]
      dsimp only
      rw [b1, in1_ (by omega)]
      omega
  · exact sp_159 hk hR2 hR12 (fun w_s => absurd w_s c_s) (fun _ w_s => by omega) (fun _ _ => ⟨rfl, hr⟩)
theorem sp_96 (hk : hKn h_s) (hR : (h_s.2.1 7 8).toInt = (R_s : Int)) (hR12 : R_s ≤ 12) (hl : ∀ d_s, d_s < 6 → (h_s.2.1 (76 + 2 * d_s) 0).toInt = 2 → 0 ≤ (h_s.2.1 (76 + 2 * d_s) 3).toInt ∧ (h_s.2.1 (76 + 2 * d_s) 3).toInt ≤ 60) (t1_s : x1_s.toInt < 0 ∨ 5 < x1_s.toInt ∨ x3.toInt < 1 ∨ 12 < x3.toInt → K_s (-1) h_s) (t2_s : 0 ≤ x1_s.toInt → x1_s.toInt ≤ 5 → 1 ≤ x3.toInt → x3.toInt ≤ 12 → zix x1_s < 6 → (h_s.2.1 (76 + 2 * zix x1_s) 0).toInt = 0 ∨ ((h_s.2.1 (76 + 2 * zix x1_s) 0).toInt = 2 ∧ (h_s.2.1 (76 + 2 * zix x1_s) 2).toInt = 0 ∧ x2_s.toInt < 0) → K_s 0 h_s) (t3_s : 0 ≤ x1_s.toInt → x1_s.toInt ≤ 5 → 1 ≤ x3.toInt → x3.toInt ≤ 12 → zix x1_s < 6 → ¬ (h_s.2.1 (76 + 2 * zix x1_s) 0).toInt = 0 → ¬ (h_s.2.1 (76 + 2 * zix x1_s) 0).toInt = 2 ∨ ¬ (h_s.2.1 (76 + 2 * zix x1_s) 2).toInt = 0 → K_s (-12) h_s) (t4_s : 0 ≤ x1_s.toInt → x1_s.toInt ≤ 5 → 1 ≤ x3.toInt → x3.toInt ≤ 12 → zix x1_s < 6 → (h_s.2.1 (76 + 2 * zix x1_s) 0).toInt = 2 → (h_s.2.1 (76 + 2 * zix x1_s) 2).toInt = 0 → 0 ≤ x2_s.toInt → ∀ (k_s : Nat) (v_s : Int32) f1_s, v_s.toInt = (k_s : Int) → lstR (h_s.2.2.1 (76 + 2 * zix x1_s + 1)) (h_s.2.1 (76 + 2 * zix x1_s) 3).toInt.toNat x2_s.toInt.toNat R_s x3.toInt.toNat k_s → (f1_s 7 8).toInt = ((R_s + k_s : Nat) : Int) → R_s + k_s ≤ 12 → ct96 (h_s.2.2.1 (76 + 2 * zix x1_s + 1)) x2_s.toInt.toNat R_s k_s f1_s → fr96 R_s k_s h_s.2.1 f1_s → K_s v_s (h_s.1, f1_s, h_s.2.2.1, h_s.2.2.2)) : wF F_s 96 (0, [some (.ref 6), some (.int x1_s), some (.int x2_s), some (.int x3), none, none, none], [], h_s) (gI K_s) := by
  refine wF_le (Nat.le_succ F_s) (sg_96_0 hk ⟨fun c1_s => ?_, fun c1_s => ⟨fun c2_s => ⟨fun c3_s => ?_, fun c3_s => ⟨fun c4_s => ?_, fun c4_s => fun c5_s => ⟨fun c6_s => ?_, fun c6_s => ⟨fun c7_s => ⟨fun c8_s => ⟨fun c9_s => ?_, fun c9_s => ?_⟩, fun c8_s => ?_⟩, fun c7_s => ?_⟩⟩⟩⟩, fun c2_s => ?_⟩⟩)
  · exact t1_s (by omega)
  · exact t1_s (by omega)
  · exact t1_s (by omega)
  · exact t2_s (by omega) (by omega) (by omega) (by omega) (by assumption) (by omega)
  · exact t2_s (by omega) (by omega) (by omega) (by omega) (by assumption) (by omega)
  · have l := hl _ c5_s (by omega)
    exact rd96 (h_s := h_s) (f0_s := h_s.2.1) (d_s := zix x1_s) (n_s := x3.toInt.toNat) (R_s := R_s) (i_s := x2_s.toInt.toNat) (len_s := (h_s.2.1 (76 + 2 * zix x1_s) 3).toInt.toNat) (c_s := h_s.2.2.1 (76 + 2 * zix x1_s + 1)) hk c5_s (fun _ => rfl) (by omega) (by omega) (by omega) (by omega) (fun k_s v_s f1_s g1 g2 g3_s g4 g5_s g6 => t4_s (by omega) (by omega) (by omega) (by omega) c5_s (by omega) (by omega) (by omega) k_s v_s f1_s g1 g2 g3_s g4 g5_s g6) F_s 0 0 x2_s h_s.2.1 rfl (by omega) (by omega) (fun m_s hm_s => by omega) (by omega) (by omega) (fun m_s hm_s => by omega) (fun _ _ _ _ => rfl)
  · exact t3_s (by omega) (by omega) (by omega) (by omega) (by assumption) (by omega) (by omega)
  · exact t3_s (by omega) (by omega) (by omega) (by omega) (by assumption) (by omega) (by omega)
  · exact t1_s (by omega)
theorem z69 {x4_s : Int32} {l6 : Option Value} (hk : hKn h_s) (t_s : K_s x4_s h_s) : wF F_s 160 (69, [some (.ref 102), some (.int x1_s), some (.int x2_s), some (.int x3), some (.int x4_s), some (.int 0), l6], [], h_s) (gI K_s) := wF_le (Nat.le_succ F_s) (sg_160_69 hk ⟨fun _ => t_s, fun q_s => absurd rfl q_s⟩)
theorem sp_160 (hk : hKn h_s) (hR : (h_s.2.1 102 8).toInt = (R_s : Int)) (hR12 : R_s ≤ 12) (hl : ∀ d_s, d_s < 6 → 50 ≤ (h_s.2.1 124 d_s).toInt → 0 ≤ (h_s.2.1 125 d_s).toInt ∧ (h_s.2.1 125 d_s).toInt ≤ 60) (t1_s : x1_s.toInt < 0 ∨ 5 < x1_s.toInt ∨ x3.toInt < 1 ∨ 12 < x3.toInt → K_s (-1) h_s) (t2_s : 0 ≤ x1_s.toInt → x1_s.toInt ≤ 5 → 1 ≤ x3.toInt → x3.toInt ≤ 12 → zix x1_s < 6 → (h_s.2.1 124 (zix x1_s)).toInt < 0 ∨ ((h_s.2.1 124 (zix x1_s)).toInt = 50 ∧ x2_s.toInt < 0) → K_s 0 h_s) (t3_s : 0 ≤ x1_s.toInt → x1_s.toInt ≤ 5 → 1 ≤ x3.toInt → x3.toInt ≤ 12 → zix x1_s < 6 → 0 ≤ (h_s.2.1 124 (zix x1_s)).toInt → ¬ (h_s.2.1 124 (zix x1_s)).toInt = 50 → K_s (-12) h_s) (t4_s : 0 ≤ x1_s.toInt → x1_s.toInt ≤ 5 → 1 ≤ x3.toInt → x3.toInt ≤ 12 → zix x1_s < 6 → (h_s.2.1 124 (zix x1_s)).toInt = 50 → 0 ≤ x2_s.toInt → ∀ (k_s : Nat) (v_s : Int32) f1_s, v_s.toInt = (k_s : Int) → lstR (fun j_s => h_s.2.2.1 126 (60 * zix x1_s + j_s)) (h_s.2.1 125 (zix x1_s)).toInt.toNat x2_s.toInt.toNat R_s x3.toInt.toNat k_s → (f1_s 102 8).toInt = ((R_s + k_s : Nat) : Int) → R_s + k_s ≤ 12 → ct60 (fun j_s => h_s.2.2.1 126 (60 * zix x1_s + j_s)) x2_s.toInt.toNat R_s k_s f1_s → fr60 R_s k_s h_s.2.1 f1_s → K_s v_s (h_s.1, f1_s, h_s.2.2.1, h_s.2.2.2)) : wF F_s 160 (0, [some (.ref 102), some (.int x1_s), some (.int x2_s), some (.int x3), none, none, none], [], h_s) (gI K_s) := by
  refine wF_le (Nat.le_succ F_s) (sg_160_0 hk ⟨fun c1_s => ?_, fun c1_s => ⟨fun c2_s => ?_, fun c2_s => ⟨fun c3_s => ?_, fun c3_s => ⟨fun c4_s => ?_, fun c4_s => fun c5_s => ⟨fun c6_s => ⟨fun c8_s => ⟨fun c9_s => ?_, fun c9_s => ?_⟩, fun c8_s => ?_⟩, fun c6_s => ⟨fun c11_s => ⟨fun c14_s => ?_, fun c14_s => ?_⟩, fun c11_s => ?_⟩⟩⟩⟩⟩⟩)
  · exact t1_s (by omega)
  · exact t1_s (by omega)
  · exact t1_s (by omega)
  · exact t1_s (by omega)
  · exfalso
    omega
  · exfalso
    omega
  · exact z69 hk (t2_s (by omega) (by omega) (by omega) (by omega) (by assumption) (by omega))
  · exact z69 hk (t2_s (by omega) (by omega) (by omega) (by omega) (by assumption) (by omega))
  · have l := hl _ c5_s (by omega)
    exact rd60 (h_s := h_s) (f0_s := h_s.2.1) (n_s := x3.toInt.toNat) (R_s := R_s) (i_s := x2_s.toInt.toNat) (len_s := (h_s.2.1 125 (zix x1_s)).toInt.toNat) (c_s := fun j_s => h_s.2.2.1 126 (60 * zix x1_s + j_s)) hk (by omega) (by omega) (by omega) (fun _ _ => rfl) (by omega) (by omega) (by omega) (by omega) (fun k_s v_s f1_s g1 g2 g3_s g4 g5_s g6 => t4_s (by omega) (by omega) (by omega) (by omega) c5_s (by omega) (by omega) k_s v_s f1_s g1 g2 g3_s g4 g5_s g6) F_s 0 0 1 none h_s.2.1 rfl (by decide) (by omega) (fun m_s hm_s => by omega) (by omega) (by omega) (fun m_s hm_s => by omega) (fun _ _ _ _ _ => rfl)
  · exact t3_s (by omega) (by omega) (by omega) (by omega) (by assumption) (by omega) (by omega)
theorem lstR_eq {c_s c1_s : Nat → Int64} {len_s i_s n_s k_s : Nat} (hl : len_s ≤ 60) (hc_s : ∀ j_s, j_s < 60 → c_s j_s = c1_s j_s) (hq : lstR c_s len_s i_s R_s n_s k_s) : lstR c1_s len_s i_s R_s n_s k_s := by
  have key_s : ∀ j_s, okR c_s len_s i_s R_s j_s ↔ okR c1_s len_s i_s R_s j_s := by
    intro j_s
    unfold okR
    constructor
    · rintro ⟨a_s, b_s, d_s⟩
      refine ⟨a_s, b_s, ?_⟩
      rw [← hc_s _ (by omega), ← hc_s _ (by omega), ← hc_s _ (by omega)]
      exact d_s
    · rintro ⟨a_s, b_s, d_s⟩
      refine ⟨a_s, b_s, ?_⟩
      rw [hc_s _ (by omega), hc_s _ (by omega), hc_s _ (by omega)]
      exact d_s
  obtain ⟨a_s, b_s, d_s⟩ := hq
  refine ⟨a_s, fun j_s hj => (key_s j_s).mp (b_s j_s hj), ?_⟩
  rcases d_s with d_s | d_s
  · exact Or.inl d_s
  · exact Or.inr (fun w_s => d_s ((key_s k_s).mpr w_s))
theorem pr_roads (hk : hKn h_s) (hs : tS h_s) (hr : tR h_s) : wF F_s 96 (0, [some (.ref 6), some (.int x1_s), some (.int x2_s), some (.int x3), none, none, none], [], h_s) (gI (fun v_s h1 => wF F_s 160 (0, [some (.ref 102), some (.int x1_s), some (.int x2_s), some (.int x3), none, none, none], [], h1) (gI (fun v2 h2 => v_s = v2 ∧ tR h2)))) := by
  obtain ⟨r1_s, r2, r3⟩ := hr
  have hr : tR h_s := ⟨r1_s, r2, r3⟩
  have hR : (h_s.2.1 7 8).toInt = ((h_s.2.1 7 8).toInt.toNat : Int) := by omega
  have hR2 : (h_s.2.1 102 8).toInt = ((h_s.2.1 7 8).toInt.toNat : Int) := by
    rw [← r1_s]
    exact hR
  have hR12 : (h_s.2.1 7 8).toInt.toNat ≤ 12 := by omega
  generalize (h_s.2.1 7 8).toInt.toNat = R_s at hR hR2 hR12
  have hl1 : ∀ d_s, d_s < 6 → (h_s.2.1 (76 + 2 * d_s) 0).toInt = 2 → 0 ≤ (h_s.2.1 (76 + 2 * d_s) 3).toInt ∧ (h_s.2.1 (76 + 2 * d_s) 3).toInt ≤ 60 := fun d_s hd_s hq => by
    have q_s := (hs.1 d_s hd_s).1
    unfold tS1 at q_s
    omega
  have hl2 : ∀ d_s, d_s < 6 → 50 ≤ (h_s.2.1 124 d_s).toInt → 0 ≤ (h_s.2.1 125 d_s).toInt ∧ (h_s.2.1 125 d_s).toInt ≤ 60 := fun d_s hd_s hq => by
    have q_s := (hs.1 d_s hd_s).1
    unfold tS1 at q_s
    omega
  refine sp_96 hk hR hR12 hl1 (fun c_s => ?_) (fun c1_s c2_s c3_s c4_s c5_s c6_s => ?_) (fun c1_s c2_s c3_s c4_s c5_s c6_s c7_s => ?_) (fun c1_s c2_s c3_s c4_s c5_s c6_s c7_s c8_s k_s v_s f1_s g1 g2 g3_s g4 g5_s g6 => ?_)
  · exact sp_160 hk hR2 hR12 hl2 (fun _ => ⟨rfl, hr⟩) (fun _ _ _ _ _ _ => by omega) (fun _ _ _ _ _ _ _ => by omega) (fun _ _ _ _ _ _ _ _ _ _ _ _ _ _ _ _ => by omega)
  · have q_s := (hs.1 _ c5_s).1
    unfold tS1 at q_s
    exact sp_160 hk hR2 hR12 hl2 (fun _ => by omega) (fun _ _ _ _ _ _ => ⟨rfl, hr⟩) (fun _ _ _ _ _ w1_s w2_s => by omega) (fun _ _ _ _ _ w1_s w2_s _ _ _ _ _ _ _ _ _ => by omega)
  · have q_s := (hs.1 _ c5_s).1
    unfold tS1 at q_s
    exact sp_160 hk hR2 hR12 hl2 (fun _ => by omega) (fun _ _ _ _ _ w_s => by omega) (fun _ _ _ _ _ _ _ => ⟨rfl, hr⟩) (fun _ _ _ _ _ w1_s w2_s _ _ _ _ _ _ _ _ _ => by omega)
  · have q_s := (hs.1 _ c5_s).1
    unfold tS1 at q_s
    have u_s : ∀ o j_s, (o = 102 ∨ o = 124 ∨ o = 125) → f1_s o j_s = h_s.2.1 o j_s := fun o j_s ho => g6 o j_s (by omega) (by omega)
    have l60 := hl1 _ c5_s c6_s
    have e5_s : (h_s.2.1 125 (zix x1_s)).toInt = (h_s.2.1 (76 + 2 * zix x1_s) 3).toInt := by omega
    refine sp_160 (h_s := (h_s.1, f1_s, h_s.2.2.1, h_s.2.2.2)) hk (by rw [← hR2]; exact congrArg _ (u_s 102 8 (by omega))) hR12 (fun d_s hd_s hq => ?_) (fun _ => by omega) (fun _ _ _ _ _ w_s => ?_) (fun _ _ _ _ _ w1_s w2_s => ?_) (fun _ _ _ _ _ w1_s w2_s k2_s v2 f2_s d1_s d2_s d3_s d4_s d5_s d6_s => ?_)
    · dsimp only at hq ⊢
      rw [u_s 124 _ (by omega)] at hq
      rw [u_s 125 _ (by omega)]
      exact hl2 d_s hd_s hq
    · dsimp only at w_s
      rw [u_s 124 _ (by omega)] at w_s
      omega
    · dsimp only at w1_s w2_s
      rw [u_s 124 _ (by omega)] at w1_s w2_s
      omega
    · dsimp only at d2_s ⊢
      rw [u_s 125 _ (by omega), e5_s] at d2_s
      have ek := lstR_det (lstR_eq (by omega) (fun j_s hj => (hs.1 _ c5_s).2 j_s hj) g2) d2_s
      subst ek
      refine ⟨Int32.toInt_inj.mp (by omega), ?_, ?_, ?_⟩
      · dsimp only
        refine Int32.toInt_inj.mp ?_
        rw [d6_s 7 8 (by omega) (by omega) (by omega)]
        dsimp only
        omega
      · dsimp only
        rw [d6_s 7 8 (by omega) (by omega) (by omega)]
        dsimp only
        omega
      · dsimp only
        rw [d6_s 7 8 (by omega) (by omega) (by omega)]
        dsimp only
        omega
end RO
noncomputable def tRok (W_s : aW) : Bool := !aWf W_s 7 8 && !aWf W_s 102 8
theorem tR_fr {W_s : aW} (hw : tRok W_s = true) {h_s h1 : zH} (fr_s : aFr (aWf W_s) h_s h1) (hs : tR h_s) : tR h1 := by
  unfold tRok at hw
  rw [Bool.and_eq_true, Bool.not_eq_true', Bool.not_eq_true'] at hw
  refine ⟨?_, ?_, ?_⟩
  · rw [fr_s.1 _ _ hw.1, fr_s.1 _ _ hw.2]
    exact hs.1
  · rw [fr_s.1 _ _ hw.1]
    exact hs.2.1
  · rw [fr_s.1 _ _ hw.1]
    exact hs.2.2
theorem tR_start {E_s : Nat → Int32} {n_s : Nat} {h_s : zH} (hc_s : hcRd h_s = true) : tR (sH E_s n_s [] h_s) := by
  have sv : ∀ o k_s, o ≠ 0 → sov E_s [] h_s.2.1 o k_s = h_s.2.1 o k_s := fun o k_s ho => by rw [sov_nil ho]
  unfold hcRd at hc_s
  rw [Bool.and_eq_true, decide_eq_true_eq, decide_eq_true_eq] at hc_s
  refine ⟨?_, ?_, ?_⟩
  · show sov E_s [] h_s.2.1 7 8 = sov E_s [] h_s.2.1 102 8
    rw [sv _ _ (by omega), sv _ _ (by omega), hc_s.1, hc_s.2]
  · show 0 ≤ (sov E_s [] h_s.2.1 7 8).toInt
    rw [sv _ _ (by omega), hc_s.1]
    decide
  · show (sov E_s [] h_s.2.1 7 8).toInt ≤ 12
    rw [sv _ _ (by omega), hc_s.1]
    decide
/-! What ended runs of worth give: printed by a program (wip/fun/sg.py). -/
/-- ColdShod$LawCode.worth([I)I, from 0 on -/
theorem sg_58_0 {F_s : Nat} {q_s : Nat} {h_s : zH} {K_s : Int32 → zH → Prop} (hm_s : q_s = 14 ∨ q_s = 17) (hk : hKn h_s) (t_s : ((h_s.2.1 q_s 2).toInt = 0 → K_s (((1 + (h_s.2.1 13 5)) + ((h_s.2.1 13 3) / 3)) - ((h_s.2.1 13 0) / 2)) h_s) ∧ (¬ (h_s.2.1 q_s 2).toInt = 0 → wF F_s 58 (32, [some (.ref q_s), some (.ref 13), some (.int 0), some (.int 0), some (.int 0), none, none, none], [], h_s) (gI K_s))) : wF (F_s + 1) 58 (0, [some (.ref q_s), some (.ref 13), none, none, none, none, none, none], [], h_s) (gI K_s) := by
  refine w_0 (pc := 0) (e_s := (3, 1, 0, 0, 0, .null, [])) (y_s := (1, [some (.ref _), some (.ref _), none, none, none, none, none, none], [.ref _], _)) rfl (u_ rfl) ?_
  refine w20 (pc := 1) (len_s := 3) rfl ?_
  refine wq1 (pc := 4) (len_s := 3) rfl rfl (fun c1_s => ?_) (fun c1_s => ?_)
  · replace t_s := t_s.1 c1_s
    refine w_t (pc := 7) (e_s := (0, 1, 0, 0, 0, .int 1, [])) (y_s := (8, [some (.ref _), some (.ref _), none, none, none, none, none, none], [.int _], _)) rfl (u_ rfl) ?_
    refine w_t (pc := 8) (e_s := (3, 1, 1, 0, 0, .null, [])) (y_s := (9, [some (.ref _), some (.ref _), none, none, none, none, none, none], [.ref _, .int _], _)) rfl (u_ rfl) ?_
    refine w_t (pc := 9) (e_s := (0, 1, 0, 0, 0, .int 5, [])) (y_s := (10, [some (.ref _), some (.ref _), none, none, none, none, none, none], [.int _, .ref _, .int _], _)) rfl (u_ rfl) ?_
    refine w22 (pc := 10) (len_s := 1) rfl (hk.1 13 0 6 rfl rfl) (fun c2_s => ?_)
    refine w_t (pc := 11) (e_s := (7, 1, 0, 0, 0, .null, [])) (y_s := (12, [some (.ref _), some (.ref _), none, none, none, none, none, none], [.int (_ + _)], _)) rfl (u_ rfl) ?_
    refine w_t (pc := 12) (e_s := (3, 1, 1, 0, 0, .null, [])) (y_s := (13, [some (.ref _), some (.ref _), none, none, none, none, none, none], [.ref _, .int _], _)) rfl (u_ rfl) ?_
    refine w_t (pc := 13) (e_s := (0, 1, 0, 0, 0, .int 3, [])) (y_s := (14, [some (.ref _), some (.ref _), none, none, none, none, none, none], [.int _, .ref _, .int _], _)) rfl (u_ rfl) ?_
    refine w22 (pc := 14) (len_s := 1) rfl (hk.1 13 0 6 rfl rfl) (fun c3_s => ?_)
    refine w_t (pc := 15) (e_s := (0, 1, 0, 0, 0, .int 3, [])) (y_s := (16, [some (.ref _), some (.ref _), none, none, none, none, none, none], [.int _, .int _, .int _], _)) rfl (u_ rfl) ?_
    refine w8 (pc := 16) (len_s := 1) rfl ?_
    refine w_t (pc := 17) (e_s := (7, 1, 0, 0, 0, .null, [])) (y_s := (18, [some (.ref _), some (.ref _), none, none, none, none, none, none], [.int (_ + _)], _)) rfl (u_ rfl) ?_
    refine w_t (pc := 18) (e_s := (3, 1, 1, 0, 0, .null, [])) (y_s := (19, [some (.ref _), some (.ref _), none, none, none, none, none, none], [.ref _, .int _], _)) rfl (u_ rfl) ?_
    refine w_t (pc := 19) (e_s := (0, 1, 0, 0, 0, .int 0, [])) (y_s := (20, [some (.ref _), some (.ref _), none, none, none, none, none, none], [.int _, .ref _, .int _], _)) rfl (u_ rfl) ?_
    refine w22 (pc := 20) (len_s := 1) rfl (hk.1 13 0 6 rfl rfl) (fun c4_s => ?_)
    refine w_t (pc := 21) (e_s := (0, 1, 0, 0, 0, .int 2, [])) (y_s := (22, [some (.ref _), some (.ref _), none, none, none, none, none, none], [.int _, .int _, .int _], _)) rfl (u_ rfl) ?_
    refine w8 (pc := 22) (len_s := 1) rfl ?_
    refine w_t (pc := 23) (e_s := (7, 1, 0, 1, 0, .null, [])) (y_s := (24, [some (.ref _), some (.ref _), none, none, none, none, none, none], [.int (_ - _)], _)) rfl (u_ rfl) ?_
    exact wrI (pc := 24) (len_s := 1) rfl hk t_s
  · replace t_s := t_s.2 c1_s
    refine w_t (pc := 25) (e_s := (0, 1, 0, 0, 0, .int 0, [])) (y_s := (26, [some (.ref _), some (.ref _), none, none, none, none, none, none], [.int _], _)) rfl (u_ rfl) ?_
    refine w_t (pc := 26) (e_s := (4, 1, 2, 0, 0, .null, [])) (y_s := (27, [some (.ref _), some (.ref _), some (.int _), none, none, none, none, none], [], _)) rfl (u_ rfl) ?_
    refine w_t (pc := 27) (e_s := (0, 1, 0, 0, 0, .int 0, [])) (y_s := (28, [some (.ref _), some (.ref _), some (.int _), none, none, none, none, none], [.int _], _)) rfl (u_ rfl) ?_
    refine w_t (pc := 28) (e_s := (4, 1, 3, 0, 0, .null, [])) (y_s := (29, [some (.ref _), some (.ref _), some (.int _), some (.int _), none, none, none, none], [], _)) rfl (u_ rfl) ?_
    refine w_t (pc := 29) (e_s := (0, 1, 0, 0, 0, .int 0, [])) (y_s := (30, [some (.ref _), some (.ref _), some (.int _), some (.int _), none, none, none, none], [.int _], _)) rfl (u_ rfl) ?_
    refine w_t (pc := 30) (e_s := (4, 2, 4, 0, 0, .null, [])) (y_s := (32, [some (.ref _), some (.ref _), some (.int _), some (.int _), some (.int _), none, none, none], [], _)) rfl (u_ rfl) ?_
    exact t_s
/-- ColdShod$LawCode.worth([I)I, from 32 on -/
theorem sg_58_32 {F_s : Nat} {q_s : Nat} {x2_s x3 x4_s : Int32} {l5 l6 l7 : Option Value} {h_s : zH} {K_s : Int32 → zH → Prop} (hm_s : q_s = 14 ∨ q_s = 17) (hk : hKn h_s) (t_s : (x4_s.toInt < 242 → ((x3.toInt < (h_s.2.1 q_s 2).toInt → (zix x3 < 242 → ((x3 + 1).toInt < (h_s.2.1 q_s 2).toInt → (zix (x3 + 1) < 242 → wF F_s 58 (83, [some (.ref q_s), some (.ref 13), some (.int x2_s), some (.int (x3 + 1)), some (.int x4_s), some (.int (h_s.2.1 (q_s + 1) (zix x3))), some (.int (h_s.2.1 (q_s + 1) (zix (x3 + 1)))), l7], [], h_s) (gI K_s))) ∧ (¬ (x3 + 1).toInt < (h_s.2.1 q_s 2).toInt → wF F_s 58 (83, [some (.ref q_s), some (.ref 13), some (.int x2_s), some (.int (x3 + 1)), some (.int x4_s), some (.int (h_s.2.1 (q_s + 1) (zix x3))), some (.int 0), l7], [], h_s) (gI K_s)))) ∧ (¬ x3.toInt < (h_s.2.1 q_s 2).toInt → K_s 0 h_s))) ∧ (¬ x4_s.toInt < 242 → K_s 0 h_s)) : wF (F_s + 1) 58 (32, [some (.ref q_s), some (.ref 13), some (.int x2_s), some (.int x3), some (.int x4_s), l5, l6, l7], [], h_s) (gI K_s) := by
  refine w_0 (pc := 32) (e_s := (1, 2, 4, 0, 0, .null, [])) (y_s := (34, [some (.ref _), some (.ref _), some (.int _), some (.int _), some (.int _), _, _, _], [.int _], _)) rfl (u_ rfl) ?_
  refine w_t (pc := 34) (e_s := (0, 3, 0, 0, 0, .int 242, [])) (y_s := (37, [some (.ref _), some (.ref _), some (.int _), some (.int _), some (.int _), _, _, _], [.int _, .int _], _)) rfl (u_ rfl) ?_
  refine wi3 (pc := 37) (len_s := 3) (Y := 242) rfl rfl (by decide) (fun c1_s => ?_) (fun c1_s => ?_)
  · replace t_s := t_s.1 c1_s
    refine w_t (pc := 40) (e_s := (1, 1, 3, 0, 0, .null, [])) (y_s := (41, [some (.ref _), some (.ref _), some (.int _), some (.int _), some (.int _), _, _, _], [.int _], _)) rfl (u_ rfl) ?_
    refine w_t (pc := 41) (e_s := (3, 1, 0, 0, 0, .null, [])) (y_s := (42, [some (.ref _), some (.ref _), some (.int _), some (.int _), some (.int _), _, _, _], [.ref _, .int _], _)) rfl (u_ rfl) ?_
    refine w20 (pc := 42) (len_s := 3) rfl ?_
    refine wi3 (pc := 45) (len_s := 3) rfl rfl rfl (fun c2_s => ?_) (fun c2_s => ?_)
    · replace t_s := t_s.1 c2_s
      refine w_t (pc := 48) (e_s := (3, 1, 0, 0, 0, .null, [])) (y_s := (49, [some (.ref _), some (.ref _), some (.int _), some (.int _), some (.int _), _, _, _], [.ref _], _)) rfl (u_ rfl) ?_
      refine w20r (pc := 49) (len_s := 3) (q_s := q_s + 1) rfl (klaw1 hk hm_s) ?_
      refine w_t (pc := 52) (e_s := (1, 1, 3, 0, 0, .null, [])) (y_s := (53, [some (.ref _), some (.ref _), some (.int _), some (.int _), some (.int _), _, _, _], [.int _, .ref _], _)) rfl (u_ rfl) ?_
      refine w22 (pc := 53) (len_s := 1) rfl (klz1 hk hm_s) (fun c3_s => ?_)
      replace t_s := t_s c3_s
      refine w_t (pc := 54) (e_s := (4, 2, 5, 0, 0, .null, [])) (y_s := (56, [some (.ref _), some (.ref _), some (.int _), some (.int _), some (.int _), some (.int _), _, _], [], _)) rfl (u_ rfl) ?_
      refine w_t (pc := 56) (e_s := (1, 1, 3, 0, 0, .null, [])) (y_s := (57, [some (.ref _), some (.ref _), some (.int _), some (.int _), some (.int _), some (.int _), _, _], [.int _], _)) rfl (u_ rfl) ?_
      refine w_t (pc := 57) (e_s := (0, 1, 0, 0, 0, .int 1, [])) (y_s := (58, [some (.ref _), some (.ref _), some (.int _), some (.int _), some (.int _), some (.int _), _, _], [.int _, .int _], _)) rfl (u_ rfl) ?_
      refine w_t (pc := 58) (e_s := (7, 1, 0, 0, 0, .null, [])) (y_s := (59, [some (.ref _), some (.ref _), some (.int _), some (.int _), some (.int _), some (.int _), _, _], [.int (_ + _)], _)) rfl (u_ rfl) ?_
      refine w_t (pc := 59) (e_s := (3, 1, 0, 0, 0, .null, [])) (y_s := (60, [some (.ref _), some (.ref _), some (.int _), some (.int _), some (.int _), some (.int _), _, _], [.ref _, .int _], _)) rfl (u_ rfl) ?_
      refine w20 (pc := 60) (len_s := 3) rfl ?_
      refine wi3 (pc := 63) (len_s := 3) rfl rfl rfl (fun c4_s => ?_) (fun c4_s => ?_)
      · replace t_s := t_s.1 c4_s
        refine w_t (pc := 66) (e_s := (3, 1, 0, 0, 0, .null, [])) (y_s := (67, [some (.ref _), some (.ref _), some (.int _), some (.int _), some (.int _), some (.int _), _, _], [.ref _], _)) rfl (u_ rfl) ?_
        refine w20r (pc := 67) (len_s := 3) (q_s := q_s + 1) rfl (klaw1 hk hm_s) ?_
        refine w_t (pc := 70) (e_s := (1, 1, 3, 0, 0, .null, [])) (y_s := (71, [some (.ref _), some (.ref _), some (.int _), some (.int _), some (.int _), some (.int _), _, _], [.int _, .ref _], _)) rfl (u_ rfl) ?_
        refine w_t (pc := 71) (e_s := (0, 1, 0, 0, 0, .int 1, [])) (y_s := (72, [some (.ref _), some (.ref _), some (.int _), some (.int _), some (.int _), some (.int _), _, _], [.int _, .int _, .ref _], _)) rfl (u_ rfl) ?_
        refine w_t (pc := 72) (e_s := (7, 1, 0, 0, 0, .null, [])) (y_s := (73, [some (.ref _), some (.ref _), some (.int _), some (.int _), some (.int _), some (.int _), _, _], [.int (_ + _), .ref _], _)) rfl (u_ rfl) ?_
        refine w22 (pc := 73) (len_s := 1) rfl (klz1 hk hm_s) (fun c5_s => ?_)
        replace t_s := t_s c5_s
        refine w_t (pc := 74) (e_s := (17, 3, 78, 0, 0, .null, [])) (y_s := (78, [some (.ref _), some (.ref _), some (.int _), some (.int _), some (.int _), some (.int _), _, _], [.int _], _)) rfl (u_ rfl) ?_
        refine w_t (pc := 78) (e_s := (4, 2, 6, 0, 0, .null, [])) (y_s := (80, [some (.ref _), some (.ref _), some (.int _), some (.int _), some (.int _), some (.int _), some (.int _), _], [], _)) rfl (u_ rfl) ?_
        refine w_t (pc := 80) (e_s := (19, 3, 3, 0, 0, .int 1, [])) (y_s := (83, [some (.ref _), some (.ref _), some (.int _), some (.int _), some (.int _), some (.int _), some (.int _), _], [], _)) rfl (u_ rfl) ?_
        exact t_s
      · replace t_s := t_s.2 c4_s
        refine w_t (pc := 77) (e_s := (0, 1, 0, 0, 0, .int 0, [])) (y_s := (78, [some (.ref _), some (.ref _), some (.int _), some (.int _), some (.int _), some (.int _), _, _], [.int _], _)) rfl (u_ rfl) ?_
        refine w_t (pc := 78) (e_s := (4, 2, 6, 0, 0, .null, [])) (y_s := (80, [some (.ref _), some (.ref _), some (.int _), some (.int _), some (.int _), some (.int _), some (.int _), _], [], _)) rfl (u_ rfl) ?_
        refine w_t (pc := 80) (e_s := (19, 3, 3, 0, 0, .int 1, [])) (y_s := (83, [some (.ref _), some (.ref _), some (.int _), some (.int _), some (.int _), some (.int _), some (.int _), _], [], _)) rfl (u_ rfl) ?_
        exact t_s
    · replace t_s := t_s.2 c2_s
      refine w_t (pc := 313) (e_s := (0, 1, 0, 0, 0, .int 0, [])) (y_s := (314, [some (.ref _), some (.ref _), some (.int _), some (.int _), some (.int _), _, _, _], [.int _], _)) rfl (u_ rfl) ?_
      exact wrI (pc := 314) (len_s := 1) rfl hk t_s
  · replace t_s := t_s.2 c1_s
    refine w_t (pc := 313) (e_s := (0, 1, 0, 0, 0, .int 0, [])) (y_s := (314, [some (.ref _), some (.ref _), some (.int _), some (.int _), some (.int _), _, _, _], [.int _], _)) rfl (u_ rfl) ?_
    exact wrI (pc := 314) (len_s := 1) rfl hk t_s
/-- ColdShod$LawCode.worth([I)I, from 83 on -/
theorem sg_58_83 {F_s : Nat} {q_s : Nat} {x2_s x3 x4_s x5_s x6 : Int32} {l7 : Option Value} {h_s : zH} {K_s : Int32 → zH → Prop} (hm_s : q_s = 14 ∨ q_s = 17) (hk : hKn h_s) (t_s : (x5_s.toInt = 48 → ((x2_s.toInt < 64 → ((x5_s.toInt = 109 → ((x6.toInt < 0 → K_s 0 h_s) ∧ (¬ x6.toInt < 0 → ((x6.toInt < 6 → (zix x2_s < 64 → wF F_s 58 (32, [some (.ref q_s), some (.ref 13), some (.int (x2_s + 1)), some (.int (x3 + 1)), some (.int (x4_s + 1)), some (.int x5_s), some (.int x6), l7], [], (h_s.1, zup h_s.2.1 (q_s + 2) (zix x2_s) x6, h_s.2.2.1, h_s.2.2.2)) (gI K_s))) ∧ (¬ x6.toInt < 6 → K_s 0 h_s))))) ∧ (¬ x5_s.toInt = 109 → (zix x2_s < 64 → wF F_s 58 (32, [some (.ref q_s), some (.ref 13), some (.int (x2_s + 1)), some (.int (x3 + 1)), some (.int (x4_s + 1)), some (.int x5_s), some (.int x6), l7], [], (h_s.1, zup h_s.2.1 (q_s + 2) (zix x2_s) x6, h_s.2.2.1, h_s.2.2.2)) (gI K_s))))) ∧ (¬ x2_s.toInt < 64 → K_s 0 h_s))) ∧ (¬ x5_s.toInt = 48 → ((x5_s.toInt = 109 → ((x2_s.toInt < 64 → ((x6.toInt < 0 → K_s 0 h_s) ∧ (¬ x6.toInt < 0 → ((x6.toInt < 6 → (zix x6 < 6 → (zix x2_s < 64 → wF F_s 58 (32, [some (.ref q_s), some (.ref 13), some (.int (x2_s + 1)), some (.int (x3 + 1)), some (.int (x4_s + 1)), some (.int x5_s), some (.int x6), l7], [], (h_s.1, zup h_s.2.1 (q_s + 2) (zix x2_s) (h_s.2.1 13 (zix x6)), h_s.2.2.1, h_s.2.2.2)) (gI K_s)))) ∧ (¬ x6.toInt < 6 → K_s 0 h_s))))) ∧ (¬ x2_s.toInt < 64 → K_s 0 h_s))) ∧ (¬ x5_s.toInt = 109 → ((x2_s.toInt < 1 → K_s 0 h_s) ∧ (¬ x2_s.toInt < 1 → (zix (x2_s - 1) < 64 → (x5_s.toInt = 33 → (((h_s.2.1 (q_s + 2) (zix (x2_s - 1))).toInt = 0 → wF F_s 58 (32, [some (.ref q_s), some (.ref 13), some (.int x2_s), some (.int x3), some (.int (x4_s + 1)), some (.int x5_s), some (.int x6), some (.int (h_s.2.1 (q_s + 2) (zix (x2_s - 1))))], [], (h_s.1, zup h_s.2.1 (q_s + 2) (zix (x2_s - 1)) 1, h_s.2.2.1, h_s.2.2.2)) (gI K_s)) ∧ (¬ (h_s.2.1 (q_s + 2) (zix (x2_s - 1))).toInt = 0 → wF F_s 58 (32, [some (.ref q_s), some (.ref 13), some (.int x2_s), some (.int x3), some (.int (x4_s + 1)), some (.int x5_s), some (.int x6), some (.int (h_s.2.1 (q_s + 2) (zix (x2_s - 1))))], [], (h_s.1, zup h_s.2.1 (q_s + 2) (zix (x2_s - 1)) 0, h_s.2.2.1, h_s.2.2.2)) (gI K_s)))) ∧ (¬ x5_s.toInt = 33 → (x5_s.toInt = 59 → K_s (h_s.2.1 (q_s + 2) (zix (x2_s - 1))) h_s) ∧ (¬ x5_s.toInt = 59 → (x5_s.toInt = 63 → (((h_s.2.1 (q_s + 2) (zix (x2_s - 1))).toInt = 0 → wF F_s 58 (32, [some (.ref q_s), some (.ref 13), some (.int (x2_s + (-1))), some (.int (if x3 < x6 then x6 else x3)), some (.int (x4_s + 1)), some (.int x5_s), some (.int x6), some (.int (h_s.2.1 (q_s + 2) (zix (x2_s - 1))))], [], h_s) (gI K_s)) ∧ (¬ (h_s.2.1 (q_s + 2) (zix (x2_s - 1))).toInt = 0 → wF F_s 58 (32, [some (.ref q_s), some (.ref 13), some (.int (x2_s + (-1))), some (.int (x3 + 1)), some (.int (x4_s + 1)), some (.int x5_s), some (.int x6), some (.int (h_s.2.1 (q_s + 2) (zix (x2_s - 1))))], [], h_s) (gI K_s)))) ∧ (¬ x5_s.toInt = 63 → (x5_s.toInt = 126 → wF F_s 58 (32, [some (.ref q_s), some (.ref 13), some (.int x2_s), some (.int x3), some (.int (x4_s + 1)), some (.int x5_s), some (.int x6), some (.int (h_s.2.1 (q_s + 2) (zix (x2_s - 1))))], [], (h_s.1, zup h_s.2.1 (q_s + 2) (zix (x2_s - 1)) (-(h_s.2.1 (q_s + 2) (zix (x2_s - 1)))), h_s.2.2.1, h_s.2.2.2)) (gI K_s)) ∧ (¬ x5_s.toInt = 126 → ((x2_s.toInt < 2 → K_s 0 h_s) ∧ (¬ x2_s.toInt < 2 → (zix ((x2_s + (-1)) - 1) < 64 → wF F_s 60 (0, [some (.int (h_s.2.1 (q_s + 2) (zix ((x2_s + (-1)) - 1)))), some (.int x5_s), some (.int (h_s.2.1 (q_s + 2) (zix (x2_s - 1))))], [], h_s) (gI (fun v31 h31 => hKn h31 → wF F_s 58 (32, [some (.ref q_s), some (.ref 13), some (.int (x2_s + (-1))), some (.int x3), some (.int (x4_s + 1)), some (.int x5_s), some (.int x6), some (.int (h_s.2.1 (q_s + 2) (zix (x2_s - 1))))], [], (h31.1, zup h31.2.1 (q_s + 2) (zix ((x2_s + (-1)) - 1)) v31, h31.2.2.1, h31.2.2.2)) (gI K_s))))))))))))))))) : wF (F_s + 1) 58 (83, [some (.ref q_s), some (.ref 13), some (.int x2_s), some (.int x3), some (.int x4_s), some (.int x5_s), some (.int x6), l7], [], h_s) (gI K_s) := by
  refine w_0 (pc := 83) (e_s := (1, 2, 5, 0, 0, .null, [])) (y_s := (85, [some (.ref _), some (.ref _), some (.int _), some (.int _), some (.int _), some (.int _), some (.int _), _], [.int _], _)) rfl (u_ rfl) ?_
  refine w_t (pc := 85) (e_s := (0, 2, 0, 0, 0, .int 48, [])) (y_s := (87, [some (.ref _), some (.ref _), some (.int _), some (.int _), some (.int _), some (.int _), some (.int _), _], [.int _, .int _], _)) rfl (u_ rfl) ?_
  refine wi0 (pc := 87) (len_s := 3) (Y := 48) rfl rfl (by decide) (fun c1_s => ?_) (fun c1_s => ?_)
  · replace t_s := t_s.1 c1_s
    refine w_t (pc := 97) (e_s := (1, 1, 2, 0, 0, .null, [])) (y_s := (98, [some (.ref _), some (.ref _), some (.int _), some (.int _), some (.int _), some (.int _), some (.int _), _], [.int _], _)) rfl (u_ rfl) ?_
    refine w_t (pc := 98) (e_s := (0, 2, 0, 0, 0, .int 64, [])) (y_s := (100, [some (.ref _), some (.ref _), some (.int _), some (.int _), some (.int _), some (.int _), some (.int _), _], [.int _, .int _], _)) rfl (u_ rfl) ?_
    refine wi3 (pc := 100) (len_s := 3) (Y := 64) rfl rfl (by decide) (fun c2_s => ?_) (fun c2_s => ?_)
    · replace t_s := t_s.1 c2_s
      refine w_t (pc := 103) (e_s := (1, 2, 5, 0, 0, .null, [])) (y_s := (105, [some (.ref _), some (.ref _), some (.int _), some (.int _), some (.int _), some (.int _), some (.int _), _], [.int _], _)) rfl (u_ rfl) ?_
      refine w_t (pc := 105) (e_s := (0, 2, 0, 0, 0, .int 109, [])) (y_s := (107, [some (.ref _), some (.ref _), some (.int _), some (.int _), some (.int _), some (.int _), some (.int _), _], [.int _, .int _], _)) rfl (u_ rfl) ?_
      refine wi1 (pc := 107) (len_s := 3) (Y := 109) rfl rfl (by decide) (fun c3_s => ?_) (fun c3_s => ?_)
      · replace t_s := t_s.1 c3_s
        refine w_t (pc := 110) (e_s := (1, 2, 6, 0, 0, .null, [])) (y_s := (112, [some (.ref _), some (.ref _), some (.int _), some (.int _), some (.int _), some (.int _), some (.int _), _], [.int _], _)) rfl (u_ rfl) ?_
        refine wcI (pc := 112) (len_s := 3) rfl rfl (l := [some (.int _)]) rfl ?_
        refine w_t (pc := 0) (e_s := (1, 1, 0, 0, 0, .null, [])) (y_s := (1, [some (.int _)], [.int _], _)) rfl (u_ rfl) ?_
        refine wq2 (pc := 1) (len_s := 3) rfl rfl (fun c4_s => ?_) (fun c4_s => ?_)
        · replace t_s := t_s.1 c4_s
          refine w_t (pc := 14) (e_s := (0, 1, 0, 0, 0, .int 0, [])) (y_s := (15, [some (.int _)], [.int _], _)) rfl (u_ rfl) ?_
          refine wrI (pc := 15) (len_s := 1) rfl hk ?_
          show wF _ 58 (115, [some (.ref _), some (.ref _), some (.int _), some (.int _), some (.int _), some (.int _), some (.int _), _], [.int _], _) _
          refine w_t (pc := 115) (e_s := (15, 3, 120, 1, 0, .null, [])) (y_s := (118, [some (.ref _), some (.ref _), some (.int _), some (.int _), some (.int _), some (.int _), some (.int _), _], [], _)) rfl (u_ rfl) ?_
          refine w_t (pc := 118) (e_s := (0, 1, 0, 0, 0, .int 0, [])) (y_s := (119, [some (.ref _), some (.ref _), some (.int _), some (.int _), some (.int _), some (.int _), some (.int _), _], [.int _], _)) rfl (u_ rfl) ?_
          exact wrI (pc := 119) (len_s := 1) rfl hk t_s
        · replace t_s := t_s.2 c4_s
          refine w_t (pc := 4) (e_s := (1, 1, 0, 0, 0, .null, [])) (y_s := (5, [some (.int _)], [.int _], _)) rfl (u_ rfl) ?_
          refine w_t (pc := 5) (e_s := (0, 2, 0, 0, 0, .int 6, [])) (y_s := (7, [some (.int _)], [.int _, .int _], _)) rfl (u_ rfl) ?_
          refine wi3 (pc := 7) (len_s := 3) (Y := 6) rfl rfl (by decide) (fun c5_s => ?_) (fun c5_s => ?_)
          · replace t_s := t_s.1 c5_s
            refine w_t (pc := 10) (e_s := (0, 1, 0, 0, 0, .int 1, [])) (y_s := (11, [some (.int _)], [.int _], _)) rfl (u_ rfl) ?_
            refine w_t (pc := 11) (e_s := (17, 3, 15, 0, 0, .null, [])) (y_s := (15, [some (.int _)], [.int _], _)) rfl (u_ rfl) ?_
            refine wrI (pc := 15) (len_s := 1) rfl hk ?_
            show wF _ 58 (115, [some (.ref _), some (.ref _), some (.int _), some (.int _), some (.int _), some (.int _), some (.int _), _], [.int _], _) _
            refine w_t (pc := 115) (e_s := (15, 3, 120, 1, 0, .null, [])) (y_s := (120, [some (.ref _), some (.ref _), some (.int _), some (.int _), some (.int _), some (.int _), some (.int _), _], [], _)) rfl (u_ rfl) ?_
            refine w_t (pc := 120) (e_s := (3, 1, 0, 0, 0, .null, [])) (y_s := (121, [some (.ref _), some (.ref _), some (.int _), some (.int _), some (.int _), some (.int _), some (.int _), _], [.ref _], _)) rfl (u_ rfl) ?_
            refine w20r (pc := 121) (len_s := 3) (q_s := q_s + 2) rfl (klaw2 hk hm_s) ?_
            refine w_t (pc := 124) (e_s := (1, 1, 2, 0, 0, .null, [])) (y_s := (125, [some (.ref _), some (.ref _), some (.int _), some (.int _), some (.int _), some (.int _), some (.int _), _], [.int _, .ref _], _)) rfl (u_ rfl) ?_
            refine w_t (pc := 125) (e_s := (1, 2, 5, 0, 0, .null, [])) (y_s := (127, [some (.ref _), some (.ref _), some (.int _), some (.int _), some (.int _), some (.int _), some (.int _), _], [.int _, .int _, .ref _], _)) rfl (u_ rfl) ?_
            refine w_t (pc := 127) (e_s := (0, 2, 0, 0, 0, .int 48, [])) (y_s := (129, [some (.ref _), some (.ref _), some (.int _), some (.int _), some (.int _), some (.int _), some (.int _), _], [.int _, .int _, .int _, .ref _], _)) rfl (u_ rfl) ?_
            refine wi1 (pc := 129) (len_s := 3) (Y := 48) rfl rfl (by decide) (fun c6_s => ?_) (fun c6_s => ?_)
            · skip
              refine w_t (pc := 132) (e_s := (1, 2, 6, 0, 0, .null, [])) (y_s := (134, [some (.ref _), some (.ref _), some (.int _), some (.int _), some (.int _), some (.int _), some (.int _), _], [.int _, .int _, .ref _], _)) rfl (u_ rfl) ?_
              refine w_t (pc := 134) (e_s := (17, 3, 141, 0, 0, .null, [])) (y_s := (141, [some (.ref _), some (.ref _), some (.int _), some (.int _), some (.int _), some (.int _), some (.int _), _], [.int _, .int _, .ref _], _)) rfl (u_ rfl) ?_
              refine w25 (pc := 141) (len_s := 1) rfl (klz2 hk hm_s) (fun c7_s => ?_)
              replace t_s := t_s c7_s
              refine w_t (pc := 142) (e_s := (19, 3, 2, 0, 0, .int 1, [])) (y_s := (145, [some (.ref _), some (.ref _), some (.int _), some (.int _), some (.int _), some (.int _), some (.int _), _], [], _)) rfl (u_ rfl) ?_
              refine w_t (pc := 145) (e_s := (19, 3, 3, 0, 0, .int 1, [])) (y_s := (148, [some (.ref _), some (.ref _), some (.int _), some (.int _), some (.int _), some (.int _), some (.int _), _], [], _)) rfl (u_ rfl) ?_
              refine w_t (pc := 148) (e_s := (17, 3, 307, 0, 0, .null, [])) (y_s := (307, [some (.ref _), some (.ref _), some (.int _), some (.int _), some (.int _), some (.int _), some (.int _), _], [], _)) rfl (u_ rfl) ?_
              refine w_t (pc := 307) (e_s := (19, 3, 4, 0, 0, .int 1, [])) (y_s := (310, [some (.ref _), some (.ref _), some (.int _), some (.int _), some (.int _), some (.int _), some (.int _), _], [], _)) rfl (u_ rfl) ?_
              refine w_t (pc := 310) (e_s := (17, 3, 32, 0, 0, .null, [])) (y_s := (32, [some (.ref _), some (.ref _), some (.int _), some (.int _), some (.int _), some (.int _), some (.int _), _], [], _)) rfl (u_ rfl) ?_
              exact t_s
            · exact absurd c1_s c6_s
          · replace t_s := t_s.2 c5_s
            refine w_t (pc := 14) (e_s := (0, 1, 0, 0, 0, .int 0, [])) (y_s := (15, [some (.int _)], [.int _], _)) rfl (u_ rfl) ?_
            refine wrI (pc := 15) (len_s := 1) rfl hk ?_
            show wF _ 58 (115, [some (.ref _), some (.ref _), some (.int _), some (.int _), some (.int _), some (.int _), some (.int _), _], [.int _], _) _
            refine w_t (pc := 115) (e_s := (15, 3, 120, 1, 0, .null, [])) (y_s := (118, [some (.ref _), some (.ref _), some (.int _), some (.int _), some (.int _), some (.int _), some (.int _), _], [], _)) rfl (u_ rfl) ?_
            refine w_t (pc := 118) (e_s := (0, 1, 0, 0, 0, .int 0, [])) (y_s := (119, [some (.ref _), some (.ref _), some (.int _), some (.int _), some (.int _), some (.int _), some (.int _), _], [.int _], _)) rfl (u_ rfl) ?_
            exact wrI (pc := 119) (len_s := 1) rfl hk t_s
      · replace t_s := t_s.2 c3_s
        refine w_t (pc := 120) (e_s := (3, 1, 0, 0, 0, .null, [])) (y_s := (121, [some (.ref _), some (.ref _), some (.int _), some (.int _), some (.int _), some (.int _), some (.int _), _], [.ref _], _)) rfl (u_ rfl) ?_
        refine w20r (pc := 121) (len_s := 3) (q_s := q_s + 2) rfl (klaw2 hk hm_s) ?_
        refine w_t (pc := 124) (e_s := (1, 1, 2, 0, 0, .null, [])) (y_s := (125, [some (.ref _), some (.ref _), some (.int _), some (.int _), some (.int _), some (.int _), some (.int _), _], [.int _, .ref _], _)) rfl (u_ rfl) ?_
        refine w_t (pc := 125) (e_s := (1, 2, 5, 0, 0, .null, [])) (y_s := (127, [some (.ref _), some (.ref _), some (.int _), some (.int _), some (.int _), some (.int _), some (.int _), _], [.int _, .int _, .ref _], _)) rfl (u_ rfl) ?_
        refine w_t (pc := 127) (e_s := (0, 2, 0, 0, 0, .int 48, [])) (y_s := (129, [some (.ref _), some (.ref _), some (.int _), some (.int _), some (.int _), some (.int _), some (.int _), _], [.int _, .int _, .int _, .ref _], _)) rfl (u_ rfl) ?_
        refine wi1 (pc := 129) (len_s := 3) (Y := 48) rfl rfl (by decide) (fun c8_s => ?_) (fun c8_s => ?_)
        · skip
          refine w_t (pc := 132) (e_s := (1, 2, 6, 0, 0, .null, [])) (y_s := (134, [some (.ref _), some (.ref _), some (.int _), some (.int _), some (.int _), some (.int _), some (.int _), _], [.int _, .int _, .ref _], _)) rfl (u_ rfl) ?_
          refine w_t (pc := 134) (e_s := (17, 3, 141, 0, 0, .null, [])) (y_s := (141, [some (.ref _), some (.ref _), some (.int _), some (.int _), some (.int _), some (.int _), some (.int _), _], [.int _, .int _, .ref _], _)) rfl (u_ rfl) ?_
          refine w25 (pc := 141) (len_s := 1) rfl (klz2 hk hm_s) (fun c9_s => ?_)
          replace t_s := t_s c9_s
          refine w_t (pc := 142) (e_s := (19, 3, 2, 0, 0, .int 1, [])) (y_s := (145, [some (.ref _), some (.ref _), some (.int _), some (.int _), some (.int _), some (.int _), some (.int _), _], [], _)) rfl (u_ rfl) ?_
          refine w_t (pc := 145) (e_s := (19, 3, 3, 0, 0, .int 1, [])) (y_s := (148, [some (.ref _), some (.ref _), some (.int _), some (.int _), some (.int _), some (.int _), some (.int _), _], [], _)) rfl (u_ rfl) ?_
          refine w_t (pc := 148) (e_s := (17, 3, 307, 0, 0, .null, [])) (y_s := (307, [some (.ref _), some (.ref _), some (.int _), some (.int _), some (.int _), some (.int _), some (.int _), _], [], _)) rfl (u_ rfl) ?_
          refine w_t (pc := 307) (e_s := (19, 3, 4, 0, 0, .int 1, [])) (y_s := (310, [some (.ref _), some (.ref _), some (.int _), some (.int _), some (.int _), some (.int _), some (.int _), _], [], _)) rfl (u_ rfl) ?_
          refine w_t (pc := 310) (e_s := (17, 3, 32, 0, 0, .null, [])) (y_s := (32, [some (.ref _), some (.ref _), some (.int _), some (.int _), some (.int _), some (.int _), some (.int _), _], [], _)) rfl (u_ rfl) ?_
          exact t_s
        · exact absurd c1_s c8_s
    · replace t_s := t_s.2 c2_s
      refine w_t (pc := 118) (e_s := (0, 1, 0, 0, 0, .int 0, [])) (y_s := (119, [some (.ref _), some (.ref _), some (.int _), some (.int _), some (.int _), some (.int _), some (.int _), _], [.int _], _)) rfl (u_ rfl) ?_
      exact wrI (pc := 119) (len_s := 1) rfl hk t_s
  · replace t_s := t_s.2 c1_s
    refine w_t (pc := 90) (e_s := (1, 2, 5, 0, 0, .null, [])) (y_s := (92, [some (.ref _), some (.ref _), some (.int _), some (.int _), some (.int _), some (.int _), some (.int _), _], [.int _], _)) rfl (u_ rfl) ?_
    refine w_t (pc := 92) (e_s := (0, 2, 0, 0, 0, .int 109, [])) (y_s := (94, [some (.ref _), some (.ref _), some (.int _), some (.int _), some (.int _), some (.int _), some (.int _), _], [.int _, .int _], _)) rfl (u_ rfl) ?_
    refine wi1 (pc := 94) (len_s := 3) (Y := 109) rfl rfl (by decide) (fun c10_s => ?_) (fun c10_s => ?_)
    · replace t_s := t_s.1 c10_s
      refine w_t (pc := 97) (e_s := (1, 1, 2, 0, 0, .null, [])) (y_s := (98, [some (.ref _), some (.ref _), some (.int _), some (.int _), some (.int _), some (.int _), some (.int _), _], [.int _], _)) rfl (u_ rfl) ?_
      refine w_t (pc := 98) (e_s := (0, 2, 0, 0, 0, .int 64, [])) (y_s := (100, [some (.ref _), some (.ref _), some (.int _), some (.int _), some (.int _), some (.int _), some (.int _), _], [.int _, .int _], _)) rfl (u_ rfl) ?_
      refine wi3 (pc := 100) (len_s := 3) (Y := 64) rfl rfl (by decide) (fun c11_s => ?_) (fun c11_s => ?_)
      · replace t_s := t_s.1 c11_s
        refine w_t (pc := 103) (e_s := (1, 2, 5, 0, 0, .null, [])) (y_s := (105, [some (.ref _), some (.ref _), some (.int _), some (.int _), some (.int _), some (.int _), some (.int _), _], [.int _], _)) rfl (u_ rfl) ?_
        refine w_t (pc := 105) (e_s := (0, 2, 0, 0, 0, .int 109, [])) (y_s := (107, [some (.ref _), some (.ref _), some (.int _), some (.int _), some (.int _), some (.int _), some (.int _), _], [.int _, .int _], _)) rfl (u_ rfl) ?_
        refine wi1 (pc := 107) (len_s := 3) (Y := 109) rfl rfl (by decide) (fun c12_s => ?_) (fun c12_s => ?_)
        · skip
          refine w_t (pc := 110) (e_s := (1, 2, 6, 0, 0, .null, [])) (y_s := (112, [some (.ref _), some (.ref _), some (.int _), some (.int _), some (.int _), some (.int _), some (.int _), _], [.int _], _)) rfl (u_ rfl) ?_
          refine wcI (pc := 112) (len_s := 3) rfl rfl (l := [some (.int _)]) rfl ?_
          refine w_t (pc := 0) (e_s := (1, 1, 0, 0, 0, .null, [])) (y_s := (1, [some (.int _)], [.int _], _)) rfl (u_ rfl) ?_
          refine wq2 (pc := 1) (len_s := 3) rfl rfl (fun c13_s => ?_) (fun c13_s => ?_)
          · replace t_s := t_s.1 c13_s
            refine w_t (pc := 14) (e_s := (0, 1, 0, 0, 0, .int 0, [])) (y_s := (15, [some (.int _)], [.int _], _)) rfl (u_ rfl) ?_
            refine wrI (pc := 15) (len_s := 1) rfl hk ?_
            show wF _ 58 (115, [some (.ref _), some (.ref _), some (.int _), some (.int _), some (.int _), some (.int _), some (.int _), _], [.int _], _) _
            refine w_t (pc := 115) (e_s := (15, 3, 120, 1, 0, .null, [])) (y_s := (118, [some (.ref _), some (.ref _), some (.int _), some (.int _), some (.int _), some (.int _), some (.int _), _], [], _)) rfl (u_ rfl) ?_
            refine w_t (pc := 118) (e_s := (0, 1, 0, 0, 0, .int 0, [])) (y_s := (119, [some (.ref _), some (.ref _), some (.int _), some (.int _), some (.int _), some (.int _), some (.int _), _], [.int _], _)) rfl (u_ rfl) ?_
            exact wrI (pc := 119) (len_s := 1) rfl hk t_s
          · replace t_s := t_s.2 c13_s
            refine w_t (pc := 4) (e_s := (1, 1, 0, 0, 0, .null, [])) (y_s := (5, [some (.int _)], [.int _], _)) rfl (u_ rfl) ?_
            refine w_t (pc := 5) (e_s := (0, 2, 0, 0, 0, .int 6, [])) (y_s := (7, [some (.int _)], [.int _, .int _], _)) rfl (u_ rfl) ?_
            refine wi3 (pc := 7) (len_s := 3) (Y := 6) rfl rfl (by decide) (fun c14_s => ?_) (fun c14_s => ?_)
            · replace t_s := t_s.1 c14_s
              refine w_t (pc := 10) (e_s := (0, 1, 0, 0, 0, .int 1, [])) (y_s := (11, [some (.int _)], [.int _], _)) rfl (u_ rfl) ?_
              refine w_t (pc := 11) (e_s := (17, 3, 15, 0, 0, .null, [])) (y_s := (15, [some (.int _)], [.int _], _)) rfl (u_ rfl) ?_
              refine wrI (pc := 15) (len_s := 1) rfl hk ?_
              show wF _ 58 (115, [some (.ref _), some (.ref _), some (.int _), some (.int _), some (.int _), some (.int _), some (.int _), _], [.int _], _) _
              refine w_t (pc := 115) (e_s := (15, 3, 120, 1, 0, .null, [])) (y_s := (120, [some (.ref _), some (.ref _), some (.int _), some (.int _), some (.int _), some (.int _), some (.int _), _], [], _)) rfl (u_ rfl) ?_
              refine w_t (pc := 120) (e_s := (3, 1, 0, 0, 0, .null, [])) (y_s := (121, [some (.ref _), some (.ref _), some (.int _), some (.int _), some (.int _), some (.int _), some (.int _), _], [.ref _], _)) rfl (u_ rfl) ?_
              refine w20r (pc := 121) (len_s := 3) (q_s := q_s + 2) rfl (klaw2 hk hm_s) ?_
              refine w_t (pc := 124) (e_s := (1, 1, 2, 0, 0, .null, [])) (y_s := (125, [some (.ref _), some (.ref _), some (.int _), some (.int _), some (.int _), some (.int _), some (.int _), _], [.int _, .ref _], _)) rfl (u_ rfl) ?_
              refine w_t (pc := 125) (e_s := (1, 2, 5, 0, 0, .null, [])) (y_s := (127, [some (.ref _), some (.ref _), some (.int _), some (.int _), some (.int _), some (.int _), some (.int _), _], [.int _, .int _, .ref _], _)) rfl (u_ rfl) ?_
              refine w_t (pc := 127) (e_s := (0, 2, 0, 0, 0, .int 48, [])) (y_s := (129, [some (.ref _), some (.ref _), some (.int _), some (.int _), some (.int _), some (.int _), some (.int _), _], [.int _, .int _, .int _, .ref _], _)) rfl (u_ rfl) ?_
              refine wi1 (pc := 129) (len_s := 3) (Y := 48) rfl rfl (by decide) (fun c15_s => ?_) (fun c15_s => ?_)
              · exact absurd c15_s c1_s
              · skip
                refine w_t (pc := 137) (e_s := (3, 1, 1, 0, 0, .null, [])) (y_s := (138, [some (.ref _), some (.ref _), some (.int _), some (.int _), some (.int _), some (.int _), some (.int _), _], [.ref _, .int _, .ref _], _)) rfl (u_ rfl) ?_
                refine w_t (pc := 138) (e_s := (1, 2, 6, 0, 0, .null, [])) (y_s := (140, [some (.ref _), some (.ref _), some (.int _), some (.int _), some (.int _), some (.int _), some (.int _), _], [.int _, .ref _, .int _, .ref _], _)) rfl (u_ rfl) ?_
                refine w22 (pc := 140) (len_s := 1) rfl (hk.1 13 0 6 rfl rfl) (fun c16 => ?_)
                replace t_s := t_s c16
                refine w25 (pc := 141) (len_s := 1) rfl (klz2 hk hm_s) (fun c17 => ?_)
                replace t_s := t_s c17
                refine w_t (pc := 142) (e_s := (19, 3, 2, 0, 0, .int 1, [])) (y_s := (145, [some (.ref _), some (.ref _), some (.int _), some (.int _), some (.int _), some (.int _), some (.int _), _], [], _)) rfl (u_ rfl) ?_
                refine w_t (pc := 145) (e_s := (19, 3, 3, 0, 0, .int 1, [])) (y_s := (148, [some (.ref _), some (.ref _), some (.int _), some (.int _), some (.int _), some (.int _), some (.int _), _], [], _)) rfl (u_ rfl) ?_
                refine w_t (pc := 148) (e_s := (17, 3, 307, 0, 0, .null, [])) (y_s := (307, [some (.ref _), some (.ref _), some (.int _), some (.int _), some (.int _), some (.int _), some (.int _), _], [], _)) rfl (u_ rfl) ?_
                refine w_t (pc := 307) (e_s := (19, 3, 4, 0, 0, .int 1, [])) (y_s := (310, [some (.ref _), some (.ref _), some (.int _), some (.int _), some (.int _), some (.int _), some (.int _), _], [], _)) rfl (u_ rfl) ?_
                refine w_t (pc := 310) (e_s := (17, 3, 32, 0, 0, .null, [])) (y_s := (32, [some (.ref _), some (.ref _), some (.int _), some (.int _), some (.int _), some (.int _), some (.int _), _], [], _)) rfl (u_ rfl) ?_
                exact t_s
            · replace t_s := t_s.2 c14_s
              refine w_t (pc := 14) (e_s := (0, 1, 0, 0, 0, .int 0, [])) (y_s := (15, [some (.int _)], [.int _], _)) rfl (u_ rfl) ?_
              refine wrI (pc := 15) (len_s := 1) rfl hk ?_
              show wF _ 58 (115, [some (.ref _), some (.ref _), some (.int _), some (.int _), some (.int _), some (.int _), some (.int _), _], [.int _], _) _
              refine w_t (pc := 115) (e_s := (15, 3, 120, 1, 0, .null, [])) (y_s := (118, [some (.ref _), some (.ref _), some (.int _), some (.int _), some (.int _), some (.int _), some (.int _), _], [], _)) rfl (u_ rfl) ?_
              refine w_t (pc := 118) (e_s := (0, 1, 0, 0, 0, .int 0, [])) (y_s := (119, [some (.ref _), some (.ref _), some (.int _), some (.int _), some (.int _), some (.int _), some (.int _), _], [.int _], _)) rfl (u_ rfl) ?_
              exact wrI (pc := 119) (len_s := 1) rfl hk t_s
        · exact absurd c10_s c12_s
      · replace t_s := t_s.2 c11_s
        refine w_t (pc := 118) (e_s := (0, 1, 0, 0, 0, .int 0, [])) (y_s := (119, [some (.ref _), some (.ref _), some (.int _), some (.int _), some (.int _), some (.int _), some (.int _), _], [.int _], _)) rfl (u_ rfl) ?_
        exact wrI (pc := 119) (len_s := 1) rfl hk t_s
    · replace t_s := t_s.2 c10_s
      refine w_t (pc := 151) (e_s := (1, 1, 2, 0, 0, .null, [])) (y_s := (152, [some (.ref _), some (.ref _), some (.int _), some (.int _), some (.int _), some (.int _), some (.int _), _], [.int _], _)) rfl (u_ rfl) ?_
      refine w_t (pc := 152) (e_s := (0, 1, 0, 0, 0, .int 1, [])) (y_s := (153, [some (.ref _), some (.ref _), some (.int _), some (.int _), some (.int _), some (.int _), some (.int _), _], [.int _, .int _], _)) rfl (u_ rfl) ?_
      refine wi3 (pc := 153) (len_s := 3) (Y := 1) rfl rfl (by decide) (fun c18_s => ?_) (fun c18_s => ?_)
      · replace t_s := t_s.1 c18_s
        refine w_t (pc := 156) (e_s := (0, 1, 0, 0, 0, .int 0, [])) (y_s := (157, [some (.ref _), some (.ref _), some (.int _), some (.int _), some (.int _), some (.int _), some (.int _), _], [.int _], _)) rfl (u_ rfl) ?_
        exact wrI (pc := 157) (len_s := 1) rfl hk t_s
      · replace t_s := t_s.2 c18_s
        refine w_t (pc := 158) (e_s := (3, 1, 0, 0, 0, .null, [])) (y_s := (159, [some (.ref _), some (.ref _), some (.int _), some (.int _), some (.int _), some (.int _), some (.int _), _], [.ref _], _)) rfl (u_ rfl) ?_
        refine w20r (pc := 159) (len_s := 3) (q_s := q_s + 2) rfl (klaw2 hk hm_s) ?_
        refine w_t (pc := 162) (e_s := (1, 1, 2, 0, 0, .null, [])) (y_s := (163, [some (.ref _), some (.ref _), some (.int _), some (.int _), some (.int _), some (.int _), some (.int _), _], [.int _, .ref _], _)) rfl (u_ rfl) ?_
        refine w_t (pc := 163) (e_s := (0, 1, 0, 0, 0, .int 1, [])) (y_s := (164, [some (.ref _), some (.ref _), some (.int _), some (.int _), some (.int _), some (.int _), some (.int _), _], [.int _, .int _, .ref _], _)) rfl (u_ rfl) ?_
        refine w_t (pc := 164) (e_s := (7, 1, 0, 1, 0, .null, [])) (y_s := (165, [some (.ref _), some (.ref _), some (.int _), some (.int _), some (.int _), some (.int _), some (.int _), _], [.int (_ - _), .ref _], _)) rfl (u_ rfl) ?_
        refine w22 (pc := 165) (len_s := 1) rfl (klz2 hk hm_s) (fun c19_s => ?_)
        replace t_s := t_s c19_s
        refine w_t (pc := 166) (e_s := (4, 2, 7, 0, 0, .null, [])) (y_s := (168, [some (.ref _), some (.ref _), some (.int _), some (.int _), some (.int _), some (.int _), some (.int _), some (.int _)], [], _)) rfl (u_ rfl) ?_
        refine w_t (pc := 168) (e_s := (1, 2, 5, 0, 0, .null, [])) (y_s := (170, [some (.ref _), some (.ref _), some (.int _), some (.int _), some (.int _), some (.int _), some (.int _), some (.int _)], [.int _], _)) rfl (u_ rfl) ?_
        refine wsw (pc := 170) (len_s := 42) rfl ?_
        refine wsc (X_s := 33) rfl (by decide) (fun c20_s => ?_) (fun c20_s => ?_)
        · replace t_s := t_s.1 c20_s
          refine w_t (pc := 212) (e_s := (3, 1, 0, 0, 0, .null, [])) (y_s := (213, [some (.ref _), some (.ref _), some (.int _), some (.int _), some (.int _), some (.int _), some (.int _), some (.int _)], [.ref _], _)) rfl (u_ rfl) ?_
          refine w20r (pc := 213) (len_s := 3) (q_s := q_s + 2) rfl (klaw2 hk hm_s) ?_
          refine w_t (pc := 216) (e_s := (1, 1, 2, 0, 0, .null, [])) (y_s := (217, [some (.ref _), some (.ref _), some (.int _), some (.int _), some (.int _), some (.int _), some (.int _), some (.int _)], [.int _, .ref _], _)) rfl (u_ rfl) ?_
          refine w_t (pc := 217) (e_s := (0, 1, 0, 0, 0, .int 1, [])) (y_s := (218, [some (.ref _), some (.ref _), some (.int _), some (.int _), some (.int _), some (.int _), some (.int _), some (.int _)], [.int _, .int _, .ref _], _)) rfl (u_ rfl) ?_
          refine w_t (pc := 218) (e_s := (7, 1, 0, 1, 0, .null, [])) (y_s := (219, [some (.ref _), some (.ref _), some (.int _), some (.int _), some (.int _), some (.int _), some (.int _), some (.int _)], [.int (_ - _), .ref _], _)) rfl (u_ rfl) ?_
          refine w_t (pc := 219) (e_s := (1, 2, 7, 0, 0, .null, [])) (y_s := (221, [some (.ref _), some (.ref _), some (.int _), some (.int _), some (.int _), some (.int _), some (.int _), some (.int _)], [.int _, .int _, .ref _], _)) rfl (u_ rfl) ?_
          refine wq1 (pc := 221) (len_s := 3) rfl rfl (fun c21 => ?_) (fun c21 => ?_)
          · replace t_s := t_s.1 c21
            refine w_t (pc := 224) (e_s := (0, 1, 0, 0, 0, .int 1, [])) (y_s := (225, [some (.ref _), some (.ref _), some (.int _), some (.int _), some (.int _), some (.int _), some (.int _), some (.int _)], [.int _, .int _, .ref _], _)) rfl (u_ rfl) ?_
            refine w_t (pc := 225) (e_s := (17, 3, 229, 0, 0, .null, [])) (y_s := (229, [some (.ref _), some (.ref _), some (.int _), some (.int _), some (.int _), some (.int _), some (.int _), some (.int _)], [.int _, .int _, .ref _], _)) rfl (u_ rfl) ?_
            refine w25 (pc := 229) (len_s := 1) rfl (klz2 hk hm_s) (fun c22 => ?_)
            refine w_t (pc := 230) (e_s := (17, 3, 307, 0, 0, .null, [])) (y_s := (307, [some (.ref _), some (.ref _), some (.int _), some (.int _), some (.int _), some (.int _), some (.int _), some (.int _)], [], _)) rfl (u_ rfl) ?_
            refine w_t (pc := 307) (e_s := (19, 3, 4, 0, 0, .int 1, [])) (y_s := (310, [some (.ref _), some (.ref _), some (.int _), some (.int _), some (.int _), some (.int _), some (.int _), some (.int _)], [], _)) rfl (u_ rfl) ?_
            refine w_t (pc := 310) (e_s := (17, 3, 32, 0, 0, .null, [])) (y_s := (32, [some (.ref _), some (.ref _), some (.int _), some (.int _), some (.int _), some (.int _), some (.int _), some (.int _)], [], _)) rfl (u_ rfl) ?_
            exact t_s
          · replace t_s := t_s.2 c21
            refine w_t (pc := 228) (e_s := (0, 1, 0, 0, 0, .int 0, [])) (y_s := (229, [some (.ref _), some (.ref _), some (.int _), some (.int _), some (.int _), some (.int _), some (.int _), some (.int _)], [.int _, .int _, .ref _], _)) rfl (u_ rfl) ?_
            refine w25 (pc := 229) (len_s := 1) rfl (klz2 hk hm_s) (fun c23_s => ?_)
            refine w_t (pc := 230) (e_s := (17, 3, 307, 0, 0, .null, [])) (y_s := (307, [some (.ref _), some (.ref _), some (.int _), some (.int _), some (.int _), some (.int _), some (.int _), some (.int _)], [], _)) rfl (u_ rfl) ?_
            refine w_t (pc := 307) (e_s := (19, 3, 4, 0, 0, .int 1, [])) (y_s := (310, [some (.ref _), some (.ref _), some (.int _), some (.int _), some (.int _), some (.int _), some (.int _), some (.int _)], [], _)) rfl (u_ rfl) ?_
            refine w_t (pc := 310) (e_s := (17, 3, 32, 0, 0, .null, [])) (y_s := (32, [some (.ref _), some (.ref _), some (.int _), some (.int _), some (.int _), some (.int _), some (.int _), some (.int _)], [], _)) rfl (u_ rfl) ?_
            exact t_s
        · replace t_s := t_s.2 c20_s
          refine wsc (X_s := 59) rfl (by decide) (fun c24_s => ?_) (fun c24_s => ?_)
          · replace t_s := t_s.1 c24_s
            refine w_t (pc := 271) (e_s := (1, 2, 7, 0, 0, .null, [])) (y_s := (273, [some (.ref _), some (.ref _), some (.int _), some (.int _), some (.int _), some (.int _), some (.int _), some (.int _)], [.int _], _)) rfl (u_ rfl) ?_
            exact wrI (pc := 273) (len_s := 1) rfl hk t_s
          · replace t_s := t_s.2 c24_s
            refine wsc (X_s := 63) rfl (by decide) (fun c25_s => ?_) (fun c25_s => ?_)
            · replace t_s := t_s.1 c25_s
              refine w_t (pc := 247) (e_s := (19, 3, 2, 0, 0, .int (-1), [])) (y_s := (250, [some (.ref _), some (.ref _), some (.int _), some (.int _), some (.int _), some (.int _), some (.int _), some (.int _)], [], _)) rfl (u_ rfl) ?_
              refine w_t (pc := 250) (e_s := (1, 2, 7, 0, 0, .null, [])) (y_s := (252, [some (.ref _), some (.ref _), some (.int _), some (.int _), some (.int _), some (.int _), some (.int _), some (.int _)], [.int _], _)) rfl (u_ rfl) ?_
              refine wq1 (pc := 252) (len_s := 3) rfl rfl (fun c26 => ?_) (fun c26 => ?_)
              · replace t_s := t_s.1 c26
                refine w_t (pc := 255) (e_s := (1, 1, 3, 0, 0, .null, [])) (y_s := (256, [some (.ref _), some (.ref _), some (.int _), some (.int _), some (.int _), some (.int _), some (.int _), some (.int _)], [.int _], _)) rfl (u_ rfl) ?_
                refine w_t (pc := 256) (e_s := (1, 2, 6, 0, 0, .null, [])) (y_s := (258, [some (.ref _), some (.ref _), some (.int _), some (.int _), some (.int _), some (.int _), some (.int _), some (.int _)], [.int _, .int _], _)) rfl (u_ rfl) ?_
                refine w_t (pc := 258) (e_s := (31, 3, 0, 0, 0, .null, [(0, 836), (0, 783), (0, 784), (0, 777)])) (y_s := (261, [some (.ref _), some (.ref _), some (.int _), some (.int _), some (.int _), some (.int _), some (.int _), some (.int _)], [.int _], _)) rfl (u_ rfl) ?_
                refine w_t (pc := 261) (e_s := (17, 3, 267, 0, 0, .null, [])) (y_s := (267, [some (.ref _), some (.ref _), some (.int _), some (.int _), some (.int _), some (.int _), some (.int _), some (.int _)], [.int _], _)) rfl (u_ rfl) ?_
                refine w_t (pc := 267) (e_s := (4, 1, 3, 0, 0, .null, [])) (y_s := (268, [some (.ref _), some (.ref _), some (.int _), some (.int _), some (.int _), some (.int _), some (.int _), some (.int _)], [], _)) rfl (u_ rfl) ?_
                refine w_t (pc := 268) (e_s := (17, 3, 307, 0, 0, .null, [])) (y_s := (307, [some (.ref _), some (.ref _), some (.int _), some (.int _), some (.int _), some (.int _), some (.int _), some (.int _)], [], _)) rfl (u_ rfl) ?_
                refine w_t (pc := 307) (e_s := (19, 3, 4, 0, 0, .int 1, [])) (y_s := (310, [some (.ref _), some (.ref _), some (.int _), some (.int _), some (.int _), some (.int _), some (.int _), some (.int _)], [], _)) rfl (u_ rfl) ?_
                refine w_t (pc := 310) (e_s := (17, 3, 32, 0, 0, .null, [])) (y_s := (32, [some (.ref _), some (.ref _), some (.int _), some (.int _), some (.int _), some (.int _), some (.int _), some (.int _)], [], _)) rfl (u_ rfl) ?_
                exact t_s
              · replace t_s := t_s.2 c26
                refine w_t (pc := 264) (e_s := (1, 1, 3, 0, 0, .null, [])) (y_s := (265, [some (.ref _), some (.ref _), some (.int _), some (.int _), some (.int _), some (.int _), some (.int _), some (.int _)], [.int _], _)) rfl (u_ rfl) ?_
                refine w_t (pc := 265) (e_s := (0, 1, 0, 0, 0, .int 1, [])) (y_s := (266, [some (.ref _), some (.ref _), some (.int _), some (.int _), some (.int _), some (.int _), some (.int _), some (.int _)], [.int _, .int _], _)) rfl (u_ rfl) ?_
                refine w_t (pc := 266) (e_s := (7, 1, 0, 0, 0, .null, [])) (y_s := (267, [some (.ref _), some (.ref _), some (.int _), some (.int _), some (.int _), some (.int _), some (.int _), some (.int _)], [.int (_ + _)], _)) rfl (u_ rfl) ?_
                refine w_t (pc := 267) (e_s := (4, 1, 3, 0, 0, .null, [])) (y_s := (268, [some (.ref _), some (.ref _), some (.int _), some (.int _), some (.int _), some (.int _), some (.int _), some (.int _)], [], _)) rfl (u_ rfl) ?_
                refine w_t (pc := 268) (e_s := (17, 3, 307, 0, 0, .null, [])) (y_s := (307, [some (.ref _), some (.ref _), some (.int _), some (.int _), some (.int _), some (.int _), some (.int _), some (.int _)], [], _)) rfl (u_ rfl) ?_
                refine w_t (pc := 307) (e_s := (19, 3, 4, 0, 0, .int 1, [])) (y_s := (310, [some (.ref _), some (.ref _), some (.int _), some (.int _), some (.int _), some (.int _), some (.int _), some (.int _)], [], _)) rfl (u_ rfl) ?_
                refine w_t (pc := 310) (e_s := (17, 3, 32, 0, 0, .null, [])) (y_s := (32, [some (.ref _), some (.ref _), some (.int _), some (.int _), some (.int _), some (.int _), some (.int _), some (.int _)], [], _)) rfl (u_ rfl) ?_
                exact t_s
            · replace t_s := t_s.2 c25_s
              refine wsc (X_s := 126) rfl (by decide) (fun c27_s => ?_) (fun c27_s => ?_)
              · replace t_s := t_s.1 c27_s
                refine w_t (pc := 233) (e_s := (3, 1, 0, 0, 0, .null, [])) (y_s := (234, [some (.ref _), some (.ref _), some (.int _), some (.int _), some (.int _), some (.int _), some (.int _), some (.int _)], [.ref _], _)) rfl (u_ rfl) ?_
                refine w20r (pc := 234) (len_s := 3) (q_s := q_s + 2) rfl (klaw2 hk hm_s) ?_
                refine w_t (pc := 237) (e_s := (1, 1, 2, 0, 0, .null, [])) (y_s := (238, [some (.ref _), some (.ref _), some (.int _), some (.int _), some (.int _), some (.int _), some (.int _), some (.int _)], [.int _, .ref _], _)) rfl (u_ rfl) ?_
                refine w_t (pc := 238) (e_s := (0, 1, 0, 0, 0, .int 1, [])) (y_s := (239, [some (.ref _), some (.ref _), some (.int _), some (.int _), some (.int _), some (.int _), some (.int _), some (.int _)], [.int _, .int _, .ref _], _)) rfl (u_ rfl) ?_
                refine w_t (pc := 239) (e_s := (7, 1, 0, 1, 0, .null, [])) (y_s := (240, [some (.ref _), some (.ref _), some (.int _), some (.int _), some (.int _), some (.int _), some (.int _), some (.int _)], [.int (_ - _), .ref _], _)) rfl (u_ rfl) ?_
                refine w_t (pc := 240) (e_s := (1, 2, 7, 0, 0, .null, [])) (y_s := (242, [some (.ref _), some (.ref _), some (.int _), some (.int _), some (.int _), some (.int _), some (.int _), some (.int _)], [.int _, .int _, .ref _], _)) rfl (u_ rfl) ?_
                refine w_t (pc := 242) (e_s := (9, 1, 0, 0, 0, .null, [])) (y_s := (243, [some (.ref _), some (.ref _), some (.int _), some (.int _), some (.int _), some (.int _), some (.int _), some (.int _)], [.int (-_), .int _, .ref _], _)) rfl (u_ rfl) ?_
                refine w25 (pc := 243) (len_s := 1) rfl (klz2 hk hm_s) (fun c28_s => ?_)
                refine w_t (pc := 244) (e_s := (17, 3, 307, 0, 0, .null, [])) (y_s := (307, [some (.ref _), some (.ref _), some (.int _), some (.int _), some (.int _), some (.int _), some (.int _), some (.int _)], [], _)) rfl (u_ rfl) ?_
                refine w_t (pc := 307) (e_s := (19, 3, 4, 0, 0, .int 1, [])) (y_s := (310, [some (.ref _), some (.ref _), some (.int _), some (.int _), some (.int _), some (.int _), some (.int _), some (.int _)], [], _)) rfl (u_ rfl) ?_
                refine w_t (pc := 310) (e_s := (17, 3, 32, 0, 0, .null, [])) (y_s := (32, [some (.ref _), some (.ref _), some (.int _), some (.int _), some (.int _), some (.int _), some (.int _), some (.int _)], [], _)) rfl (u_ rfl) ?_
                exact t_s
              · replace t_s := t_s.2 c27_s
                show wF _ _ (274, _, _, _) _
                refine w_t (pc := 274) (e_s := (1, 1, 2, 0, 0, .null, [])) (y_s := (275, [some (.ref _), some (.ref _), some (.int _), some (.int _), some (.int _), some (.int _), some (.int _), some (.int _)], [.int _], _)) rfl (u_ rfl) ?_
                refine w_t (pc := 275) (e_s := (0, 1, 0, 0, 0, .int 2, [])) (y_s := (276, [some (.ref _), some (.ref _), some (.int _), some (.int _), some (.int _), some (.int _), some (.int _), some (.int _)], [.int _, .int _], _)) rfl (u_ rfl) ?_
                refine wi3 (pc := 276) (len_s := 3) (Y := 2) rfl rfl (by decide) (fun c29_s => ?_) (fun c29_s => ?_)
                · replace t_s := t_s.1 c29_s
                  refine w_t (pc := 279) (e_s := (0, 1, 0, 0, 0, .int 0, [])) (y_s := (280, [some (.ref _), some (.ref _), some (.int _), some (.int _), some (.int _), some (.int _), some (.int _), some (.int _)], [.int _], _)) rfl (u_ rfl) ?_
                  exact wrI (pc := 280) (len_s := 1) rfl hk t_s
                · replace t_s := t_s.2 c29_s
                  refine w_t (pc := 281) (e_s := (19, 3, 2, 0, 0, .int (-1), [])) (y_s := (284, [some (.ref _), some (.ref _), some (.int _), some (.int _), some (.int _), some (.int _), some (.int _), some (.int _)], [], _)) rfl (u_ rfl) ?_
                  refine w_t (pc := 284) (e_s := (3, 1, 0, 0, 0, .null, [])) (y_s := (285, [some (.ref _), some (.ref _), some (.int _), some (.int _), some (.int _), some (.int _), some (.int _), some (.int _)], [.ref _], _)) rfl (u_ rfl) ?_
                  refine w20r (pc := 285) (len_s := 3) (q_s := q_s + 2) rfl (klaw2 hk hm_s) ?_
                  refine w_t (pc := 288) (e_s := (1, 1, 2, 0, 0, .null, [])) (y_s := (289, [some (.ref _), some (.ref _), some (.int _), some (.int _), some (.int _), some (.int _), some (.int _), some (.int _)], [.int _, .ref _], _)) rfl (u_ rfl) ?_
                  refine w_t (pc := 289) (e_s := (0, 1, 0, 0, 0, .int 1, [])) (y_s := (290, [some (.ref _), some (.ref _), some (.int _), some (.int _), some (.int _), some (.int _), some (.int _), some (.int _)], [.int _, .int _, .ref _], _)) rfl (u_ rfl) ?_
                  refine w_t (pc := 290) (e_s := (7, 1, 0, 1, 0, .null, [])) (y_s := (291, [some (.ref _), some (.ref _), some (.int _), some (.int _), some (.int _), some (.int _), some (.int _), some (.int _)], [.int (_ - _), .ref _], _)) rfl (u_ rfl) ?_
                  refine w_t (pc := 291) (e_s := (3, 1, 0, 0, 0, .null, [])) (y_s := (292, [some (.ref _), some (.ref _), some (.int _), some (.int _), some (.int _), some (.int _), some (.int _), some (.int _)], [.ref _, .int _, .ref _], _)) rfl (u_ rfl) ?_
                  refine w20r (pc := 292) (len_s := 3) (q_s := q_s + 2) rfl (klaw2 hk hm_s) ?_
                  refine w_t (pc := 295) (e_s := (1, 1, 2, 0, 0, .null, [])) (y_s := (296, [some (.ref _), some (.ref _), some (.int _), some (.int _), some (.int _), some (.int _), some (.int _), some (.int _)], [.int _, .ref _, .int _, .ref _], _)) rfl (u_ rfl) ?_
                  refine w_t (pc := 296) (e_s := (0, 1, 0, 0, 0, .int 1, [])) (y_s := (297, [some (.ref _), some (.ref _), some (.int _), some (.int _), some (.int _), some (.int _), some (.int _), some (.int _)], [.int _, .int _, .ref _, .int _, .ref _], _)) rfl (u_ rfl) ?_
                  refine w_t (pc := 297) (e_s := (7, 1, 0, 1, 0, .null, [])) (y_s := (298, [some (.ref _), some (.ref _), some (.int _), some (.int _), some (.int _), some (.int _), some (.int _), some (.int _)], [.int (_ - _), .ref _, .int _, .ref _], _)) rfl (u_ rfl) ?_
                  refine w22 (pc := 298) (len_s := 1) rfl (klz2 hk hm_s) (fun c30_s => ?_)
                  replace t_s := t_s c30_s
                  refine w_t (pc := 299) (e_s := (1, 2, 5, 0, 0, .null, [])) (y_s := (301, [some (.ref _), some (.ref _), some (.int _), some (.int _), some (.int _), some (.int _), some (.int _), some (.int _)], [.int _, .int _, .int _, .ref _], _)) rfl (u_ rfl) ?_
                  refine w_t (pc := 301) (e_s := (1, 2, 7, 0, 0, .null, [])) (y_s := (303, [some (.ref _), some (.ref _), some (.int _), some (.int _), some (.int _), some (.int _), some (.int _), some (.int _)], [.int _, .int _, .int _, .int _, .ref _], _)) rfl (u_ rfl) ?_
                  refine wcI (pc := 303) (len_s := 3) rfl rfl (l := [some (.int _), some (.int _), some (.int _)]) rfl (wmI t_s (fun v31 h31 hk t_s => ?_))
                  replace t_s := t_s hk
                  refine w25 (pc := 306) (len_s := 1) rfl (klz2 hk hm_s) (fun c32_s => ?_)
                  refine w_t (pc := 307) (e_s := (19, 3, 4, 0, 0, .int 1, [])) (y_s := (310, [some (.ref _), some (.ref _), some (.int _), some (.int _), some (.int _), some (.int _), some (.int _), some (.int _)], [], _)) rfl (u_ rfl) ?_
                  refine w_t (pc := 310) (e_s := (17, 3, 32, 0, 0, .null, [])) (y_s := (32, [some (.ref _), some (.ref _), some (.int _), some (.int _), some (.int _), some (.int _), some (.int _), some (.int _)], [], _)) rfl (u_ rfl) ?_
                  exact t_s
/-- ColdShod$LawCode.joined(III)I, from 0 on -/
theorem sg_60_0 {F_s : Nat} {x1_s : Int32} {x2_s : Int32} {x3 : Int32} {h_s : zH} {K_s : Int32 → zH → Prop} (hk : hKn h_s) (t_s : (x2_s.toInt = 37 → ((x3.toInt = 0 → K_s 0 h_s) ∧ (¬ x3.toInt = 0 → K_s (x1_s - x1_s / x3 * x3) h_s))) ∧ (¬ x2_s.toInt = 37 → (x2_s.toInt = 38 → ((x1_s.toInt = 0 → K_s 0 h_s) ∧ (¬ x1_s.toInt = 0 → ((x3.toInt = 0 → K_s 0 h_s) ∧ (¬ x3.toInt = 0 → K_s 1 h_s))))) ∧ (¬ x2_s.toInt = 38 → (x2_s.toInt = 42 → K_s (x1_s * x3) h_s) ∧ (¬ x2_s.toInt = 42 → (x2_s.toInt = 43 → K_s (x1_s + x3) h_s) ∧ (¬ x2_s.toInt = 43 → (x2_s.toInt = 45 → K_s (x1_s - x3) h_s) ∧ (¬ x2_s.toInt = 45 → (x2_s.toInt = 47 → ((x3.toInt = 0 → K_s 0 h_s) ∧ (¬ x3.toInt = 0 → K_s (x1_s / x3) h_s))) ∧ (¬ x2_s.toInt = 47 → (x2_s.toInt = 60 → ((x1_s.toInt < x3.toInt → K_s 1 h_s) ∧ (¬ x1_s.toInt < x3.toInt → K_s 0 h_s))) ∧ (¬ x2_s.toInt = 60 → (x2_s.toInt = 61 → ((x1_s.toInt = x3.toInt → K_s 1 h_s) ∧ (¬ x1_s.toInt = x3.toInt → K_s 0 h_s))) ∧ (¬ x2_s.toInt = 61 → (x2_s.toInt = 62 → ((x3.toInt < x1_s.toInt → K_s 1 h_s) ∧ (¬ x3.toInt < x1_s.toInt → K_s 0 h_s))) ∧ (¬ x2_s.toInt = 62 → (x2_s.toInt = 124 → ((x1_s.toInt = 0 → ((x3.toInt = 0 → K_s 0 h_s) ∧ (¬ x3.toInt = 0 → K_s 1 h_s))) ∧ (¬ x1_s.toInt = 0 → K_s 1 h_s))) ∧ (¬ x2_s.toInt = 124 → K_s 0 h_s))))))))))) : wF (F_s + 1) 60 (0, [some (.int x1_s), some (.int x2_s), some (.int x3)], [], h_s) (gI K_s) := by
  refine w_0 (pc := 0) (e_s := (1, 1, 1, 0, 0, .null, [])) (y_s := (1, [some (.int _), some (.int _), some (.int _)], [.int _], _)) rfl (u_ rfl) ?_
  refine wsw (pc := 1) (len_s := 91) rfl ?_
  refine wsc (X_s := 37) rfl (by decide) (fun c1_s => ?_) (fun c1_s => ?_)
  · replace t_s := t_s.1 c1_s
    refine w_t (pc := 177) (e_s := (1, 1, 2, 0, 0, .null, [])) (y_s := (178, [some (.int _), some (.int _), some (.int _)], [.int _], _)) rfl (u_ rfl) ?_
    refine wq1 (pc := 178) (len_s := 3) rfl rfl (fun c2_s => ?_) (fun c2_s => ?_)
    · replace t_s := t_s.1 c2_s
      refine w_t (pc := 181) (e_s := (0, 1, 0, 0, 0, .int 0, [])) (y_s := (182, [some (.int _), some (.int _), some (.int _)], [.int _], _)) rfl (u_ rfl) ?_
      refine w_t (pc := 182) (e_s := (17, 3, 188, 0, 0, .null, [])) (y_s := (188, [some (.int _), some (.int _), some (.int _)], [.int _], _)) rfl (u_ rfl) ?_
      exact wrI (pc := 188) (len_s := 1) rfl hk t_s
    · replace t_s := t_s.2 c2_s
      refine w_t (pc := 185) (e_s := (1, 1, 0, 0, 0, .null, [])) (y_s := (186, [some (.int _), some (.int _), some (.int _)], [.int _], _)) rfl (u_ rfl) ?_
      refine w_t (pc := 186) (e_s := (1, 1, 2, 0, 0, .null, [])) (y_s := (187, [some (.int _), some (.int _), some (.int _)], [.int _, .int _], _)) rfl (u_ rfl) ?_
      refine w8m (pc := 187) (len_s := 1) rfl ?_
      exact wrI (pc := 188) (len_s := 1) rfl hk t_s
  · replace t_s := t_s.2 c1_s
    refine wsc (X_s := 38) rfl (by decide) (fun c3_s => ?_) (fun c3_s => ?_)
    · replace t_s := t_s.1 c3_s
      refine w_t (pc := 106) (e_s := (1, 1, 0, 0, 0, .null, [])) (y_s := (107, [some (.int _), some (.int _), some (.int _)], [.int _], _)) rfl (u_ rfl) ?_
      refine wq0 (pc := 107) (len_s := 3) rfl rfl (fun c4_s => ?_) (fun c4_s => ?_)
      · replace t_s := t_s.1 c4_s
        refine w_t (pc := 118) (e_s := (0, 1, 0, 0, 0, .int 0, [])) (y_s := (119, [some (.int _), some (.int _), some (.int _)], [.int _], _)) rfl (u_ rfl) ?_
        exact wrI (pc := 119) (len_s := 1) rfl hk t_s
      · replace t_s := t_s.2 c4_s
        refine w_t (pc := 110) (e_s := (1, 1, 2, 0, 0, .null, [])) (y_s := (111, [some (.int _), some (.int _), some (.int _)], [.int _], _)) rfl (u_ rfl) ?_
        refine wq0 (pc := 111) (len_s := 3) rfl rfl (fun c5_s => ?_) (fun c5_s => ?_)
        · replace t_s := t_s.1 c5_s
          refine w_t (pc := 118) (e_s := (0, 1, 0, 0, 0, .int 0, [])) (y_s := (119, [some (.int _), some (.int _), some (.int _)], [.int _], _)) rfl (u_ rfl) ?_
          exact wrI (pc := 119) (len_s := 1) rfl hk t_s
        · replace t_s := t_s.2 c5_s
          refine w_t (pc := 114) (e_s := (0, 1, 0, 0, 0, .int 1, [])) (y_s := (115, [some (.int _), some (.int _), some (.int _)], [.int _], _)) rfl (u_ rfl) ?_
          refine w_t (pc := 115) (e_s := (17, 3, 119, 0, 0, .null, [])) (y_s := (119, [some (.int _), some (.int _), some (.int _)], [.int _], _)) rfl (u_ rfl) ?_
          exact wrI (pc := 119) (len_s := 1) rfl hk t_s
    · replace t_s := t_s.2 c3_s
      refine wsc (X_s := 42) rfl (by decide) (fun c6_s => ?_) (fun c6_s => ?_)
      · replace t_s := t_s.1 c6_s
        refine w_t (pc := 161) (e_s := (1, 1, 0, 0, 0, .null, [])) (y_s := (162, [some (.int _), some (.int _), some (.int _)], [.int _], _)) rfl (u_ rfl) ?_
        refine w_t (pc := 162) (e_s := (1, 1, 2, 0, 0, .null, [])) (y_s := (163, [some (.int _), some (.int _), some (.int _)], [.int _, .int _], _)) rfl (u_ rfl) ?_
        refine w_t (pc := 163) (e_s := (7, 1, 0, 2, 0, .null, [])) (y_s := (164, [some (.int _), some (.int _), some (.int _)], [.int (_ * _)], _)) rfl (u_ rfl) ?_
        exact wrI (pc := 164) (len_s := 1) rfl hk t_s
      · replace t_s := t_s.2 c6_s
        refine wsc (X_s := 43) rfl (by decide) (fun c7_s => ?_) (fun c7_s => ?_)
        · replace t_s := t_s.1 c7_s
          refine w_t (pc := 153) (e_s := (1, 1, 0, 0, 0, .null, [])) (y_s := (154, [some (.int _), some (.int _), some (.int _)], [.int _], _)) rfl (u_ rfl) ?_
          refine w_t (pc := 154) (e_s := (1, 1, 2, 0, 0, .null, [])) (y_s := (155, [some (.int _), some (.int _), some (.int _)], [.int _, .int _], _)) rfl (u_ rfl) ?_
          refine w_t (pc := 155) (e_s := (7, 1, 0, 0, 0, .null, [])) (y_s := (156, [some (.int _), some (.int _), some (.int _)], [.int (_ + _)], _)) rfl (u_ rfl) ?_
          exact wrI (pc := 156) (len_s := 1) rfl hk t_s
        · replace t_s := t_s.2 c7_s
          refine wsc (X_s := 45) rfl (by decide) (fun c8_s => ?_) (fun c8_s => ?_)
          · replace t_s := t_s.1 c8_s
            refine w_t (pc := 157) (e_s := (1, 1, 0, 0, 0, .null, [])) (y_s := (158, [some (.int _), some (.int _), some (.int _)], [.int _], _)) rfl (u_ rfl) ?_
            refine w_t (pc := 158) (e_s := (1, 1, 2, 0, 0, .null, [])) (y_s := (159, [some (.int _), some (.int _), some (.int _)], [.int _, .int _], _)) rfl (u_ rfl) ?_
            refine w_t (pc := 159) (e_s := (7, 1, 0, 1, 0, .null, [])) (y_s := (160, [some (.int _), some (.int _), some (.int _)], [.int (_ - _)], _)) rfl (u_ rfl) ?_
            exact wrI (pc := 160) (len_s := 1) rfl hk t_s
          · replace t_s := t_s.2 c8_s
            refine wsc (X_s := 47) rfl (by decide) (fun c9_s => ?_) (fun c9_s => ?_)
            · replace t_s := t_s.1 c9_s
              refine w_t (pc := 165) (e_s := (1, 1, 2, 0, 0, .null, [])) (y_s := (166, [some (.int _), some (.int _), some (.int _)], [.int _], _)) rfl (u_ rfl) ?_
              refine wq1 (pc := 166) (len_s := 3) rfl rfl (fun c10_s => ?_) (fun c10_s => ?_)
              · replace t_s := t_s.1 c10_s
                refine w_t (pc := 169) (e_s := (0, 1, 0, 0, 0, .int 0, [])) (y_s := (170, [some (.int _), some (.int _), some (.int _)], [.int _], _)) rfl (u_ rfl) ?_
                refine w_t (pc := 170) (e_s := (17, 3, 176, 0, 0, .null, [])) (y_s := (176, [some (.int _), some (.int _), some (.int _)], [.int _], _)) rfl (u_ rfl) ?_
                exact wrI (pc := 176) (len_s := 1) rfl hk t_s
              · replace t_s := t_s.2 c10_s
                refine w_t (pc := 173) (e_s := (1, 1, 0, 0, 0, .null, [])) (y_s := (174, [some (.int _), some (.int _), some (.int _)], [.int _], _)) rfl (u_ rfl) ?_
                refine w_t (pc := 174) (e_s := (1, 1, 2, 0, 0, .null, [])) (y_s := (175, [some (.int _), some (.int _), some (.int _)], [.int _, .int _], _)) rfl (u_ rfl) ?_
                refine w8 (pc := 175) (len_s := 1) rfl ?_
                exact wrI (pc := 176) (len_s := 1) rfl hk t_s
            · replace t_s := t_s.2 c9_s
              refine wsc (X_s := 60) rfl (by decide) (fun c11_s => ?_) (fun c11_s => ?_)
              · replace t_s := t_s.1 c11_s
                refine w_t (pc := 120) (e_s := (1, 1, 0, 0, 0, .null, [])) (y_s := (121, [some (.int _), some (.int _), some (.int _)], [.int _], _)) rfl (u_ rfl) ?_
                refine w_t (pc := 121) (e_s := (1, 1, 2, 0, 0, .null, [])) (y_s := (122, [some (.int _), some (.int _), some (.int _)], [.int _, .int _], _)) rfl (u_ rfl) ?_
                refine wi3 (pc := 122) (len_s := 3) rfl rfl rfl (fun c12_s => ?_) (fun c12_s => ?_)
                · replace t_s := t_s.1 c12_s
                  refine w_t (pc := 125) (e_s := (0, 1, 0, 0, 0, .int 1, [])) (y_s := (126, [some (.int _), some (.int _), some (.int _)], [.int _], _)) rfl (u_ rfl) ?_
                  refine w_t (pc := 126) (e_s := (17, 3, 130, 0, 0, .null, [])) (y_s := (130, [some (.int _), some (.int _), some (.int _)], [.int _], _)) rfl (u_ rfl) ?_
                  exact wrI (pc := 130) (len_s := 1) rfl hk t_s
                · replace t_s := t_s.2 c12_s
                  refine w_t (pc := 129) (e_s := (0, 1, 0, 0, 0, .int 0, [])) (y_s := (130, [some (.int _), some (.int _), some (.int _)], [.int _], _)) rfl (u_ rfl) ?_
                  exact wrI (pc := 130) (len_s := 1) rfl hk t_s
              · replace t_s := t_s.2 c11_s
                refine wsc (X_s := 61) rfl (by decide) (fun c13_s => ?_) (fun c13_s => ?_)
                · replace t_s := t_s.1 c13_s
                  refine w_t (pc := 131) (e_s := (1, 1, 0, 0, 0, .null, [])) (y_s := (132, [some (.int _), some (.int _), some (.int _)], [.int _], _)) rfl (u_ rfl) ?_
                  refine w_t (pc := 132) (e_s := (1, 1, 2, 0, 0, .null, [])) (y_s := (133, [some (.int _), some (.int _), some (.int _)], [.int _, .int _], _)) rfl (u_ rfl) ?_
                  refine wi1 (pc := 133) (len_s := 3) rfl rfl rfl (fun c14_s => ?_) (fun c14_s => ?_)
                  · replace t_s := t_s.1 c14_s
                    refine w_t (pc := 136) (e_s := (0, 1, 0, 0, 0, .int 1, [])) (y_s := (137, [some (.int _), some (.int _), some (.int _)], [.int _], _)) rfl (u_ rfl) ?_
                    refine w_t (pc := 137) (e_s := (17, 3, 141, 0, 0, .null, [])) (y_s := (141, [some (.int _), some (.int _), some (.int _)], [.int _], _)) rfl (u_ rfl) ?_
                    exact wrI (pc := 141) (len_s := 1) rfl hk t_s
                  · replace t_s := t_s.2 c14_s
                    refine w_t (pc := 140) (e_s := (0, 1, 0, 0, 0, .int 0, [])) (y_s := (141, [some (.int _), some (.int _), some (.int _)], [.int _], _)) rfl (u_ rfl) ?_
                    exact wrI (pc := 141) (len_s := 1) rfl hk t_s
                · replace t_s := t_s.2 c13_s
                  refine wsc (X_s := 62) rfl (by decide) (fun c15_s => ?_) (fun c15_s => ?_)
                  · replace t_s := t_s.1 c15_s
                    refine w_t (pc := 142) (e_s := (1, 1, 0, 0, 0, .null, [])) (y_s := (143, [some (.int _), some (.int _), some (.int _)], [.int _], _)) rfl (u_ rfl) ?_
                    refine w_t (pc := 143) (e_s := (1, 1, 2, 0, 0, .null, [])) (y_s := (144, [some (.int _), some (.int _), some (.int _)], [.int _, .int _], _)) rfl (u_ rfl) ?_
                    refine wi5 (pc := 144) (len_s := 3) rfl rfl rfl (fun c16 => ?_) (fun c16 => ?_)
                    · replace t_s := t_s.1 c16
                      refine w_t (pc := 147) (e_s := (0, 1, 0, 0, 0, .int 1, [])) (y_s := (148, [some (.int _), some (.int _), some (.int _)], [.int _], _)) rfl (u_ rfl) ?_
                      refine w_t (pc := 148) (e_s := (17, 3, 152, 0, 0, .null, [])) (y_s := (152, [some (.int _), some (.int _), some (.int _)], [.int _], _)) rfl (u_ rfl) ?_
                      exact wrI (pc := 152) (len_s := 1) rfl hk t_s
                    · replace t_s := t_s.2 c16
                      refine w_t (pc := 151) (e_s := (0, 1, 0, 0, 0, .int 0, [])) (y_s := (152, [some (.int _), some (.int _), some (.int _)], [.int _], _)) rfl (u_ rfl) ?_
                      exact wrI (pc := 152) (len_s := 1) rfl hk t_s
                  · replace t_s := t_s.2 c15_s
                    refine wsc (X_s := 124) rfl (by decide) (fun c17 => ?_) (fun c17 => ?_)
                    · replace t_s := t_s.1 c17
                      refine w_t (pc := 92) (e_s := (1, 1, 0, 0, 0, .null, [])) (y_s := (93, [some (.int _), some (.int _), some (.int _)], [.int _], _)) rfl (u_ rfl) ?_
                      refine wq1 (pc := 93) (len_s := 3) rfl rfl (fun c18_s => ?_) (fun c18_s => ?_)
                      · replace t_s := t_s.1 c18_s
                        refine w_t (pc := 96) (e_s := (1, 1, 2, 0, 0, .null, [])) (y_s := (97, [some (.int _), some (.int _), some (.int _)], [.int _], _)) rfl (u_ rfl) ?_
                        refine wq0 (pc := 97) (len_s := 3) rfl rfl (fun c19_s => ?_) (fun c19_s => ?_)
                        · replace t_s := t_s.1 c19_s
                          refine w_t (pc := 104) (e_s := (0, 1, 0, 0, 0, .int 0, [])) (y_s := (105, [some (.int _), some (.int _), some (.int _)], [.int _], _)) rfl (u_ rfl) ?_
                          exact wrI (pc := 105) (len_s := 1) rfl hk t_s
                        · replace t_s := t_s.2 c19_s
                          refine w_t (pc := 100) (e_s := (0, 1, 0, 0, 0, .int 1, [])) (y_s := (101, [some (.int _), some (.int _), some (.int _)], [.int _], _)) rfl (u_ rfl) ?_
                          refine w_t (pc := 101) (e_s := (17, 3, 105, 0, 0, .null, [])) (y_s := (105, [some (.int _), some (.int _), some (.int _)], [.int _], _)) rfl (u_ rfl) ?_
                          exact wrI (pc := 105) (len_s := 1) rfl hk t_s
                      · replace t_s := t_s.2 c18_s
                        refine w_t (pc := 100) (e_s := (0, 1, 0, 0, 0, .int 1, [])) (y_s := (101, [some (.int _), some (.int _), some (.int _)], [.int _], _)) rfl (u_ rfl) ?_
                        refine w_t (pc := 101) (e_s := (17, 3, 105, 0, 0, .null, [])) (y_s := (105, [some (.int _), some (.int _), some (.int _)], [.int _], _)) rfl (u_ rfl) ?_
                        exact wrI (pc := 105) (len_s := 1) rfl hk t_s
                    · replace t_s := t_s.2 c17
                      show wF _ _ (189, _, _, _) _
                      refine w_t (pc := 189) (e_s := (0, 1, 0, 0, 0, .int 0, [])) (y_s := (190, [some (.int _), some (.int _), some (.int _)], [.int _], _)) rfl (u_ rfl) ?_
                      exact wrI (pc := 190) (len_s := 1) rfl hk t_s
/-! THE CLASS WORKS A LAW OUT: a piece of code leaves its worth. -/
noncomputable def EX (z_s : pA) (b_s : Nat) : Prop := ∀ (F_s : Nat) (h_s : zH) (K_s : Int32 → zH → Prop) (q_s w_s p_s s_s L_s : Nat) (x2_s x3 x4_s : Int32) (l5 l6 l7 : Option Value) (f_s : Nat → Nat → Int32), (q_s = 14 ∨ q_s = 17) → hKn h_s → x2_s.toInt = (w_s : Int) → x3.toInt = (p_s : Int) → x4_s.toInt = (s_s : Int) → s_s ≤ p_s → (f_s q_s 2).toInt = (L_s : Int) → L_s ≤ 241 → p_s + z_s.1.length < L_s → w_s + b_s ≤ 64 → (∀ j_s c_s, zget z_s.1 j_s = some c_s → f_s (q_s + 1) (p_s + j_s) = c_s) → (∀ (y2 y3 y4 : Int32) (s1_s : Nat) (m5_s m6_s m7_s : Option Value) (f1_s : Nat → Nat → Int32), y2.toInt = ((w_s + 1 : Nat) : Int) → y3.toInt = ((p_s + z_s.1.length : Nat) : Int) → y4.toInt = (s1_s : Int) → s1_s ≤ p_s + z_s.1.length → (∀ o k_s, ¬ (o = q_s + 2 ∧ w_s ≤ k_s) → f1_s o k_s = f_s o k_s) → f1_s (q_s + 2) w_s = z_s.2.1 (fun k_s => f_s 13 k_s) → wF F_s 58 (32, [some (.ref q_s), some (.ref 13), some (.int y2), some (.int y3), some (.int y4), m5_s, m6_s, m7_s], [], (h_s.1, f1_s, h_s.2.2.1, h_s.2.2.2)) (gI K_s)) → wF F_s 58 (32, [some (.ref q_s), some (.ref 13), some (.int x2_s), some (.int x3), some (.int x4_s), l5, l6, l7], [], (h_s.1, f_s, h_s.2.2.1, h_s.2.2.2)) (gI K_s)
theorem EX_le {z_s : pA} {b_s b1 : Nat} (h_s : EX z_s b_s) (hb_s : b_s ≤ b1) : EX z_s b1 := by
  intro F_s h1 K_s q_s w_s p_s s_s L_s x2_s x3 x4_s l5 l6 l7 f_s a1_s a2 a3 a4 a5 a6 a7 a8 a9 a10 a11 t_s
  exact h_s F_s h1 K_s q_s w_s p_s s_s L_s x2_s x3 x4_s l5 l6 l7 f_s a1_s a2 a3 a4 a5 a6 a7 a8 a9 (by omega) a11 t_s
section EW_s
variable {F_s : Nat} {h_s : zH} {K_s : Int32 → zH → Prop} {q_s w_s p_s s_s L_s : Nat} {x2_s x3 x4_s : Int32} {l5 l6 l7 : Option Value} {f_s : Nat → Nat → Int32}
theorem at58 (hm_s : q_s = 14 ∨ q_s = 17) (hk : hKn h_s) (h3 : x3.toInt = (p_s : Int)) (h4 : x4_s.toInt = (s_s : Int)) (hs : s_s ≤ p_s) (hL : (f_s q_s 2).toInt = (L_s : Int)) (hb_s : L_s ≤ 241) (hp : p_s + 1 < L_s) (t_s : wF F_s 58 (83, [some (.ref q_s), some (.ref 13), some (.int x2_s), some (.int (x3 + 1)), some (.int x4_s), some (.int (f_s (q_s + 1) p_s)), some (.int (f_s (q_s + 1) (p_s + 1))), l7], [], (h_s.1, f_s, h_s.2.2.1, h_s.2.2.2)) (gI K_s)) : wF F_s 58 (32, [some (.ref q_s), some (.ref 13), some (.int x2_s), some (.int x3), some (.int x4_s), l5, l6, l7], [], (h_s.1, f_s, h_s.2.2.1, h_s.2.2.2)) (gI K_s) := by
  have z_s := azix (i := x3) (by omega)
  have e1_s := in1_ (x_s := x3) (by omega)
  have z1 := azix (i := x3 + 1) (by omega)
  have y0 : zix x3 = p_s := by omega
  have y1 : zix (x3 + 1) = p_s + 1 := by omega
  refine wF_le (Nat.le_succ F_s) (sg_58_32 (h_s := (h_s.1, f_s, h_s.2.2.1, h_s.2.2.2)) hm_s hk ⟨fun c1_s => ⟨fun c2_s => fun c3_s => ⟨fun c4_s => fun c5_s => ?_, fun (c4_s : ¬ (x3 + 1).toInt < (f_s q_s 2).toInt) => absurd c4_s (by omega)⟩, fun (c2_s : ¬ x3.toInt < (f_s q_s 2).toInt) => absurd c2_s (by omega)⟩, fun c1_s => absurd c1_s (by omega)⟩)
  dsimp only
  rw [y0, y1]
  exact t_s
/-- the last cell: nothing stands behind it -/
theorem at58e (hm_s : q_s = 14 ∨ q_s = 17) (hk : hKn h_s) (h3 : x3.toInt = (p_s : Int)) (h4 : x4_s.toInt = (s_s : Int)) (hs : s_s ≤ p_s) (hL : (f_s q_s 2).toInt = (L_s : Int)) (hb_s : L_s ≤ 241) (hp : p_s < L_s) (t_s : ∀ x6 : Int32, (p_s + 1 < L_s → x6 = f_s (q_s + 1) (p_s + 1)) → wF F_s 58 (83, [some (.ref q_s), some (.ref 13), some (.int x2_s), some (.int (x3 + 1)), some (.int x4_s), some (.int (f_s (q_s + 1) p_s)), some (.int x6), l7], [], (h_s.1, f_s, h_s.2.2.1, h_s.2.2.2)) (gI K_s)) : wF F_s 58 (32, [some (.ref q_s), some (.ref 13), some (.int x2_s), some (.int x3), some (.int x4_s), l5, l6, l7], [], (h_s.1, f_s, h_s.2.2.1, h_s.2.2.2)) (gI K_s) := by
  have z_s := azix (i := x3) (by omega)
  have e1_s := in1_ (x_s := x3) (by omega)
  have z1 := azix (i := x3 + 1) (by omega)
  have y0 : zix x3 = p_s := by omega
  have y1 : zix (x3 + 1) = p_s + 1 := by omega
  refine wF_le (Nat.le_succ F_s) (sg_58_32 (h_s := (h_s.1, f_s, h_s.2.2.1, h_s.2.2.2)) hm_s hk ⟨fun c1_s => ⟨fun c2_s => fun c3_s => ⟨fun c4_s => fun c5_s => ?_, fun (c4_s : ¬ (x3 + 1).toInt < (f_s q_s 2).toInt) => ?_⟩, fun (c2_s : ¬ x3.toInt < (f_s q_s 2).toInt) => absurd c2_s (by omega)⟩, fun c1_s => absurd c1_s (by omega)⟩)
  · dsimp only
    rw [y0, y1]
    exact t_s _ (fun _ => rfl)
  · dsimp only
    rw [y0]
    exact t_s _ (fun w_s => absurd c4_s (by omega))
end EW_s
theorem EX_num {v_s : Int32} : EX ([48, v_s], fun _ => v_s, false) 1 := by
  intro F_s h_s K_s q_s w_s p_s s_s L_s x2_s x3 x4_s l5 l6 l7 f_s hm_s hk h2 h3 h4 hs hL hb_s hp hw hc_s t_s
  have hp : p_s + 2 < L_s := hp
  have c0_s : f_s (q_s + 1) p_s = 48 := hc_s 0 48 rfl
  have c1_s : f_s (q_s + 1) (p_s + 1) = v_s := hc_s 1 v_s rfl
  have z_s := azix (i := x2_s) (by omega)
  have y_s : zix x2_s = w_s := by omega
  refine at58 hm_s hk h3 h4 hs hL hb_s (by omega) ?_
  rw [c0_s, c1_s]
  have go_s : wF F_s 58 (32, [some (.ref q_s), some (.ref 13), some (.int (x2_s + 1)), some (.int (x3 + 1 + 1)), some (.int (x4_s + 1)), some (.int 48), some (.int v_s), l7], [], (h_s.1, zup f_s (q_s + 2) (zix x2_s) v_s, h_s.2.2.1, h_s.2.2.2)) (gI K_s) := by
    rw [y_s]
    refine t_s _ _ _ (s_s + 1) _ _ _ _ (by rw [in1_ (by omega)]; omega) ?_ (by rw [in1_ (by omega)]; omega) ?_ (fun o k_s hq => zne_up (by omega)) zsame_up
    · show _ = ((p_s + 2 : Nat) : Int)
      rw [in1_ (by rw [in1_ (by omega)]; omega), in1_ (by omega)]
      omega
    · show s_s + 1 ≤ p_s + 2
      omega
  refine wF_le (Nat.le_succ F_s) (sg_58_83 (h_s := (h_s.1, f_s, h_s.2.2.1, h_s.2.2.2)) hm_s hk ⟨fun _ => ⟨fun _ => ⟨fun d_s => absurd d_s (by decide), fun _ => fun _ => go_s⟩, fun d_s => absurd d_s (by omega)⟩, fun d_s => absurd rfl d_s⟩)
theorem EX_nam {k_s : Nat} {c_s : Int32} {u_s : Bool} (hk6 : k_s < 6) (hc6 : c_s.toInt = (k_s : Int)) : EX ([109, c_s], fun n_s => n_s k_s, u_s) 1 := by
  intro F_s h_s K_s q_s w_s p_s s_s L_s x2_s x3 x4_s l5 l6 l7 f_s hm_s hk h2 h3 h4 hs hL hb_s hp hw hc_s t_s
  have hp : p_s + 2 < L_s := hp
  have c0_s : f_s (q_s + 1) p_s = 109 := hc_s 0 109 rfl
  have c1_s : f_s (q_s + 1) (p_s + 1) = c_s := hc_s 1 c_s rfl
  have z_s := azix (i := x2_s) (by omega)
  have y_s : zix x2_s = w_s := by omega
  have z6 := azix (i := c_s) (by omega)
  have y6 : zix c_s = k_s := by omega
  refine at58 hm_s hk h3 h4 hs hL hb_s (by omega) ?_
  rw [c0_s, c1_s]
  refine wF_le (Nat.le_succ F_s) (sg_58_83 (h_s := (h_s.1, f_s, h_s.2.2.1, h_s.2.2.2)) hm_s hk ⟨fun d_s => absurd d_s (by decide), fun _ => ⟨fun _ => ⟨fun _ => ⟨fun d_s => absurd d_s (by omega), fun _ => ⟨fun _ => fun _ => fun _ => ?_, fun d_s => absurd d_s (by omega)⟩⟩, fun d_s => absurd d_s (by omega)⟩, fun d_s => absurd rfl d_s⟩⟩)
  dsimp only
  rw [y_s, y6]
  refine t_s _ _ _ (s_s + 1) _ _ _ _ (by rw [in1_ (by omega)]; omega) ?_ (by rw [in1_ (by omega)]; omega) ?_ (fun o k1_s hq => zne_up (by omega)) zsame_up
  · show _ = ((p_s + 2 : Nat) : Int)
    rw [in1_ (by rw [in1_ (by omega)]; omega), in1_ (by omega)]
    omega
  · show s_s + 1 ≤ p_s + 2
    omega
theorem sp_60 {F_s : Nat} {h_s : zH} {K_s : Int32 → zH → Prop} {x1_s x2_s x3 : Int32} (hk : hKn h_s) (t_s : K_s (jnv x1_s x2_s.toInt x3) h_s) : wF F_s 60 (0, [some (.int x1_s), some (.int x2_s), some (.int x3)], [], h_s) (gI K_s) := by
  have key_s : ∀ v_s, jnv x1_s x2_s.toInt x3 = v_s → K_s v_s h_s := fun v_s e_s => by
    rw [← e_s]
    exact t_s
  refine wF_le (Nat.le_succ F_s) (sg_60_0 hk ⟨fun c1_s => ⟨fun c2_s => ?_, fun c2_s => ?_⟩, fun c1_s => ⟨fun c3_s => ⟨fun c4_s => ?_, fun c4_s => ⟨fun c5_s => ?_, fun c5_s => ?_⟩⟩, fun c3_s => ⟨fun c6_s => ?_, fun c6_s => ⟨fun c7_s => ?_, fun c7_s => ⟨fun c8_s => ?_, fun c8_s => ⟨fun c9_s => ⟨fun c10_s => ?_, fun c10_s => ?_⟩, fun c9_s => ⟨fun c11_s => ⟨fun c12_s => ?_, fun c12_s => ?_⟩, fun c11_s => ⟨fun c13_s => ⟨fun c14_s => ?_, fun c14_s => ?_⟩, fun c13_s => ⟨fun c15_s => ⟨fun c16 => ?_, fun c16 => ?_⟩, fun c15_s => ⟨fun c17 => ⟨fun c18_s => ⟨fun c19_s => ?_, fun c19_s => ?_⟩, fun c18_s => ?_⟩, fun c17 => ?_⟩⟩⟩⟩⟩⟩⟩⟩⟩⟩)
  all_goals
    refine key_s _ ?_
    unfold jnv
    simp only [ie_, i0n]
    repeat' split
    all_goals first | rfl | (exfalso; omega)
/-! THE CLASS WORKS A LAW OUT: one sign's step. -/
noncomputable def nsg (c_s : Int32) : Prop := (¬ c_s.toInt = 48 ∧ ¬ c_s.toInt = 109) ∧ (¬ c_s.toInt = 33 ∧ ¬ c_s.toInt = 59) ∧ (¬ c_s.toInt = 63 ∧ ¬ c_s.toInt = 126)
theorem sgn_in {s0_s : Int} (hs0 : ¬ lvl s0_s = -1) : ∃ c_s : Int32, c_s.toInt = s0_s ∧ Int32.ofInt s0_s = c_s ∧ nsg c_s := by
  have hv : s0_s = 124 ∨ s0_s = 38 ∨ s0_s = 60 ∨ s0_s = 61 ∨ s0_s = 62 ∨ s0_s = 43 ∨ s0_s = 45 ∨ s0_s = 37 ∨ s0_s = 42 ∨ s0_s = 47 := by
    by_cases e_s : s0_s = 124 ∨ s0_s = 38 ∨ s0_s = 60 ∨ s0_s = 61 ∨ s0_s = 62 ∨ s0_s = 43 ∨ s0_s = 45 ∨ s0_s = 37 ∨ s0_s = 42 ∨ s0_s = 47
    · exact e_s
    · exfalso
      apply hs0
      unfold lvl
      rw [if_neg (by omega), if_neg (by omega), if_neg (by omega), if_neg (by omega), if_neg (by omega)]
  rcases hv with e_s | e_s | e_s | e_s | e_s | e_s | e_s | e_s | e_s | e_s <;> (subst e_s; exact ⟨_, by decide, rfl, by unfold nsg; decide⟩)
theorem zget_sh {α : Type} {c_s : α} : ∀ {l1 l2 : List α} {j_s : Nat}, zget l2 j_s = some c_s → zget (l1 ++ l2) (l1.length + j_s) = some c_s
  | [], l2, j_s, hj => by
    rw [List.nil_append, List.length_nil, Nat.zero_add]
    exact hj
  | a_s :: l1, l2, j_s, hj => by
    rw [List.cons_append, List.length_cons, Nat.add_right_comm]
    exact zget_sh (l1 := l1) (l2 := l2) (j_s := j_s) hj
theorem dec1_ {x2_s : Int32} {w_s : Nat} (h2 : x2_s.toInt = ((w_s + 1 : Nat) : Int)) : zix (x2_s - 1) = w_s ∧ (x2_s + -1).toInt = (w_s : Int) := by
  have r_s := na_rng x2_s
  have m1_s : (-1 : Int32).toInt = -1 := rfl
  have e_s : (x2_s - 1).toInt = (w_s : Int) := by
    rw [na_sub (by rw [n1_]; omega) (by rw [n1_]; omega), n1_]
    omega
  have e1_s : (x2_s + -1).toInt = (w_s : Int) := by
    rw [na_add (by rw [m1_s]; omega) (by rw [m1_s]; omega), m1_s]
    omega
  have z_s := azix (i := x2_s - 1) (by omega)
  exact ⟨by omega, e1_s⟩
section SJ
variable {F_s : Nat} {h_s : zH} {K_s : Int32 → zH → Prop} {q_s w_s P_s s_s L_s : Nat} {x2_s x3 x4_s x6 sc_s : Int32} {l7 : Option Value} {f_s : Nat → Nat → Int32}
theorem jn83 (hm_s : q_s = 14 ∨ q_s = 17) (hk : hKn h_s) (h2 : x2_s.toInt = ((w_s + 2 : Nat) : Int)) (hn : nsg sc_s) (t_s : wF F_s 58 (32, [some (.ref q_s), some (.ref 13), some (.int (x2_s + -1)), some (.int x3), some (.int (x4_s + 1)), some (.int sc_s), some (.int x6), some (.int (f_s (q_s + 2) (w_s + 1)))], [], (h_s.1, zup f_s (q_s + 2) w_s (jnv (f_s (q_s + 2) w_s) sc_s.toInt (f_s (q_s + 2) (w_s + 1))), h_s.2.2.1, h_s.2.2.2)) (gI K_s)) : wF F_s 58 (83, [some (.ref q_s), some (.ref 13), some (.int x2_s), some (.int x3), some (.int x4_s), some (.int sc_s), some (.int x6), l7], [], (h_s.1, f_s, h_s.2.2.1, h_s.2.2.2)) (gI K_s) := by
  have d1_s := dec1_ (x2_s := x2_s) (w_s := w_s + 1) h2
  have d2_s := dec1_ (x2_s := x2_s + -1) (w_s := w_s) d1_s.2
  have c1_s : ¬ x2_s.toInt < 1 := by omega
  have c2_s : ¬ x2_s.toInt < 2 := by omega
  refine wF_le (Nat.le_succ F_s) (sg_58_83 (h_s := (h_s.1, f_s, h_s.2.2.1, h_s.2.2.2)) hm_s hk ⟨fun d_s => absurd d_s hn.1.1, fun _ => ⟨fun d_s => absurd d_s hn.1.2, fun _ => ⟨fun d_s => absurd d_s c1_s, fun _ => fun _ => ⟨fun d_s => absurd d_s hn.2.1.1, fun _ => ⟨fun d_s => absurd d_s hn.2.1.2, fun _ => ⟨fun d_s => absurd d_s hn.2.2.1, fun _ => ⟨fun d_s => absurd d_s hn.2.2.2, fun _ => ⟨fun d_s => absurd d_s c2_s, fun _ => fun _ => ?_⟩⟩⟩⟩⟩⟩⟩⟩)
  refine sp_60 hk (fun _ => ?_)
  dsimp only
  rw [d1_s.1, d2_s.1]
  exact t_s
theorem un83 (hm_s : q_s = 14 ∨ q_s = 17) (hk : hKn h_s) (h2 : x2_s.toInt = ((w_s + 1 : Nat) : Int)) (t_s : ∀ m7_s : Option Value, wF F_s 58 (32, [some (.ref q_s), some (.ref 13), some (.int x2_s), some (.int x3), some (.int (x4_s + 1)), some (.int 33), some (.int x6), m7_s], [], (h_s.1, zup f_s (q_s + 2) w_s (if f_s (q_s + 2) w_s = 0 then 1 else 0), h_s.2.2.1, h_s.2.2.2)) (gI K_s)) : wF F_s 58 (83, [some (.ref q_s), some (.ref 13), some (.int x2_s), some (.int x3), some (.int x4_s), some (.int 33), some (.int x6), l7], [], (h_s.1, f_s, h_s.2.2.1, h_s.2.2.2)) (gI K_s) := by
  have d1_s := (dec1_ (x2_s := x2_s) (w_s := w_s) h2).1
  have c1_s : ¬ x2_s.toInt < 1 := by omega
  refine wF_le (Nat.le_succ F_s) (sg_58_83 (h_s := (h_s.1, f_s, h_s.2.2.1, h_s.2.2.2)) hm_s hk ⟨fun d_s => absurd d_s (by decide), fun _ => ⟨fun d_s => absurd d_s (by decide), fun _ => ⟨fun d_s => absurd d_s c1_s, fun _ => fun _ => ⟨fun _ => ⟨fun d_s => ?_, fun d_s => ?_⟩, fun d_s => absurd rfl d_s⟩⟩⟩⟩)
  · dsimp only at d_s ⊢
    rw [d1_s] at d_s ⊢
    have t1_s := t_s (some (.int (f_s (q_s + 2) w_s)))
    rw [if_pos (i0_ d_s)] at t1_s
    exact t1_s
  · dsimp only at d_s ⊢
    rw [d1_s] at d_s ⊢
    have t1_s := t_s (some (.int (f_s (q_s + 2) w_s)))
    rw [if_neg (n0_ d_s)] at t1_s
    exact t1_s
theorem ng83 (hm_s : q_s = 14 ∨ q_s = 17) (hk : hKn h_s) (h2 : x2_s.toInt = ((w_s + 1 : Nat) : Int)) (t_s : ∀ m7_s : Option Value, wF F_s 58 (32, [some (.ref q_s), some (.ref 13), some (.int x2_s), some (.int x3), some (.int (x4_s + 1)), some (.int 126), some (.int x6), m7_s], [], (h_s.1, zup f_s (q_s + 2) w_s (-(f_s (q_s + 2) w_s)), h_s.2.2.1, h_s.2.2.2)) (gI K_s)) : wF F_s 58 (83, [some (.ref q_s), some (.ref 13), some (.int x2_s), some (.int x3), some (.int x4_s), some (.int 126), some (.int x6), l7], [], (h_s.1, f_s, h_s.2.2.1, h_s.2.2.2)) (gI K_s) := by
  have d1_s := (dec1_ (x2_s := x2_s) (w_s := w_s) h2).1
  have c1_s : ¬ x2_s.toInt < 1 := by omega
  refine wF_le (Nat.le_succ F_s) (sg_58_83 (h_s := (h_s.1, f_s, h_s.2.2.1, h_s.2.2.2)) hm_s hk ⟨fun d_s => absurd d_s (by decide), fun _ => ⟨fun d_s => absurd d_s (by decide), fun _ => ⟨fun d_s => absurd d_s c1_s, fun _ => fun _ => ⟨fun d_s => absurd d_s (by decide), fun _ => ⟨fun d_s => absurd d_s (by decide), fun _ => ⟨fun d_s => absurd d_s (by decide), fun _ => ⟨fun _ => ?_, fun d_s => absurd rfl d_s⟩⟩⟩⟩⟩⟩⟩)
  dsimp only
  rw [d1_s]
  exact t_s _
theorem en83 (hm_s : q_s = 14 ∨ q_s = 17) (hk : hKn h_s) (h2 : x2_s.toInt = ((w_s + 1 : Nat) : Int)) (t_s : K_s (f_s (q_s + 2) w_s) (h_s.1, f_s, h_s.2.2.1, h_s.2.2.2)) : wF F_s 58 (83, [some (.ref q_s), some (.ref 13), some (.int x2_s), some (.int x3), some (.int x4_s), some (.int 59), some (.int x6), l7], [], (h_s.1, f_s, h_s.2.2.1, h_s.2.2.2)) (gI K_s) := by
  have d1_s := (dec1_ (x2_s := x2_s) (w_s := w_s) h2).1
  have c1_s : ¬ x2_s.toInt < 1 := by omega
  refine wF_le (Nat.le_succ F_s) (sg_58_83 (h_s := (h_s.1, f_s, h_s.2.2.1, h_s.2.2.2)) hm_s hk ⟨fun d_s => absurd d_s (by decide), fun _ => ⟨fun d_s => absurd d_s (by decide), fun _ => ⟨fun d_s => absurd d_s c1_s, fun _ => fun _ => ⟨fun d_s => absurd d_s (by decide), fun _ => ⟨fun _ => ?_, fun d_s => absurd rfl d_s⟩⟩⟩⟩⟩)
  dsimp only
  rw [d1_s]
  exact t_s
theorem qu83 (hm_s : q_s = 14 ∨ q_s = 17) (hk : hKn h_s) (h2 : x2_s.toInt = ((w_s + 1 : Nat) : Int)) (t0_s : f_s (q_s + 2) w_s = 0 → wF F_s 58 (32, [some (.ref q_s), some (.ref 13), some (.int (x2_s + -1)), some (.int (if x3 < x6 then x6 else x3)), some (.int (x4_s + 1)), some (.int 63), some (.int x6), some (.int (f_s (q_s + 2) w_s))], [], (h_s.1, f_s, h_s.2.2.1, h_s.2.2.2)) (gI K_s)) (t1_s : ¬ f_s (q_s + 2) w_s = 0 → wF F_s 58 (32, [some (.ref q_s), some (.ref 13), some (.int (x2_s + -1)), some (.int (x3 + 1)), some (.int (x4_s + 1)), some (.int 63), some (.int x6), some (.int (f_s (q_s + 2) w_s))], [], (h_s.1, f_s, h_s.2.2.1, h_s.2.2.2)) (gI K_s)) : wF F_s 58 (83, [some (.ref q_s), some (.ref 13), some (.int x2_s), some (.int x3), some (.int x4_s), some (.int 63), some (.int x6), l7], [], (h_s.1, f_s, h_s.2.2.1, h_s.2.2.2)) (gI K_s) := by
  have d1_s := (dec1_ (x2_s := x2_s) (w_s := w_s) h2).1
  have c1_s : ¬ x2_s.toInt < 1 := by omega
  refine wF_le (Nat.le_succ F_s) (sg_58_83 (h_s := (h_s.1, f_s, h_s.2.2.1, h_s.2.2.2)) hm_s hk ⟨fun d_s => absurd d_s (by decide), fun _ => ⟨fun d_s => absurd d_s (by decide), fun _ => ⟨fun d_s => absurd d_s c1_s, fun _ => fun _ => ⟨fun d_s => absurd d_s (by decide), fun _ => ⟨fun d_s => absurd d_s (by decide), fun _ => ⟨fun _ => ⟨fun d_s => ?_, fun d_s => ?_⟩, fun d_s => absurd rfl d_s⟩⟩⟩⟩⟩⟩)
  · dsimp only at d_s ⊢
    rw [d1_s] at d_s ⊢
    exact t0_s (i0_ d_s)
  · dsimp only at d_s ⊢
    rw [d1_s] at d_s ⊢
    exact t1_s (n0_ d_s)
end SJ
/-! THE CLASS WORKS A LAW OUT: signs over pieces. -/
theorem EX_un {z_s : pA} {b_s : Nat} {s0_s : Int} (hz : EX z_s b_s) : EX (pun s0_s z_s) b_s := by
  intro F_s h_s K_s q_s w_s p_s s_s L_s x2_s x3 x4_s l5 l6 l7 f_s hm_s hk h2 h3 h4 hs hL hb_s hp hw hc_s t_s
  have hlen : (pun s0_s z_s).1.length = z_s.1.length + 1 := by
    unfold pun
    simp only [List.length_append, List.length_cons, List.length_nil]
  rw [hlen] at hp t_s
  have hlast : f_s (q_s + 1) (p_s + z_s.1.length) = (if s0_s = 33 then (33 : Int32) else 126) := hc_s z_s.1.length _ (by
    unfold pun
    exact zget_end _ _)
  refine hz F_s h_s K_s q_s w_s p_s s_s L_s x2_s x3 x4_s l5 l6 l7 f_s hm_s hk h2 h3 h4 hs hL hb_s (by omega) hw (fun j_s c_s hj => hc_s j_s c_s (by
    unfold pun
    exact zget_app hj)) (fun y2 y3 y4 s1_s m5_s m6_s m7_s f1_s g2 g3_s g4 gs gf gv => ?_)
  have hL1 : (f1_s q_s 2).toInt = (L_s : Int) := by
    rw [gf q_s 2 (by omega)]
    exact hL
  have hl1 : f1_s (q_s + 1) (p_s + z_s.1.length) = (if s0_s = 33 then (33 : Int32) else 126) := by
    rw [gf _ _ (by omega)]
    exact hlast
  have hpp : p_s + z_s.1.length + 1 < L_s := by omega
  have e3_s : (y3 + 1).toInt = ((p_s + (z_s.1.length + 1) : Nat) : Int) := by
    rw [in1_ (by omega)]
    omega
  have e4_s : (y4 + 1).toInt = ((s1_s + 1 : Nat) : Int) := by
    rw [in1_ (by omega)]
    omega
  have es : s1_s + 1 ≤ p_s + (z_s.1.length + 1) := by omega
  clear hp hw hc_s hlast h2 h3 h4 hs hL
  refine at58 hm_s hk g3_s g4 gs hL1 hb_s hpp ?_
  rw [hl1]
  by_cases e_s : s0_s = 33
  · rw [if_pos e_s]
    refine un83 hm_s hk g2 (fun m_s => t_s _ _ _ (s1_s + 1) _ _ _ _ g2 e3_s e4_s es (fun o k_s hq => ?_) ?_)
    · rw [zne_up (fun u_s => hq ⟨u_s.1, Nat.le_of_eq u_s.2.symm⟩)]
      exact gf o k_s hq
    · rw [zsame_up, gv]
      show _ = (if s0_s = 33 then (if z_s.2.1 (fun k_s => f_s 13 k_s) = 0 then (1 : Int32) else 0) else -(z_s.2.1 (fun k_s => f_s 13 k_s)))
      rw [if_pos e_s]
  · rw [if_neg e_s]
    refine ng83 hm_s hk g2 (fun m_s => t_s _ _ _ (s1_s + 1) _ _ _ _ g2 e3_s e4_s es (fun o k_s hq => ?_) ?_)
    · rw [zne_up (fun u_s => hq ⟨u_s.1, Nat.le_of_eq u_s.2.symm⟩)]
      exact gf o k_s hq
    · rw [zsame_up, gv]
      show _ = (if s0_s = 33 then (if z_s.2.1 (fun k_s => f_s 13 k_s) = 0 then (1 : Int32) else 0) else -(z_s.2.1 (fun k_s => f_s 13 k_s)))
      rw [if_neg e_s]
/-! THE CLASS WORKS A LAW OUT: two pieces joined. -/
theorem q02_ {q_s : Nat} : ¬ q_s = q_s + 2 := by omega
theorem q12_ {q_s : Nat} : ¬ q_s + 1 = q_s + 2 := by omega
theorem q13_ {q_s : Nat} (hm_s : q_s = 14 ∨ q_s = 17) : ¬ 13 = q_s + 2 := by omega
theorem q3_ {y3 : Int32} {n_s m_s : Nat} (h_s : y3.toInt = (n_s : Int)) (hb_s : n_s + 1 < 1000) (e_s : n_s + 1 = m_s) : (y3 + 1).toInt = (m_s : Int) := by
  rw [in1_ (by omega)]
  omega
theorem EX_jn {z_s y_s : pA} {b_s b1 : Nat} {s0_s : Int} (hz : EX z_s b_s) (hy : EX y_s b1) (hb1 : b1 + 1 ≤ b_s) (hs0 : ¬ lvl s0_s = -1) : EX (pjn z_s s0_s y_s) b_s := by
  intro F_s h_s K_s q_s w_s p_s s_s L_s x2_s x3 x4_s l5 l6 l7 f_s hm_s hk h2 h3 h4 hs hL hb_s hp hw hc_s t_s
  have hlen : (pjn z_s s0_s y_s).1.length = z_s.1.length + (y_s.1.length + 1) := by
    unfold pjn
    simp only [List.length_append, List.length_cons, List.length_nil]
  rw [hlen] at hp t_s
  obtain ⟨sc_s, hsc, hof, hns⟩ := sgn_in hs0
  have hcz : ∀ j_s c_s, zget z_s.1 j_s = some c_s → f_s (q_s + 1) (p_s + j_s) = c_s := fun j_s c_s hj => hc_s j_s c_s (by
    unfold pjn
    exact zget_app hj)
  have hcy : ∀ j_s c_s, zget y_s.1 j_s = some c_s → f_s (q_s + 1) (p_s + z_s.1.length + j_s) = c_s := fun j_s c_s hj => by
    have u_s := hc_s (z_s.1.length + j_s) c_s (by
      unfold pjn
      exact zget_sh (zget_app hj))
    rw [← Nat.add_assoc] at u_s
    exact u_s
  have hlast : f_s (q_s + 1) (p_s + z_s.1.length + y_s.1.length) = sc_s := by
    have u_s := hc_s (z_s.1.length + y_s.1.length) sc_s (by
      unfold pjn
      rw [hof]
      exact zget_sh (zget_end _ _))
    rw [← Nat.add_assoc] at u_s
    exact u_s
  have q1_s : p_s + z_s.1.length < L_s := by omega
  have q2_s : p_s + z_s.1.length + y_s.1.length < L_s := by omega
  have q3_s : p_s + z_s.1.length + y_s.1.length + 1 < L_s := by omega
  have q4_s : w_s + 1 + b1 ≤ 64 := by omega
  clear hc_s hp hb1 hs0
  refine hz F_s h_s K_s q_s w_s p_s s_s L_s x2_s x3 x4_s l5 l6 l7 f_s hm_s hk h2 h3 h4 hs hL hb_s q1_s hw hcz (fun y2 y3 y4 s1_s m5_s m6_s m7_s f1_s g2 g3_s g4 gs gf gv => ?_)
  have hL1 : (f1_s q_s 2).toInt = (L_s : Int) := by
    rw [gf q_s 2 (fun u_s => q02_ u_s.1)]
    exact hL
  have nm1 : (fun k_s => f1_s 13 k_s) = fun k_s => f_s 13 k_s := by
    funext k_s
    exact gf 13 k_s (fun u_s => q13_ hm_s u_s.1)
  have ne1 : ∀ k_s, f1_s (q_s + 1) k_s = f_s (q_s + 1) k_s := fun k_s => gf _ _ (fun u_s => q12_ u_s.1)
  clear h2 h3 h4 hs hcz hw hz
  refine hy F_s h_s K_s q_s (w_s + 1) (p_s + z_s.1.length) s1_s L_s y2 y3 y4 m5_s m6_s m7_s f1_s hm_s hk g2 g3_s g4 gs hL1 hb_s q2_s q4_s (fun j_s c_s hj => by
    rw [ne1]
    exact hcy j_s c_s hj) (fun v2 v3 v4_s s2_s n5_s n6_s n7 f2_s k2_s k3_s k4_s ks_s kf kv => ?_)
  rw [nm1] at kv
  have hL2 : (f2_s q_s 2).toInt = (L_s : Int) := by
    rw [kf q_s 2 (fun u_s => q02_ u_s.1)]
    exact hL1
  have hl2 : f2_s (q_s + 1) (p_s + z_s.1.length + y_s.1.length) = sc_s := by
    rw [kf _ _ (fun u_s => q12_ u_s.1), ne1]
    exact hlast
  have gw : f2_s (q_s + 2) w_s = z_s.2.1 (fun k_s => f_s 13 k_s) := by
    rw [kf _ _ (fun u_s => absurd u_s.2 (Nat.not_succ_le_self w_s))]
    exact gv
  have k2' : v2.toInt = ((w_s + 2 : Nat) : Int) := k2_s
  have d_s := (dec1_ (x2_s := v2) (w_s := w_s + 1) k2').2
  have b3 : p_s + z_s.1.length + y_s.1.length + 1 < 1000 := Nat.lt_of_lt_of_le q3_s (Nat.le_trans hb_s (by decide))
  have e3_s : (v3 + 1).toInt = ((p_s + (z_s.1.length + (y_s.1.length + 1)) : Nat) : Int) := q3_ k3_s b3 (by rw [Nat.add_assoc, Nat.add_assoc])
  have b4 : s2_s + 1 < 1000 := Nat.lt_of_le_of_lt (Nat.succ_le_succ ks_s) b3
  have e4_s : (v4_s + 1).toInt = ((s2_s + 1 : Nat) : Int) := q3_ k4_s b4 rfl
  have es : s2_s + 1 ≤ p_s + (z_s.1.length + (y_s.1.length + 1)) := by
    rw [← Nat.add_assoc, ← Nat.add_assoc]
    exact Nat.succ_le_succ ks_s
  clear g2 g3_s g4 gs hL1 hL hlast hcy hy q1_s q2_s q4_s
  refine at58 hm_s hk k3_s k4_s ks_s hL2 hb_s q3_s ?_
  rw [hl2]
  refine jn83 hm_s hk k2' hns (t_s _ _ _ (s2_s + 1) _ _ _ _ d_s e3_s e4_s es (fun o k_s hq => ?_) ?_)
  · rw [zne_up (fun u_s => hq ⟨u_s.1, Nat.le_of_eq u_s.2.symm⟩), kf o k_s (fun u_s => hq ⟨u_s.1, Nat.le_of_succ_le u_s.2⟩)]
    exact gf o k_s hq
  · rw [zsame_up, gw, kv, hsc]
    rfl
/-! THE CLASS WORKS A LAW OUT: every piece that is read, line by line. -/
noncomputable def bM (m_s op_s : Nat) : Nat := (if m_s < 6 then 5 - m_s else 11 - m_s) + 5 * (6 - op_s) + 1
theorem bM_lo {m_s op_s : Nat} (hm_s : m_s < 6) : bM m_s op_s = 5 - m_s + 5 * (6 - op_s) + 1 := by
  unfold bM
  rw [if_pos hm_s]
theorem bM_hi {m_s op_s : Nat} (hm_s : ¬ m_s < 6) : bM m_s op_s = 11 - m_s + 5 * (6 - op_s) + 1 := by
  unfold bM
  rw [if_neg hm_s]
theorem nmo_lt (c_s : Int) : nmo c_s < 6 := by
  unfold nmo
  repeat' split
  all_goals omega
theorem ofi6 {x_s : Int} (h0 : 0 ≤ x_s) (h1 : x_s < 6) : (Int32.ofInt x_s).toInt = (x_s.toNat : Int) := by
  have hx : x_s = 0 ∨ x_s = 1 ∨ x_s = 2 ∨ x_s = 3 ∨ x_s = 4 ∨ x_s = 5 := by omega
  rcases hx with e_s | e_s | e_s | e_s | e_s | e_s <;> (subst e_s; rfl)
theorem pz_EX (tk : Nat → Int) : ∀ (f_s m_s op_s a_s : Nat) (z_s : pA) (p_s : Nat × pA), m_s < 11 → op_s ≤ 6 → (6 ≤ m_s → EX z_s (bM m_s op_s)) → pz tk f_s m_s op_s a_s z_s = some (.inr p_s) → EX p_s.2 (bM m_s op_s)
  | 0, _, _, _, _, _, _, _, _, h_s => by cases h_s
  | f_s + 1, m_s, op_s, a_s, z_s, p_s, hm_s, ho, hz, h_s => by
    have ih_s := pz_EX tk f_s
    rw [pz] at h_s
    split at h_s
    · rename_i c_s
      split at h_s
      · rename_i p1_s hp
        have e_s := ih_s (m_s + 1) op_s a_s pz0 p1_s (by omega) ho (fun w_s => absurd w_s (by omega)) hp
        rw [bM_lo (by omega)] at e_s
        have e2_s := ih_s (m_s + 6) op_s p1_s.1 p1_s.2 p_s (by omega) ho (fun _ => EX_le e_s (by rw [bM_hi (by omega)]; omega)) h_s
        rw [bM_hi (by omega)] at e2_s
        exact EX_le e2_s (by rw [bM_lo (by omega)]; omega)
      · rename_i q_s hp
        exact (hp p_s h_s).elim
    · rename_i c_s
      split at h_s
      · rename_i c1_s
        split at h_s
        · cases h_s
          exact EX_le EX_num (by rw [bM_lo (by omega)]; omega)
        · split at h_s
          · rename_i c2_s c3_s
            cases h_s
            have l6 := nmo_lt (tk a_s)
            exact EX_le (EX_nam (k_s := (nmo (tk a_s)).toNat) (by omega) (ofi6 c3_s l6)) (by rw [bM_lo (by omega)]; omega)
          · split at h_s
            · cases h_s
            · rename_i c4_s
              split at h_s
              · split at h_s
                · rename_i p1_s hp
                  split at h_s
                  · cases h_s
                    have e_s := ih_s 0 (op_s + 1) (a_s + 1) pz0 p1_s (by omega) (by omega) (fun w_s => absurd w_s (by omega)) hp
                    rw [bM_lo (by omega)] at e_s
                    exact EX_le e_s (by rw [bM_lo (by omega)]; omega)
                  · cases h_s
                · rename_i q_s hp
                  exact (hp p_s h_s).elim
              · split at h_s
                · rename_i p1_s hp
                  cases h_s
                  have e_s := ih_s 5 (op_s + 1) (a_s + 1) pz0 p1_s (by omega) (by omega) (fun w_s => absurd w_s (by omega)) hp
                  rw [bM_lo (by omega)] at e_s
                  exact EX_le (EX_un e_s) (by rw [bM_lo (by omega)]; omega)
                · rename_i q_s hp
                  exact (hp p_s h_s).elim
      · rename_i c1_s
        split at h_s
        · rename_i c2_s
          split at h_s
          · rename_i p1_s hp
            have e_s := ih_s (m_s - 5) op_s (a_s + 1) pz0 p1_s (by omega) ho (fun w_s => absurd w_s (by omega)) hp
            rw [bM_lo (by omega)] at e_s
            have ej := EX_jn (s0_s := tk a_s) (hz (by omega)) e_s (by rw [bM_hi (by omega)]; omega) (by omega)
            split at h_s
            · cases h_s
              exact ej
            · exact ih_s m_s op_s p1_s.1 (pjn z_s (tk a_s) p1_s.2) p_s hm_s ho (fun _ => ej) h_s
          · rename_i q_s hp
            exact (hp p_s h_s).elim
        · cases h_s
          exact hz (by omega)
theorem pP_EX {tk : Nat → Int} {a_s : Nat} {p_s : Nat × pA} (h_s : pP tk 0 0 a_s pz0 (.inr p_s)) : EX p_s.2 36 := by
  obtain ⟨f_s, h_s⟩ := h_s
  exact pz_EX tk f_s 0 0 a_s pz0 p_s (by omega) (by omega) (fun w_s => absurd w_s (by omega)) h_s
noncomputable def lOK (l : pB) : Prop := (∀ y_s, l.1 = some y_s → EX y_s 36) ∧ EX l.2 36
theorem pln_OK {tk : Nat → Int} {a_s : Nat} {p_s : Nat × pB} (h_s : pln tk a_s (.inr p_s)) : lOK p_s.2 := by
  rcases h_s with ⟨e_s, _, h_s⟩ | ⟨p1_s, h1, ⟨_, h_s⟩ | ⟨_, ⟨e_s, _, h_s⟩ | ⟨p2_s, h2, h_s⟩⟩⟩
  · cases h_s
  · cases h_s
    exact ⟨fun y_s hy => (by cases hy), pP_EX h1⟩
  · cases h_s
  · cases h_s
    refine ⟨fun y_s hy => ?_, pP_EX h2⟩
    cases hy
    exact pP_EX h1
theorem ptx_OK {tk : Nat → Int} {n_s : Nat} : ∀ {k_s a_s : Nat} {l ls : List pB}, ptx tk n_s k_s a_s l (.inr ls) → (∀ p_s, p_s ∈ l → lOK p_s) → ∀ p_s, p_s ∈ ls → lOK p_s
  | 0, _, _, _, h_s, _ => h_s.elim
  | k_s + 1, a_s, l, ls, h_s, hl => by
    rcases h_s with ⟨e_s, _, h_s⟩ | ⟨p_s, x1_s, x2_s⟩
    · cases h_s
    · have hp := pln_OK x1_s
      have hl2 : ∀ p1_s, p1_s ∈ l ++ [p_s.2] → lOK p1_s := by
        intro p1_s h1
        rcases List.mem_append.mp h1 with h2 | h2
        · exact hl p1_s h2
        · rw [List.mem_singleton.mp h2]
          exact hp
      rcases x2_s with ⟨_, x4_s⟩ | ⟨_, ⟨_, x4_s⟩ | ⟨_, x4_s⟩⟩
      · cases x4_s
        exact hl2
      · cases x4_s
      · exact ptx_OK (k_s := k_s) x4_s hl2
theorem ptx_ne {tk : Nat → Int} {n_s : Nat} : ∀ {k_s a_s : Nat} {l ls : List pB}, ptx tk n_s k_s a_s l (.inr ls) → ls ≠ []
  | 0, _, _, _, h_s => h_s.elim
  | k_s + 1, a_s, l, ls, h_s => by
    rcases h_s with ⟨e_s, _, h_s⟩ | ⟨p_s, x1_s, ⟨_, x4_s⟩ | ⟨_, ⟨_, x4_s⟩ | ⟨_, x4_s⟩⟩⟩
    · cases h_s
    · cases x4_s
      intro w_s
      have w1_s := congrArg List.length w_s
      rw [List.length_append] at w1_s
      exact absurd w1_s (Nat.succ_ne_zero _)
    · cases x4_s
    · exact ptx_ne (k_s := k_s) x4_s
/-- from a line's begin on, with nothing waiting -/
theorem WL {h_s : zH} {K_s : Int32 → zH → Prop} {q_s L_s : Nat} {nm : Nat → Int32} {f0_s : Nat → Nat → Int32} (hm_s : q_s = 14 ∨ q_s = 17) (hk : hKn h_s) (hb_s : L_s ≤ 241) (hL : (f0_s q_s 2).toInt = (L_s : Int)) (hn : ∀ k_s, f0_s 13 k_s = nm k_s) : ∀ (ls : List pB) (F_s len_s s_s : Nat) (x2_s x3 x4_s : Int32) (l5 l6 l7 : Option Value) (f_s : Nat → Nat → Int32), (∀ p_s, p_s ∈ ls → lOK p_s) → (∀ o k_s, ¬ o = q_s + 2 → f_s o k_s = f0_s o k_s) → x2_s.toInt = ((0 : Nat) : Int) → x3.toInt = (len_s : Int) → x4_s.toInt = (s_s : Int) → s_s ≤ len_s → len_s + (cTx len_s ls).length = L_s → (∀ j_s c_s, zget (cTx len_s ls) j_s = some c_s → f0_s (q_s + 1) (len_s + j_s) = c_s) → (∀ f1_s, (∀ o k_s, ¬ o = q_s + 2 → f1_s o k_s = f0_s o k_s) → K_s ((gvL nm ls).getD 0) (h_s.1, f1_s, h_s.2.2.1, h_s.2.2.2)) → wF F_s 58 (32, [some (.ref q_s), some (.ref 13), some (.int x2_s), some (.int x3), some (.int x4_s), l5, l6, l7], [], (h_s.1, f_s, h_s.2.2.1, h_s.2.2.2)) (gI K_s)
  | [], F_s, len_s, s_s, x2_s, x3, x4_s, l5, l6, l7, f_s, _, hf, _, h3, _, _, hl, _, t_s => by
    have hl : len_s + 0 = L_s := hl
    have hL1 : (f_s q_s 2).toInt = (L_s : Int) := by
      rw [hf q_s 2 (by omega)]
      exact hL
    exact wF_le (Nat.le_succ F_s) (sg_58_32 (h_s := (h_s.1, f_s, h_s.2.2.1, h_s.2.2.2)) hm_s hk ⟨fun _ => ⟨fun (c2_s : x3.toInt < (f_s q_s 2).toInt) => absurd c2_s (by omega), fun _ => t_s f_s hf⟩, fun _ => t_s f_s hf⟩)
  | (none, y_s) :: r_s, F_s, len_s, s_s, x2_s, x3, x4_s, l5, l6, l7, f_s, hok, hf, h2, h3, h4, hs, hl, hc_s, t_s => by
    have ey : EX y_s 36 := (hok _ List.mem_cons_self).2
    have hL1 : (f_s q_s 2).toInt = (L_s : Int) := by
      rw [hf q_s 2 (by omega)]
      exact hL
    have hl2 : len_s + ((y_s.1 ++ [(59 : Int32)]) ++ cTx (len_s + (cLn len_s (none, y_s)).length) r_s).length = L_s := hl
    rw [List.length_append, List.length_append] at hl2
    have hl2 : len_s + ((y_s.1.length + 1) + (cTx (len_s + (cLn len_s (none, y_s)).length) r_s).length) = L_s := hl2
    have hlt : len_s + y_s.1.length < L_s := by omega
    have hcy : ∀ j_s c_s, zget y_s.1 j_s = some c_s → f_s (q_s + 1) (len_s + j_s) = c_s := fun j_s c_s hj => by
      rw [hf _ _ (by omega)]
      exact hc_s j_s c_s (zget_app (zget_app hj))
    have h59 : f0_s (q_s + 1) (len_s + y_s.1.length) = 59 := hc_s y_s.1.length 59 (zget_app (zget_end _ _))
    refine ey F_s h_s K_s q_s 0 len_s s_s L_s x2_s x3 x4_s l5 l6 l7 f_s hm_s hk h2 h3 h4 hs hL1 hb_s hlt (by omega) hcy (fun y2 y3 y4 s1_s m5_s m6_s m7_s f1_s g2 g3_s g4 gs gf gv => ?_)
    have hf1 : ∀ o k_s, ¬ o = q_s + 2 → f1_s o k_s = f0_s o k_s := fun o k_s ho => by
      rw [gf o k_s (fun u_s => ho u_s.1)]
      exact hf o k_s ho
    have hL2 : (f1_s q_s 2).toInt = (L_s : Int) := by
      rw [hf1 q_s 2 (by omega)]
      exact hL
    have hn1 : (fun k_s => f_s 13 k_s) = nm := by
      funext k_s
      rw [hf 13 k_s (by omega)]
      exact hn k_s
    rw [hn1] at gv
    refine at58e hm_s hk g3_s g4 gs hL2 hb_s hlt (fun x6 _ => ?_)
    rw [hf1 _ _ (by omega), h59]
    refine en83 hm_s hk g2 ?_
    rw [gv]
    exact t_s f1_s hf1
  | (some y1, y_s) :: r_s, F_s, len_s, s_s, x2_s, x3, x4_s, l5, l6, l7, f_s, hok, hf, h2, h3, h4, hs, hl, hc_s, t_s => by
    have ey : EX y_s 36 := (hok _ List.mem_cons_self).2
    have ey1 : EX y1 36 := (hok _ List.mem_cons_self).1 y1 rfl
    have hL1 : (f_s q_s 2).toInt = (L_s : Int) := by
      rw [hf q_s 2 (by omega)]
      exact hL
    have el : (cLn len_s (some y1, y_s)).length = y1.1.length + (2 + (y_s.1.length + 1)) := by
      show (y1.1 ++ ([(63 : Int32), Int32.ofNat (len_s + (y1.1.length + (y_s.1.length + 3)))] ++ (y_s.1 ++ [59]))).length = _
      rw [List.length_append, List.length_append, List.length_append]
      rfl
    have hl2 : len_s + (cLn len_s (some y1, y_s) ++ cTx (len_s + (cLn len_s (some y1, y_s)).length) r_s).length = L_s := hl
    rw [List.length_append] at hl2
    have hc1 : ∀ j_s c_s, zget (y1.1 ++ ([(63 : Int32), Int32.ofNat (len_s + (y1.1.length + (y_s.1.length + 3)))] ++ (y_s.1 ++ [59]))) j_s = some c_s → f0_s (q_s + 1) (len_s + j_s) = c_s := fun j_s c_s hj => hc_s j_s c_s (zget_app hj)
    have hr : ∀ j_s c_s, zget (cTx (len_s + (cLn len_s (some y1, y_s)).length) r_s) j_s = some c_s → f0_s (q_s + 1) (len_s + (cLn len_s (some y1, y_s)).length + j_s) = c_s := fun j_s c_s hj => by
      rw [Nat.add_assoc]
      exact hc_s _ c_s (zget_sh hj)
    generalize hT_s : len_s + (y1.1.length + (y_s.1.length + 3)) = tg at hc1
    have eT : len_s + (cLn len_s (some y1, y_s)).length = tg := by omega
    rw [eT] at hr hl2
    have hl3 : tg + (cTx tg r_s).length = L_s := by
      rw [← hl2, ← Nat.add_assoc, eT]
    have hc0 : ∀ j_s c_s, zget y1.1 j_s = some c_s → f_s (q_s + 1) (len_s + j_s) = c_s := fun j_s c_s hj => by
      rw [hf _ _ (by omega)]
      exact hc1 j_s c_s (zget_app hj)
    have h63 : f0_s (q_s + 1) (len_s + y1.1.length) = 63 := hc1 (y1.1.length + 0) 63 (zget_sh rfl)
    have htg : f0_s (q_s + 1) (len_s + y1.1.length + 1) = Int32.ofNat tg := by
      have u_s := hc1 (y1.1.length + 1) _ (zget_sh (j_s := 1) rfl)
      rw [← Nat.add_assoc] at u_s
      exact u_s
    have hcy : ∀ j_s c_s, zget y_s.1 j_s = some c_s → f0_s (q_s + 1) (len_s + y1.1.length + 2 + j_s) = c_s := fun j_s c_s hj => by
      have u_s := hc1 (y1.1.length + (2 + j_s)) c_s (zget_sh (zget_sh (l1 := [(63 : Int32), Int32.ofNat tg]) (zget_app hj)))
      rw [← Nat.add_assoc, ← Nat.add_assoc] at u_s
      exact u_s
    have h59 : f0_s (q_s + 1) (len_s + y1.1.length + 2 + y_s.1.length) = 59 := by
      have u_s := hc1 (y1.1.length + (2 + y_s.1.length)) 59 (zget_sh (zget_sh (l1 := [(63 : Int32), Int32.ofNat tg]) (zget_end _ _)))
      rw [← Nat.add_assoc, ← Nat.add_assoc] at u_s
      exact u_s
    have etg : (Int32.ofNat tg).toInt = (tg : Int) := na_ofn (by omega)
    clear hl hc_s hc1 hl2
    refine ey1 F_s h_s K_s q_s 0 len_s s_s L_s x2_s x3 x4_s l5 l6 l7 f_s hm_s hk h2 h3 h4 hs hL1 hb_s (by omega) (by omega) hc0 (fun y2 y3 y4 s1_s m5_s m6_s m7_s f1_s g2 g3_s g4 gs gf gv => ?_)
    have hf1 : ∀ o k_s, ¬ o = q_s + 2 → f1_s o k_s = f0_s o k_s := fun o k_s ho => by
      rw [gf o k_s (fun u_s => ho u_s.1)]
      exact hf o k_s ho
    have hL2 : (f1_s q_s 2).toInt = (L_s : Int) := by
      rw [hf1 q_s 2 (by omega)]
      exact hL
    have hn1 : (fun k_s => f_s 13 k_s) = nm := by
      funext k_s
      rw [hf 13 k_s (by omega)]
      exact hn k_s
    have hn2 : (fun k_s => f1_s 13 k_s) = nm := by
      funext k_s
      rw [hf1 13 k_s (by omega)]
      exact hn k_s
    rw [hn1] at gv
    have d1_s := (dec1_ (x2_s := y2) (w_s := 0) g2).2
    have e3_s : (y3 + 1).toInt = ((len_s + y1.1.length + 1 : Nat) : Int) := by
      rw [in1_ (by omega)]
      omega
    have e4_s : (y4 + 1).toInt = ((s1_s + 1 : Nat) : Int) := by
      rw [in1_ (by omega)]
      omega
    refine at58 hm_s hk g3_s g4 gs hL2 hb_s (by omega) ?_
    rw [hf1 _ _ (by omega), hf1 _ _ (by omega), h63, htg]
    refine qu83 hm_s hk g2 (fun v0_s => ?_) (fun v0_s => ?_)
    · rw [gv] at v0_s
      rw [if_pos ((il_ _ _).mpr (by omega))]
      refine WL hm_s hk hb_s hL hn r_s F_s tg (s1_s + 1) _ _ _ _ _ _ f1_s (fun p_s hp => hok p_s (List.mem_cons_of_mem _ hp)) hf1 d1_s etg e4_s (by omega) hl3 hr (fun f2_s hf2 => ?_)
      have u_s := t_s f2_s hf2
      have eg : gvL nm ((some y1, y_s) :: r_s) = gvL nm r_s := by
        show (if y1.2.1 nm = 0 then gvL nm r_s else some (y_s.2.1 nm)) = gvL nm r_s
        rw [if_pos v0_s]
      rw [eg] at u_s
      exact u_s
    · rw [gv] at v0_s
      have e5_s : (y3 + 1 + 1).toInt = ((len_s + y1.1.length + 2 : Nat) : Int) := by
        rw [in1_ (by omega), e3_s]
        omega
      refine ey F_s h_s K_s q_s 0 (len_s + y1.1.length + 2) (s1_s + 1) L_s _ _ _ _ _ _ f1_s hm_s hk d1_s e5_s e4_s (by omega) hL2 hb_s (by omega) (by omega) (fun j_s c_s hj => by rw [hf1 _ _ (by omega)]; exact hcy j_s c_s hj) (fun z2 z3 z4 s2_s n5_s n6_s n7 f2_s k2_s k3_s k4_s ks_s kf kv => ?_)
      rw [hn2] at kv
      have hf2 : ∀ o k_s, ¬ o = q_s + 2 → f2_s o k_s = f0_s o k_s := fun o k_s ho => by
        rw [kf o k_s (fun u_s => ho u_s.1)]
        exact hf1 o k_s ho
      have hL3 : (f2_s q_s 2).toInt = (L_s : Int) := by
        rw [hf2 q_s 2 (by omega)]
        exact hL
      refine at58e hm_s hk k3_s k4_s ks_s hL3 hb_s (by omega) (fun x6 _ => ?_)
      rw [hf2 _ _ (by omega), h59]
      refine en83 hm_s hk k2_s ?_
      rw [kv]
      have u_s := t_s f2_s hf2
      have eg : gvL nm ((some y1, y_s) :: r_s) = some (y_s.2.1 nm) := by
        show (if y1.2.1 nm = 0 then gvL nm r_s else some (y_s.2.1 nm)) = some (y_s.2.1 nm)
        rw [if_neg v0_s]
      rw [eg] at u_s
      exact u_s
/-- THE LAW of the class: its code; none: as told without one -/
noncomputable def lawC (q_s : Nat) (f_s : Nat → Nat → Int32) : Option (List pB) → Prop
  | none => (f_s q_s 2).toInt = 0 ∧ f_s q_s 0 = 0
  | some ls => (f_s q_s 2).toInt = ((cTx 0 ls).length : Int) ∧ (cTx 0 ls).length ≤ 241 ∧ (∀ j_s c_s, zget (cTx 0 ls) j_s = some c_s → f_s (q_s + 1) j_s = c_s) ∧ f_s q_s 0 = (if mTx ls then 1 else 0) ∧ (∀ p_s, p_s ∈ ls → lOK p_s) ∧ ls ≠ []
noncomputable def lawV (lw : Option (List pB)) (n_s : Nat → Int32) : Int32 := match lw with
  | none => 1 + n_s 5 + n_s 3 / 3 - n_s 0 / 2
  | some ls => (gvL n_s ls).getD 0
theorem cTx_pos {len_s : Nat} : ∀ {ls : List pB}, ls ≠ [] → 0 < (cTx len_s ls).length
  | [], h_s => absurd rfl h_s
  | (none, y_s) :: r_s, _ => by
    show 0 < ((y_s.1 ++ [(59 : Int32)]) ++ _).length
    rw [List.length_append, List.length_append]
    show 0 < y_s.1.length + 1 + _
    omega
  | (some y1, y_s) :: r_s, _ => by
    show 0 < ((y1.1 ++ ([(63 : Int32), Int32.ofNat (len_s + (y1.1.length + (y_s.1.length + 3)))] ++ (y_s.1 ++ [59]))) ++ _).length
    rw [List.length_append, List.length_append, List.length_append]
    show 0 < y1.1.length + (2 + _) + _
    omega
theorem sp_58 {F_s : Nat} {h_s : zH} {K_s : Int32 → zH → Prop} {q_s : Nat} {lw : Option (List pB)} {f_s : Nat → Nat → Int32} (hm_s : q_s = 14 ∨ q_s = 17) (hk : hKn h_s) (hl : lawC q_s f_s lw) (t_s : ∀ f1_s, (∀ o k_s, ¬ o = q_s + 2 → f1_s o k_s = f_s o k_s) → K_s (lawV lw (fun k_s => f_s 13 k_s)) (h_s.1, f1_s, h_s.2.2.1, h_s.2.2.2)) : wF F_s 58 (0, [some (.ref q_s), some (.ref 13), none, none, none, none, none, none], [], (h_s.1, f_s, h_s.2.2.1, h_s.2.2.2)) (gI K_s) := by
  match lw, hl, t_s with
  | none, hl, t_s => exact wF_le (Nat.le_succ F_s) (sg_58_0 (h_s := (h_s.1, f_s, h_s.2.2.1, h_s.2.2.2)) hm_s hk ⟨fun _ => t_s f_s (fun _ _ _ => rfl), fun c_s => absurd hl.1 c_s⟩)
  | some ls, hl, t_s =>
    obtain ⟨a1_s, a2, a3, a4, a5, a6⟩ := hl
    have a7 := cTx_pos (len_s := 0) a6
    refine wF_le (Nat.le_succ F_s) (sg_58_0 (h_s := (h_s.1, f_s, h_s.2.2.1, h_s.2.2.2)) hm_s hk ⟨fun (c_s : (f_s q_s 2).toInt = 0) => absurd c_s (by omega), fun _ => ?_⟩)
    exact WL (L_s := (cTx 0 ls).length) (nm := fun k_s => f_s 13 k_s) (f0_s := f_s) hm_s hk a2 a1_s (fun _ => rfl) ls F_s 0 0 0 0 0 none none none f_s a5 (fun _ _ _ => rfl) rfl rfl rfl (Nat.le_refl 0) (Nat.zero_add _) (fun j_s c_s hj => by rw [Nat.zero_add]; exact a3 j_s c_s hj) (fun f1_s hf1 => t_s f1_s hf1)
/-! what doesn't mind WORN gives the same whatever it is; names behind the sixth are none -/
noncomputable def eqN (b_s : Prop) (n_s n1_s : Nat → Int32) : Prop := ∀ k_s, k_s < 6 → (k_s = 1 → b_s) → n_s k_s = n1_s k_s
theorem orF {b_s : Prop} {c_s d_s : Bool} (h_s : b_s ∨ (c_s || d_s) = false) : (b_s ∨ c_s = false) ∧ (b_s ∨ d_s = false) := by
  rcases h_s with h_s | h_s
  · exact ⟨Or.inl h_s, Or.inl h_s⟩
  · rw [Bool.or_eq_false_iff] at h_s
    exact ⟨Or.inr h_s.1, Or.inr h_s.2⟩
theorem pz_mw (tk : Nat → Int) {b_s : Prop} {n_s n1_s : Nat → Int32} (hn : eqN b_s n_s n1_s) : ∀ (f_s m_s op_s a_s : Nat) (z_s : pA) (p_s : Nat × pA), (b_s ∨ z_s.2.2 = false → z_s.2.1 n_s = z_s.2.1 n1_s) → pz tk f_s m_s op_s a_s z_s = some (.inr p_s) → (b_s ∨ p_s.2.2.2 = false) → p_s.2.2.1 n_s = p_s.2.2.1 n1_s
  | 0, _, _, _, _, _, _, h_s => by cases h_s
  | f_s + 1, m_s, op_s, a_s, z_s, p_s, hz, h_s => by
    have ih_s := pz_mw tk hn f_s
    rw [pz] at h_s
    split at h_s
    · split at h_s
      · rename_i p1_s hp
        exact ih_s (m_s + 6) op_s p1_s.1 p1_s.2 p_s (ih_s (m_s + 1) op_s a_s pz0 p1_s (fun _ => rfl) hp) h_s
      · rename_i q_s hp
        exact (hp p_s h_s).elim
    · split at h_s
      · split at h_s
        · cases h_s
          exact fun _ => rfl
        · split at h_s
          · cases h_s
            intro w_s
            have l6 := nmo_lt (tk a_s)
            refine hn _ (by omega) (fun e_s => ?_)
            rcases w_s with w_s | w_s
            · exact w_s
            · exact absurd (show nmo (tk a_s) = 1 by omega) (of_decide_eq_false w_s)
          · split at h_s
            · cases h_s
            · split at h_s
              · split at h_s
                · rename_i p1_s hp
                  split at h_s
                  · cases h_s
                    exact ih_s 0 (op_s + 1) (a_s + 1) pz0 p1_s (fun _ => rfl) hp
                  · cases h_s
                · rename_i q_s hp
                  exact (hp p_s h_s).elim
              · split at h_s
                · rename_i p1_s hp
                  cases h_s
                  have e_s := ih_s 5 (op_s + 1) (a_s + 1) pz0 p1_s (fun _ => rfl) hp
                  intro w_s
                  have e1_s := e_s w_s
                  show (if tk a_s = 33 then (if p1_s.2.2.1 n_s = 0 then (1 : Int32) else 0) else -(p1_s.2.2.1 n_s)) = (if tk a_s = 33 then (if p1_s.2.2.1 n1_s = 0 then (1 : Int32) else 0) else -(p1_s.2.2.1 n1_s))
                  rw [e1_s]
                · rename_i q_s hp
                  exact (hp p_s h_s).elim
      · split at h_s
        · split at h_s
          · rename_i p1_s hp
            have e_s := ih_s (m_s - 5) op_s (a_s + 1) pz0 p1_s (fun _ => rfl) hp
            have ej : (b_s ∨ (pjn z_s (tk a_s) p1_s.2).2.2 = false) → (pjn z_s (tk a_s) p1_s.2).2.1 n_s = (pjn z_s (tk a_s) p1_s.2).2.1 n1_s := by
              intro w_s
              have w1_s := orF w_s
              show jnv (z_s.2.1 n_s) (tk a_s) (p1_s.2.2.1 n_s) = jnv (z_s.2.1 n1_s) (tk a_s) (p1_s.2.2.1 n1_s)
              rw [hz w1_s.1, e_s w1_s.2]
            split at h_s
            · cases h_s
              exact ej
            · exact ih_s m_s op_s p1_s.1 (pjn z_s (tk a_s) p1_s.2) p_s ej h_s
          · rename_i q_s hp
            exact (hp p_s h_s).elim
        · cases h_s
          exact hz
noncomputable def lMW (b_s : Prop) (n_s n1_s : Nat → Int32) (l : pB) : Prop := (b_s ∨ mLn l = false) → (∀ y_s, l.1 = some y_s → y_s.2.1 n_s = y_s.2.1 n1_s) ∧ l.2.2.1 n_s = l.2.2.1 n1_s
theorem pP_mw {b_s : Prop} {tk : Nat → Int} {n_s n1_s : Nat → Int32} {a_s : Nat} {p_s : Nat × pA} (hn : eqN b_s n_s n1_s) (h_s : pP tk 0 0 a_s pz0 (.inr p_s)) : (b_s ∨ p_s.2.2.2 = false) → p_s.2.2.1 n_s = p_s.2.2.1 n1_s := by
  obtain ⟨f_s, h_s⟩ := h_s
  exact pz_mw tk hn f_s 0 0 a_s pz0 p_s (fun _ => rfl) h_s
theorem pln_mw {b_s : Prop} {tk : Nat → Int} {n_s n1_s : Nat → Int32} {a_s : Nat} {p_s : Nat × pB} (hn : eqN b_s n_s n1_s) (h_s : pln tk a_s (.inr p_s)) : lMW b_s n_s n1_s p_s.2 := by
  rcases h_s with ⟨e_s, _, h_s⟩ | ⟨p1_s, h1, ⟨_, h_s⟩ | ⟨_, ⟨e_s, _, h_s⟩ | ⟨p2_s, h2, h_s⟩⟩⟩
  · cases h_s
  · cases h_s
    intro w_s
    have w1_s : b_s ∨ (false || p1_s.2.2.2) = false := w_s
    exact ⟨fun y_s hy => (by cases hy), pP_mw hn h1 (orF w1_s).2⟩
  · cases h_s
  · cases h_s
    intro w_s
    have w1_s : b_s ∨ (p1_s.2.2.2 || p2_s.2.2.2) = false := w_s
    refine ⟨fun y_s hy => ?_, pP_mw hn h2 (orF w1_s).2⟩
    cases hy
    exact pP_mw hn h1 (orF w1_s).1
theorem ptx_mw {b_s : Prop} {tk : Nat → Int} {n1_s n2_s : Nat → Int32} {n_s : Nat} (hn : eqN b_s n1_s n2_s) : ∀ {k_s a_s : Nat} {l ls : List pB}, ptx tk n_s k_s a_s l (.inr ls) → (∀ p_s, p_s ∈ l → lMW b_s n1_s n2_s p_s) → ∀ p_s, p_s ∈ ls → lMW b_s n1_s n2_s p_s
  | 0, _, _, _, h_s, _ => h_s.elim
  | k_s + 1, a_s, l, ls, h_s, hl => by
    rcases h_s with ⟨e_s, _, h_s⟩ | ⟨p_s, x1_s, x2_s⟩
    · cases h_s
    · have hp := pln_mw hn x1_s
      have hl2 : ∀ p1_s, p1_s ∈ l ++ [p_s.2] → lMW b_s n1_s n2_s p1_s := by
        intro p1_s h1
        rcases List.mem_append.mp h1 with h2 | h2
        · exact hl p1_s h2
        · rw [List.mem_singleton.mp h2]
          exact hp
      rcases x2_s with ⟨_, x4_s⟩ | ⟨_, ⟨_, x4_s⟩ | ⟨_, x4_s⟩⟩
      · cases x4_s
        exact hl2
      · cases x4_s
      · exact ptx_mw (k_s := k_s) hn x4_s hl2
theorem gvL_mw {b_s : Prop} {n1_s n2_s : Nat → Int32} : ∀ {ls : List pB}, (b_s ∨ mTx ls = false) → (∀ p_s, p_s ∈ ls → lMW b_s n1_s n2_s p_s) → gvL n1_s ls = gvL n2_s ls
  | [], _, _ => rfl
  | (none, y_s) :: r_s, w_s, hl => by
    have w1_s : b_s ∨ (mLn (none, y_s) || mTx r_s) = false := w_s
    have e_s := hl _ List.mem_cons_self (orF w1_s).1
    show some (y_s.2.1 n1_s) = some (y_s.2.1 n2_s)
    rw [e_s.2]
  | (some y1, y_s) :: r_s, w_s, hl => by
    have w1_s : b_s ∨ (mLn (some y1, y_s) || mTx r_s) = false := w_s
    have e_s := hl _ List.mem_cons_self (orF w1_s).1
    have e1_s := e_s.1 y1 rfl
    show (if y1.2.1 n1_s = 0 then gvL n1_s r_s else some (y_s.2.1 n1_s)) = (if y1.2.1 n2_s = 0 then gvL n2_s r_s else some (y_s.2.1 n2_s))
    rw [e1_s, e_s.2, gvL_mw (orF w1_s).2 (fun p_s hp => hl p_s (List.mem_cons_of_mem _ hp))]
/-- THE LAW of the reference: the text that it keeps -/
noncomputable def lawR (f_s : Nat → Nat → Int32) : Option (List pB) → Prop
  | none => (f_s 102 14).toInt = -1
  | some ls => ∃ n_s k_s : Nat, (f_s 102 14).toInt = (n_s : Int) ∧ n_s ≤ 120 ∧ (∀ a_s, a_s < n_s → 0 ≤ (f_s 110 a_s).toInt) ∧ ptx (fun a_s => if (a_s : Int) < (n_s : Int) then (f_s 110 a_s).toInt else -1) n_s k_s 0 [] (.inr ls)
noncomputable def lwm : Option (List pB) → Bool
  | none => false
  | some ls => mTx ls
noncomputable def lwP (lw : Option (List pB)) : Prop := ∀ (b_s : Prop) (n_s n1_s : Nat → Int32), eqN b_s n_s n1_s → (b_s ∨ lwm lw = false) → lawV lw n_s = lawV lw n1_s
theorem lawR_P {f_s : Nat → Nat → Int32} {lw : Option (List pB)} (h_s : lawR f_s lw) : lwP lw := by
  intro b_s n_s n1_s hn hw
  match lw, h_s, hw with
  | none, _, _ =>
    show 1 + n_s 5 + n_s 3 / 3 - n_s 0 / 2 = 1 + n1_s 5 + n1_s 3 / 3 - n1_s 0 / 2
    rw [hn 5 (by omega) (fun e_s => absurd e_s (by omega)), hn 3 (by omega) (fun e_s => absurd e_s (by omega)), hn 0 (by omega) (fun e_s => absurd e_s (by omega))]
  | some ls, h_s, hw =>
    obtain ⟨_, k_s, _, _, _, h_s⟩ := h_s
    show (gvL n_s ls).getD 0 = (gvL n1_s ls).getD 0
    rw [gvL_mw hw (ptx_mw hn h_s (fun p_s hp => by cases hp))]
