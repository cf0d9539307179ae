/-! WHAT RUNS KEEP: shapes, references (but by law()), longs (where no row of longs is written), and what comes back. -/
def noR (e_s : zI) : Bool := (!(Nat.beq e_s.1 21 && Nat.beq e_s.2.2.2.2.1 1) && !Nat.beq e_s.1 27) && (!Nat.beq e_s.1 29 && !Nat.beq e_s.1 30)
def noJ (e_s : zI) : Bool := !Nat.beq e_s.1 26 && !Nat.beq e_s.1 34
def rfO (e_s : zI) (x_s : zC) : zO → Prop
  | .inl y_s => y_s.2.2.2.1 = x_s.2.2.2.1 ∧ y_s.2.2.2.2.2.2 = x_s.2.2.2.2.2.2 ∧ (noJ e_s = true → y_s.2.2.2.2.2.1 = x_s.2.2.2.2.2.1)
  | .inr (.inl c_s) => c_s.2.2.2.2.2 = x_s.2.2.2 ∧ e_s.1 = 32 ∧ e_s.2.2.1 = c_s.1
  | .inr (.inr r_s) => (35 ≤ e_s.1 ∧ e_s.1 ≤ 38) ∧ (e_s.1 = 35 → ∃ v_s, r_s = some (.int v_s)) ∧ (e_s.1 = 36 → ∃ v_s, r_s = some (.long v_s)) ∧ (e_s.1 = 38 → r_s = none)
section RF
variable {len_s a_s b_s c_s pc : Nat} {v_s : Value} {sw_s : List (Int32 × Nat)} {lo_s : List (Option Value)} {st_s : List Value} {h_s : zH} {w_s : zO}
theorem rf_0 (hw : zstep (0, len_s, a_s, b_s, c_s, v_s, sw_s) (pc, lo_s, st_s, h_s) = some w_s) : rfO (0, len_s, a_s, b_s, c_s, v_s, sw_s) (pc, lo_s, st_s, h_s) w_s := by
  have hw : zs0 len_s v_s (pc, lo_s, st_s, h_s) = some w_s := hw
  simp only [zs0, Bool.cond_eq_ite, zgo] at hw
  all_goals first | (cases hw; done) | (cases hw; exact ⟨rfl, rfl, fun _ => rfl⟩)
theorem rf_1 (hw : zstep (1, len_s, a_s, b_s, c_s, v_s, sw_s) (pc, lo_s, st_s, h_s) = some w_s) : rfO (1, len_s, a_s, b_s, c_s, v_s, sw_s) (pc, lo_s, st_s, h_s) w_s := by
  have hw : zs1 len_s a_s (pc, lo_s, st_s, h_s) = some w_s := hw
  simp only [zs1, Bool.cond_eq_ite, zgo] at hw
  repeat' split at hw
  all_goals first | (cases hw; done) | (cases hw; exact ⟨rfl, rfl, fun _ => rfl⟩)
theorem rf_2 (hw : zstep (2, len_s, a_s, b_s, c_s, v_s, sw_s) (pc, lo_s, st_s, h_s) = some w_s) : rfO (2, len_s, a_s, b_s, c_s, v_s, sw_s) (pc, lo_s, st_s, h_s) w_s := by
  have hw : zs2 len_s a_s (pc, lo_s, st_s, h_s) = some w_s := hw
  simp only [zs2, Bool.cond_eq_ite, zgo] at hw
  repeat' split at hw
  all_goals first | (cases hw; done) | (cases hw; exact ⟨rfl, rfl, fun _ => rfl⟩)
theorem rf_3 (hw : zstep (3, len_s, a_s, b_s, c_s, v_s, sw_s) (pc, lo_s, st_s, h_s) = some w_s) : rfO (3, len_s, a_s, b_s, c_s, v_s, sw_s) (pc, lo_s, st_s, h_s) w_s := by
  have hw : zs3 len_s a_s (pc, lo_s, st_s, h_s) = some w_s := hw
  simp only [zs3, Bool.cond_eq_ite, zgo] at hw
  repeat' split at hw
  all_goals first | (cases hw; done) | (cases hw; exact ⟨rfl, rfl, fun _ => rfl⟩)
theorem rf_4 (hw : zstep (4, len_s, a_s, b_s, c_s, v_s, sw_s) (pc, lo_s, st_s, h_s) = some w_s) : rfO (4, len_s, a_s, b_s, c_s, v_s, sw_s) (pc, lo_s, st_s, h_s) w_s := by
  have hw : zs4 len_s a_s (pc, lo_s, st_s, h_s) = some w_s := hw
  simp only [zs4, Bool.cond_eq_ite, zgo] at hw
  repeat' split at hw
  all_goals first | (cases hw; done) | (cases hw; exact ⟨rfl, rfl, fun _ => rfl⟩)
theorem rf_5 (hw : zstep (5, len_s, a_s, b_s, c_s, v_s, sw_s) (pc, lo_s, st_s, h_s) = some w_s) : rfO (5, len_s, a_s, b_s, c_s, v_s, sw_s) (pc, lo_s, st_s, h_s) w_s := by
  have hw : zs5 len_s a_s (pc, lo_s, st_s, h_s) = some w_s := hw
  simp only [zs5, Bool.cond_eq_ite, zgo] at hw
  repeat' split at hw
  all_goals first | (cases hw; done) | (cases hw; exact ⟨rfl, rfl, fun _ => rfl⟩)
theorem rf_6 (hw : zstep (6, len_s, a_s, b_s, c_s, v_s, sw_s) (pc, lo_s, st_s, h_s) = some w_s) : rfO (6, len_s, a_s, b_s, c_s, v_s, sw_s) (pc, lo_s, st_s, h_s) w_s := by
  have hw : zs6 len_s a_s (pc, lo_s, st_s, h_s) = some w_s := hw
  simp only [zs6, Bool.cond_eq_ite, zgo] at hw
  repeat' split at hw
  all_goals first | (cases hw; done) | (cases hw; exact ⟨rfl, rfl, fun _ => rfl⟩)
theorem rf_7 (hw : zstep (7, len_s, a_s, b_s, c_s, v_s, sw_s) (pc, lo_s, st_s, h_s) = some w_s) : rfO (7, len_s, a_s, b_s, c_s, v_s, sw_s) (pc, lo_s, st_s, h_s) w_s := by
  have hw : zs7 len_s b_s (pc, lo_s, st_s, h_s) = some w_s := hw
  simp only [zs7, Bool.cond_eq_ite, zgo] at hw
  repeat' split at hw
  all_goals first | (cases hw; done) | (cases hw; exact ⟨rfl, rfl, fun _ => rfl⟩)
theorem rf_8 (hw : zstep (8, len_s, a_s, b_s, c_s, v_s, sw_s) (pc, lo_s, st_s, h_s) = some w_s) : rfO (8, len_s, a_s, b_s, c_s, v_s, sw_s) (pc, lo_s, st_s, h_s) w_s := by
  have hw : zs8 len_s b_s (pc, lo_s, st_s, h_s) = some w_s := hw
  simp only [zs8, Bool.cond_eq_ite, zgo] at hw
  repeat' split at hw
  all_goals first | (cases hw; done) | (cases hw; exact ⟨rfl, rfl, fun _ => rfl⟩)
theorem rf_9 (hw : zstep (9, len_s, a_s, b_s, c_s, v_s, sw_s) (pc, lo_s, st_s, h_s) = some w_s) : rfO (9, len_s, a_s, b_s, c_s, v_s, sw_s) (pc, lo_s, st_s, h_s) w_s := by
  have hw : zs9 len_s b_s (pc, lo_s, st_s, h_s) = some w_s := hw
  simp only [zs9, Bool.cond_eq_ite, zgo] at hw
  repeat' split at hw
  all_goals first | (cases hw; done) | (cases hw; exact ⟨rfl, rfl, fun _ => rfl⟩)
theorem rf_10 (hw : zstep (10, len_s, a_s, b_s, c_s, v_s, sw_s) (pc, lo_s, st_s, h_s) = some w_s) : rfO (10, len_s, a_s, b_s, c_s, v_s, sw_s) (pc, lo_s, st_s, h_s) w_s := by
  have hw : zs10 len_s (pc, lo_s, st_s, h_s) = some w_s := hw
  simp only [zs10, Bool.cond_eq_ite, zgo] at hw
  repeat' split at hw
  all_goals first | (cases hw; done) | (cases hw; exact ⟨rfl, rfl, fun _ => rfl⟩)
theorem rf_11 (hw : zstep (11, len_s, a_s, b_s, c_s, v_s, sw_s) (pc, lo_s, st_s, h_s) = some w_s) : rfO (11, len_s, a_s, b_s, c_s, v_s, sw_s) (pc, lo_s, st_s, h_s) w_s := by
  have hw : zs11 len_s (pc, lo_s, st_s, h_s) = some w_s := hw
  simp only [zs11, Bool.cond_eq_ite, zgo] at hw
  repeat' split at hw
  all_goals first | (cases hw; done) | (cases hw; exact ⟨rfl, rfl, fun _ => rfl⟩)
theorem rf_12 (hw : zstep (12, len_s, a_s, b_s, c_s, v_s, sw_s) (pc, lo_s, st_s, h_s) = some w_s) : rfO (12, len_s, a_s, b_s, c_s, v_s, sw_s) (pc, lo_s, st_s, h_s) w_s := by
  have hw : zs12 len_s b_s (pc, lo_s, st_s, h_s) = some w_s := hw
  simp only [zs12, Bool.cond_eq_ite, zgo] at hw
  repeat' split at hw
  all_goals first | (cases hw; done) | (cases hw; exact ⟨rfl, rfl, fun _ => rfl⟩)
theorem rf_13 (hw : zstep (13, len_s, a_s, b_s, c_s, v_s, sw_s) (pc, lo_s, st_s, h_s) = some w_s) : rfO (13, len_s, a_s, b_s, c_s, v_s, sw_s) (pc, lo_s, st_s, h_s) w_s := by
  have hw : zs13 len_s (pc, lo_s, st_s, h_s) = some w_s := hw
  simp only [zs13, Bool.cond_eq_ite, zgo] at hw
  repeat' split at hw
  all_goals first | (cases hw; done) | (cases hw; exact ⟨rfl, rfl, fun _ => rfl⟩)
theorem rf_14 (hw : zstep (14, len_s, a_s, b_s, c_s, v_s, sw_s) (pc, lo_s, st_s, h_s) = some w_s) : rfO (14, len_s, a_s, b_s, c_s, v_s, sw_s) (pc, lo_s, st_s, h_s) w_s := by
  have hw : zs14 len_s (pc, lo_s, st_s, h_s) = some w_s := hw
  simp only [zs14, Bool.cond_eq_ite, zgo] at hw
  repeat' split at hw
  all_goals first | (cases hw; done) | (cases hw; exact ⟨rfl, rfl, fun _ => rfl⟩)
theorem rf_15 (hw : zstep (15, len_s, a_s, b_s, c_s, v_s, sw_s) (pc, lo_s, st_s, h_s) = some w_s) : rfO (15, len_s, a_s, b_s, c_s, v_s, sw_s) (pc, lo_s, st_s, h_s) w_s := by
  have hw : zs15 len_s a_s b_s (pc, lo_s, st_s, h_s) = some w_s := hw
  simp only [zs15, Bool.cond_eq_ite, zgo] at hw
  repeat' split at hw
  all_goals first | (cases hw; done) | (cases hw; exact ⟨rfl, rfl, fun _ => rfl⟩)
theorem rf_16 (hw : zstep (16, len_s, a_s, b_s, c_s, v_s, sw_s) (pc, lo_s, st_s, h_s) = some w_s) : rfO (16, len_s, a_s, b_s, c_s, v_s, sw_s) (pc, lo_s, st_s, h_s) w_s := by
  have hw : zs16 len_s a_s b_s (pc, lo_s, st_s, h_s) = some w_s := hw
  simp only [zs16, Bool.cond_eq_ite, zgo] at hw
  repeat' split at hw
  all_goals first | (cases hw; done) | (cases hw; exact ⟨rfl, rfl, fun _ => rfl⟩)
theorem rf_17 (hw : zstep (17, len_s, a_s, b_s, c_s, v_s, sw_s) (pc, lo_s, st_s, h_s) = some w_s) : rfO (17, len_s, a_s, b_s, c_s, v_s, sw_s) (pc, lo_s, st_s, h_s) w_s := by
  have hw : zs17 a_s (pc, lo_s, st_s, h_s) = some w_s := hw
  simp only [zs17, Bool.cond_eq_ite, zgo] at hw
  all_goals first | (cases hw; done) | (cases hw; exact ⟨rfl, rfl, fun _ => rfl⟩)
theorem rf_18 (hw : zstep (18, len_s, a_s, b_s, c_s, v_s, sw_s) (pc, lo_s, st_s, h_s) = some w_s) : rfO (18, len_s, a_s, b_s, c_s, v_s, sw_s) (pc, lo_s, st_s, h_s) w_s := by
  have hw : zs18 a_s sw_s (pc, lo_s, st_s, h_s) = some w_s := hw
  simp only [zs18, Bool.cond_eq_ite, zgo] at hw
  repeat' split at hw
  all_goals first | (cases hw; done) | (cases hw; exact ⟨rfl, rfl, fun _ => rfl⟩)
theorem rf_19 (hw : zstep (19, len_s, a_s, b_s, c_s, v_s, sw_s) (pc, lo_s, st_s, h_s) = some w_s) : rfO (19, len_s, a_s, b_s, c_s, v_s, sw_s) (pc, lo_s, st_s, h_s) w_s := by
  have hw : zs19 len_s a_s v_s (pc, lo_s, st_s, h_s) = some w_s := hw
  simp only [zs19, Bool.cond_eq_ite, zgo] at hw
  repeat' split at hw
  all_goals first | (cases hw; done) | (cases hw; exact ⟨rfl, rfl, fun _ => rfl⟩)
theorem rf_20 (hw : zstep (20, len_s, a_s, b_s, c_s, v_s, sw_s) (pc, lo_s, st_s, h_s) = some w_s) : rfO (20, len_s, a_s, b_s, c_s, v_s, sw_s) (pc, lo_s, st_s, h_s) w_s := by
  have hw : zs20 len_s a_s b_s c_s (pc, lo_s, st_s, h_s) = some w_s := hw
  simp only [zs20, Bool.cond_eq_ite, zgo] at hw
  repeat' split at hw
  all_goals first | (cases hw; done) | (cases hw; exact ⟨rfl, rfl, fun _ => rfl⟩)
theorem rf_21 (hc_s : ¬ c_s = 1) (hw : zstep (21, len_s, a_s, b_s, c_s, v_s, sw_s) (pc, lo_s, st_s, h_s) = some w_s) : rfO (21, len_s, a_s, b_s, c_s, v_s, sw_s) (pc, lo_s, st_s, h_s) w_s := by
  have hw : zs21 len_s a_s b_s c_s (pc, lo_s, st_s, h_s) = some w_s := hw
  simp only [zs21, Bool.cond_eq_ite, zgo] at hw
  repeat' split at hw
  all_goals first | (cases hw; done) | (cases hw; exact ⟨rfl, rfl, fun _ => rfl⟩) | (exact absurd rfl hc_s)
theorem rf_22 (hw : zstep (22, len_s, a_s, b_s, c_s, v_s, sw_s) (pc, lo_s, st_s, h_s) = some w_s) : rfO (22, len_s, a_s, b_s, c_s, v_s, sw_s) (pc, lo_s, st_s, h_s) w_s := by
  have hw : zs22 len_s (pc, lo_s, st_s, h_s) = some w_s := hw
  simp only [zs22, Bool.cond_eq_ite, zgo] at hw
  repeat' split at hw
  all_goals first | (cases hw; done) | (cases hw; exact ⟨rfl, rfl, fun _ => rfl⟩)
theorem rf_23 (hw : zstep (23, len_s, a_s, b_s, c_s, v_s, sw_s) (pc, lo_s, st_s, h_s) = some w_s) : rfO (23, len_s, a_s, b_s, c_s, v_s, sw_s) (pc, lo_s, st_s, h_s) w_s := by
  have hw : zs23 len_s (pc, lo_s, st_s, h_s) = some w_s := hw
  simp only [zs23, Bool.cond_eq_ite, zgo] at hw
  repeat' split at hw
  all_goals first | (cases hw; done) | (cases hw; exact ⟨rfl, rfl, fun _ => rfl⟩)
theorem rf_24 (hw : zstep (24, len_s, a_s, b_s, c_s, v_s, sw_s) (pc, lo_s, st_s, h_s) = some w_s) : rfO (24, len_s, a_s, b_s, c_s, v_s, sw_s) (pc, lo_s, st_s, h_s) w_s := by
  have hw : zs24 len_s (pc, lo_s, st_s, h_s) = some w_s := hw
  simp only [zs24, Bool.cond_eq_ite, zgo] at hw
  repeat' split at hw
  all_goals first | (cases hw; done) | (cases hw; exact ⟨rfl, rfl, fun _ => rfl⟩)
theorem rf_25 (hw : zstep (25, len_s, a_s, b_s, c_s, v_s, sw_s) (pc, lo_s, st_s, h_s) = some w_s) : rfO (25, len_s, a_s, b_s, c_s, v_s, sw_s) (pc, lo_s, st_s, h_s) w_s := by
  have hw : zs25 len_s (pc, lo_s, st_s, h_s) = some w_s := hw
  simp only [zs25, Bool.cond_eq_ite, zgo] at hw
  repeat' split at hw
  all_goals first | (cases hw; done) | (cases hw; exact ⟨rfl, rfl, fun _ => rfl⟩)
theorem rf_26 (hw : zstep (26, len_s, a_s, b_s, c_s, v_s, sw_s) (pc, lo_s, st_s, h_s) = some w_s) : rfO (26, len_s, a_s, b_s, c_s, v_s, sw_s) (pc, lo_s, st_s, h_s) w_s := by
  have hw : zs26 len_s (pc, lo_s, st_s, h_s) = some w_s := hw
  simp only [zs26, Bool.cond_eq_ite, zgo] at hw
  repeat' split at hw
  all_goals first | (cases hw; done) | (cases hw; exact ⟨rfl, rfl, fun q_s => absurd q_s Bool.false_ne_true⟩)
theorem rf_28 (hw : zstep (28, len_s, a_s, b_s, c_s, v_s, sw_s) (pc, lo_s, st_s, h_s) = some w_s) : rfO (28, len_s, a_s, b_s, c_s, v_s, sw_s) (pc, lo_s, st_s, h_s) w_s := by
  have hw : zs28 len_s (pc, lo_s, st_s, h_s) = some w_s := hw
  simp only [zs28, Bool.cond_eq_ite, zgo] at hw
  repeat' split at hw
  all_goals first | (cases hw; done) | (cases hw; exact ⟨rfl, rfl, fun _ => rfl⟩)
theorem rf_31 (hw : zstep (31, len_s, a_s, b_s, c_s, v_s, sw_s) (pc, lo_s, st_s, h_s) = some w_s) : rfO (31, len_s, a_s, b_s, c_s, v_s, sw_s) (pc, lo_s, st_s, h_s) w_s := by
  have hw : zs31 len_s b_s (pc, lo_s, st_s, h_s) = some w_s := hw
  simp only [zs31, Bool.cond_eq_ite, zgo] at hw
  repeat' split at hw
  all_goals first | (cases hw; done) | (cases hw; exact ⟨rfl, rfl, fun _ => rfl⟩)
theorem rf_32 (hw : zstep (32, len_s, a_s, b_s, c_s, v_s, sw_s) (pc, lo_s, st_s, h_s) = some w_s) : rfO (32, len_s, a_s, b_s, c_s, v_s, sw_s) (pc, lo_s, st_s, h_s) w_s := by
  have hw : zs32 len_s a_s b_s (c_s % 4) (c_s / 4) (pc, lo_s, st_s, h_s) = some w_s := hw
  simp only [zs32, Bool.cond_eq_ite, zgo] at hw
  repeat' split at hw
  all_goals first | (cases hw; done) | (cases hw; exact ⟨rfl, rfl, rfl⟩)
theorem rf_33 (hw : zstep (33, len_s, a_s, b_s, c_s, v_s, sw_s) (pc, lo_s, st_s, h_s) = some w_s) : rfO (33, len_s, a_s, b_s, c_s, v_s, sw_s) (pc, lo_s, st_s, h_s) w_s := by
  have hw : zs33 len_s (pc, lo_s, st_s, h_s) = some w_s := hw
  simp only [zs33, Bool.cond_eq_ite, zgo] at hw
  repeat' split at hw
  all_goals first | (cases hw; done) | (cases hw; exact ⟨rfl, rfl, fun _ => rfl⟩)
theorem rf_34 (hw : zstep (34, len_s, a_s, b_s, c_s, v_s, sw_s) (pc, lo_s, st_s, h_s) = some w_s) : rfO (34, len_s, a_s, b_s, c_s, v_s, sw_s) (pc, lo_s, st_s, h_s) w_s := by
  have hw : zs34 len_s (pc, lo_s, st_s, h_s) = some w_s := hw
  simp only [zs34, Bool.cond_eq_ite, zgo] at hw
  repeat' split at hw
  all_goals first | (cases hw; done) | (cases hw; exact ⟨rfl, rfl, fun q_s => absurd q_s Bool.false_ne_true⟩)
theorem rf_35 (hw : zstep (35, len_s, a_s, b_s, c_s, v_s, sw_s) (pc, lo_s, st_s, h_s) = some w_s) : rfO (35, len_s, a_s, b_s, c_s, v_s, sw_s) (pc, lo_s, st_s, h_s) w_s := by
  have hw : zs35 c_s (pc, lo_s, st_s, h_s) = some w_s := hw
  simp only [zs35, Bool.cond_eq_ite, zgo] at hw
  repeat' split at hw
  all_goals first | (cases hw; done) | (cases hw; exact ⟨⟨(show 35 ≤ 35 by decide), (show 35 ≤ 38 by decide)⟩, fun _ => ⟨_, rfl⟩, fun q_s => absurd (show (35 : Nat) = 36 from q_s) (by decide), fun q_s => absurd (show (35 : Nat) = 38 from q_s) (by decide)⟩)
theorem rf_36 (hw : zstep (36, len_s, a_s, b_s, c_s, v_s, sw_s) (pc, lo_s, st_s, h_s) = some w_s) : rfO (36, len_s, a_s, b_s, c_s, v_s, sw_s) (pc, lo_s, st_s, h_s) w_s := by
  have hw : zs36 (pc, lo_s, st_s, h_s) = some w_s := hw
  simp only [zs36, Bool.cond_eq_ite, zgo] at hw
  repeat' split at hw
  all_goals first | (cases hw; done) | (cases hw; exact ⟨⟨(show 35 ≤ 36 by decide), (show 36 ≤ 38 by decide)⟩, fun q_s => absurd (show (36 : Nat) = 35 from q_s) (by decide), fun _ => ⟨_, rfl⟩, fun q_s => absurd (show (36 : Nat) = 38 from q_s) (by decide)⟩)
theorem rf_37 (hw : zstep (37, len_s, a_s, b_s, c_s, v_s, sw_s) (pc, lo_s, st_s, h_s) = some w_s) : rfO (37, len_s, a_s, b_s, c_s, v_s, sw_s) (pc, lo_s, st_s, h_s) w_s := by
  have hw : zs37 (pc, lo_s, st_s, h_s) = some w_s := hw
  simp only [zs37, Bool.cond_eq_ite, zgo] at hw
  repeat' split at hw
  all_goals first | (cases hw; done) | (cases hw; exact ⟨⟨(show 35 ≤ 37 by decide), (show 37 ≤ 38 by decide)⟩, fun q_s => absurd (show (37 : Nat) = 35 from q_s) (by decide), fun q_s => absurd (show (37 : Nat) = 36 from q_s) (by decide), fun q_s => absurd (show (37 : Nat) = 38 from q_s) (by decide)⟩)
theorem rf_38 (hw : zstep (38, len_s, a_s, b_s, c_s, v_s, sw_s) (pc, lo_s, st_s, h_s) = some w_s) : rfO (38, len_s, a_s, b_s, c_s, v_s, sw_s) (pc, lo_s, st_s, h_s) w_s := by
  have hw : zs38 (pc, lo_s, st_s, h_s) = some w_s := hw
  simp only [zs38, Bool.cond_eq_ite, zgo] at hw
  repeat' split at hw
  all_goals first | (cases hw; done) | (cases hw; exact ⟨⟨(show 35 ≤ 38 by decide), (show 38 ≤ 38 by decide)⟩, fun q_s => absurd (show (38 : Nat) = 35 from q_s) (by decide), fun q_s => absurd (show (38 : Nat) = 36 from q_s) (by decide), fun _ => rfl⟩)
theorem rf_39 (hw : zstep (39, len_s, a_s, b_s, c_s, v_s, sw_s) (pc, lo_s, st_s, h_s) = some w_s) : rfO (39, len_s, a_s, b_s, c_s, v_s, sw_s) (pc, lo_s, st_s, h_s) w_s := by
  have hw : zs39 len_s (pc, lo_s, st_s, h_s) = some w_s := hw
  simp only [zs39, Bool.cond_eq_ite, zgo] at hw
  repeat' split at hw
  all_goals first | (cases hw; done) | (cases hw; exact ⟨rfl, rfl, fun _ => rfl⟩)
theorem rf_40 (hw : zstep (40, len_s, a_s, b_s, c_s, v_s, sw_s) (pc, lo_s, st_s, h_s) = some w_s) : rfO (40, len_s, a_s, b_s, c_s, v_s, sw_s) (pc, lo_s, st_s, h_s) w_s := by
  have hw : zs40 len_s (pc, lo_s, st_s, h_s) = some w_s := hw
  simp only [zs40, Bool.cond_eq_ite, zgo] at hw
  repeat' split at hw
  all_goals first | (cases hw; done) | (cases hw; exact ⟨rfl, rfl, fun _ => rfl⟩)
theorem rf_41 (hw : zstep (41, len_s, a_s, b_s, c_s, v_s, sw_s) (pc, lo_s, st_s, h_s) = some w_s) : rfO (41, len_s, a_s, b_s, c_s, v_s, sw_s) (pc, lo_s, st_s, h_s) w_s := by
  have hw : zs41 len_s (pc, lo_s, st_s, h_s) = some w_s := hw
  simp only [zs41, Bool.cond_eq_ite, zgo] at hw
  repeat' split at hw
  all_goals first | (cases hw; done) | (cases hw; exact ⟨rfl, rfl, fun _ => rfl⟩)
theorem rf_42 (hw : zstep (42, len_s, a_s, b_s, c_s, v_s, sw_s) (pc, lo_s, st_s, h_s) = some w_s) : rfO (42, len_s, a_s, b_s, c_s, v_s, sw_s) (pc, lo_s, st_s, h_s) w_s := by
  have hw : zs42 len_s (pc, lo_s, st_s, h_s) = some w_s := hw
  simp only [zs42, Bool.cond_eq_ite, zgo] at hw
  repeat' split at hw
  all_goals first | (cases hw; done) | (cases hw; exact ⟨rfl, rfl, fun _ => rfl⟩)
theorem rf_43 (hw : zstep (43, len_s, a_s, b_s, c_s, v_s, sw_s) (pc, lo_s, st_s, h_s) = some w_s) : rfO (43, len_s, a_s, b_s, c_s, v_s, sw_s) (pc, lo_s, st_s, h_s) w_s := by
  have hw : zs43 len_s a_s (pc, lo_s, st_s, h_s) = some w_s := hw
  simp only [zs43, Bool.cond_eq_ite, zgo] at hw
  all_goals first | (cases hw; done) | (cases hw; exact ⟨rfl, rfl, fun _ => rfl⟩)
theorem rf_44 (hw : zstep (44, len_s, a_s, b_s, c_s, v_s, sw_s) (pc, lo_s, st_s, h_s) = some w_s) : rfO (44, len_s, a_s, b_s, c_s, v_s, sw_s) (pc, lo_s, st_s, h_s) w_s := by
  have hw : zs44 len_s (pc, lo_s, st_s, h_s) = some w_s := hw
  simp only [zs44, Bool.cond_eq_ite, zgo] at hw
  repeat' split at hw
  all_goals first | (cases hw; done) | (cases hw; exact ⟨rfl, rfl, fun _ => rfl⟩)
theorem rf_step {op_s : Nat} (hw : zstep (op_s, len_s, a_s, b_s, c_s, v_s, sw_s) (pc, lo_s, st_s, h_s) = some w_s) (hn : noR (op_s, len_s, a_s, b_s, c_s, v_s, sw_s) = true) : rfO (op_s, len_s, a_s, b_s, c_s, v_s, sw_s) (pc, lo_s, st_s, h_s) w_s := by
  match op_s, hw, hn with
  | 0, hw, _ => exact rf_0 hw
  | 1, hw, _ => exact rf_1 hw
  | 2, hw, _ => exact rf_2 hw
  | 3, hw, _ => exact rf_3 hw
  | 4, hw, _ => exact rf_4 hw
  | 5, hw, _ => exact rf_5 hw
  | 6, hw, _ => exact rf_6 hw
  | 7, hw, _ => exact rf_7 hw
  | 8, hw, _ => exact rf_8 hw
  | 9, hw, _ => exact rf_9 hw
  | 10, hw, _ => exact rf_10 hw
  | 11, hw, _ => exact rf_11 hw
  | 12, hw, _ => exact rf_12 hw
  | 13, hw, _ => exact rf_13 hw
  | 14, hw, _ => exact rf_14 hw
  | 15, hw, _ => exact rf_15 hw
  | 16, hw, _ => exact rf_16 hw
  | 17, hw, _ => exact rf_17 hw
  | 18, hw, _ => exact rf_18 hw
  | 19, hw, _ => exact rf_19 hw
  | 20, hw, _ => exact rf_20 hw
  | 21, hw, hn => exact rf_21 (fun e1_s => by rw [e1_s] at hn; exact absurd hn Bool.false_ne_true) hw
  | 22, hw, _ => exact rf_22 hw
  | 23, hw, _ => exact rf_23 hw
  | 24, hw, _ => exact rf_24 hw
  | 25, hw, _ => exact rf_25 hw
  | 26, hw, _ => exact rf_26 hw
  | 27, _, hn => exact absurd (show false = true from hn) Bool.false_ne_true
  | 28, hw, _ => exact rf_28 hw
  | 29, _, hn => exact absurd (show false = true from hn) Bool.false_ne_true
  | 30, _, hn => exact absurd (show false = true from hn) Bool.false_ne_true
  | 31, hw, _ => exact rf_31 hw
  | 32, hw, _ => exact rf_32 hw
  | 33, hw, _ => exact rf_33 hw
  | 34, hw, _ => exact rf_34 hw
  | 35, hw, _ => exact rf_35 hw
  | 36, hw, _ => exact rf_36 hw
  | 37, hw, _ => exact rf_37 hw
  | 38, hw, _ => exact rf_38 hw
  | 39, hw, _ => exact rf_39 hw
  | 40, hw, _ => exact rf_40 hw
  | 41, hw, _ => exact rf_41 hw
  | 42, hw, _ => exact rf_42 hw
  | 43, hw, _ => exact rf_43 hw
  | 44, hw, _ => exact rf_44 hw
  | n_s + 45, hw, _ =>
    have hw : (none : Option zO) = some w_s := hw
    cases hw
end RF
def rfX (mi : Nat) : Bool := [0, 8, 13, 34, 47, 52, 61, 73, 75, 81, 88, 92, 101, 147, 241].any (fun k_s => Nat.beq mi k_s)
def jX (mi : Nat) : Bool := [9, 10, 77, 89, 90, 91, 98, 105, 121, 122, 129, 130, 132, 230, 233, 235, 239, 241].any (fun k_s => Nat.beq mi k_s)
def rty (mi : Nat) : Nat := bif [9, 10, 11, 12, 21, 25, 35, 36, 41, 42, 48, 53, 54, 55, 57, 76, 77, 83, 87, 89, 90, 91, 158, 178, 183, 188, 192, 198, 210, 221, 239, 240].any (fun k_s => Nat.beq mi k_s) then 38 else bif [80, 131, 232, 234].any (fun k_s => Nat.beq mi k_s) then 36 else bif Nat.beq mi 139 then 37 else 35
def rfE (mi : Nat) (e_s : zI) : Bool := (noR e_s && (!Nat.beq e_s.1 32 || !rfX e_s.2.2.1)) && ((jX mi || (noJ e_s && (!Nat.beq e_s.1 32 || !jX e_s.2.2.1))) && (!(Nat.ble 35 e_s.1 && Nat.ble e_s.1 38) || Nat.beq e_s.1 (rty mi)))
def rfC (mi : Nat) (t_s : List (List (Option zI))) : Bool := t_s.all (fun r_s => r_s.all (fun o => match o with
  | none => true
  | some e_s => rfE mi e_s))
def rfA : Bool := (List.range 16).all (fun g_s => match zget zia g_s with
  | none => true
  | some l => (List.range 16).all (fun j_s => rfX (16 * g_s + j_s) || (match zget l j_s with
    | none => true
    | some t_s => rfC (16 * g_s + j_s) t_s)))
theorem rfA_ok : rfA = true := by decide +kernel
theorem zia_lt {g_s : Nat} {l : List (List (List (Option zI)))} (h_s : zget zia g_s = some l) : g_s < 16 := Nat.lt_of_lt_of_le (zget_lt h_s) (by decide +kernel)
theorem rf_zi {mi pc : Nat} {e_s : zI} (h_s : zi mi pc = some e_s) (hm_s : rfX mi = false) : rfE mi e_s = true := by
  unfold zi at h_s
  split at h_s
  · rename_i l hl
    split at h_s
    · rename_i t_s ht
      split at h_s
      · rename_i r_s hr
        split at h_s
        · rename_i o ho
          subst h_s
          have u_s := rfA_ok
          unfold rfA at u_s
          have u1_s := List.all_eq_true.mp u_s (mi / 16) (List.mem_range.mpr (zia_lt hl))
          rw [hl] at u1_s
          have u2_s := List.all_eq_true.mp u1_s (mi % 16) (List.mem_range.mpr (Nat.mod_lt _ (by omega)))
          rw [show 16 * (mi / 16) + mi % 16 = mi by omega, hm_s, ht, Bool.false_or] at u2_s
          exact List.all_eq_true.mp (List.all_eq_true.mp u2_s r_s (zget_mem hr)) _ (zget_mem ho)
        · cases h_s
      · cases h_s
    · cases h_s
  · cases h_s
theorem rf_run : ∀ (f_s d_s mi : Nat) (x_s : zC) (r_s : Option Value) (h1 : zH), rfX mi = false → zr f_s d_s mi 100000 x_s = some (.inr (r_s, h1)) → (h1.1 = x_s.2.2.2.1 ∧ h1.2.2.2 = x_s.2.2.2.2.2.2) ∧ (jX mi = false → h1.2.2.1 = x_s.2.2.2.2.2.1) ∧ (rty mi = 35 → ∃ v_s, r_s = some (.int v_s)) ∧ (rty mi = 36 → ∃ v_s, r_s = some (.long v_s)) ∧ (rty mi = 38 → r_s = none)
  | 0, _, _, _, _, _, _, h_s => by cases h_s
  | f_s + 1, d_s, mi, x_s, r_s, h1, hm_s, h_s => by
    rcases zr_step h_s with ⟨_, e2_s⟩ | ⟨e_s, he, hq⟩
    · cases e2_s
    · have u_s := rf_zi he hm_s
      obtain ⟨op_s, len_s, a0_s, b_s, c_s, v_s, sw_s⟩ := e_s
      obtain ⟨pc, lo_s, st_s, h0⟩ := x_s
      unfold rfE at u_s
      rw [Bool.and_eq_true, Bool.and_eq_true, Bool.and_eq_true] at u_s
      obtain ⟨⟨n1_s, n2_s⟩, n3_s, n4_s⟩ := u_s
      have n3_s : jX mi = false → noJ (op_s, len_s, a0_s, b_s, c_s, v_s, sw_s) = true ∧ (op_s = 32 → jX a0_s = false) := fun hj => by
        rw [hj, Bool.false_or, Bool.and_eq_true] at n3_s
        refine ⟨n3_s.1, fun e1_s => ?_⟩
        have n5_s := n3_s.2
        dsimp only at n5_s
        rw [e1_s] at n5_s
        have n5_s : (false || !jX a0_s) = true := n5_s
        rw [Bool.false_or, Bool.not_eq_true'] at n5_s
        exact n5_s
      rcases hq with ⟨y_s, hy, hz⟩ | ⟨r1_s, hy, e2_s⟩ | ⟨a_s, as_s, y_s, d1_s, r1_s, h2, hy, _, _, h3, h4⟩
      · obtain ⟨q1_s, q2_s, q3_s⟩ := rf_step hy n1_s
        obtain ⟨⟨p1_s, p2_s⟩, p3_s, p4_s⟩ := rf_run f_s d_s mi y_s r_s h1 hm_s hz
        exact ⟨⟨p1_s.trans q1_s, p2_s.trans q2_s⟩, fun hj => (p3_s hj).trans (q3_s (n3_s hj).1), p4_s⟩
      · obtain ⟨q1_s, q2_s, q3_s, q4_s⟩ := rf_step hy n1_s
        cases e2_s
        have q1_s : 35 ≤ op_s ∧ op_s ≤ 38 := q1_s
        have e1_s : op_s = rty mi := by
          have n5_s : (!(Nat.ble 35 op_s && Nat.ble op_s 38) || Nat.beq op_s (rty mi)) = true := n4_s
          rw [Nat.ble_eq.mpr q1_s.1, Nat.ble_eq.mpr q1_s.2] at n5_s
          have n5_s : (false || Nat.beq op_s (rty mi)) = true := n5_s
          rw [Bool.false_or] at n5_s
          exact Nat.eq_of_beq_eq_true n5_s
        exact ⟨⟨rfl, rfl⟩, fun _ => rfl, fun w_s => q2_s (e1_s.trans w_s), fun w_s => q3_s (e1_s.trans w_s), fun w_s => q4_s (e1_s.trans w_s)⟩
      · obtain ⟨q1_s, q2_s, q3_s⟩ := rf_step hy n1_s
        have q2_s : op_s = 32 := q2_s
        have q3_s : a0_s = a_s := q3_s
        subst q2_s
        subst q3_s
        have n5_s : (false || !rfX a0_s) = true := n2_s
        rw [Bool.false_or, Bool.not_eq_true'] at n5_s
        have q1_s : y_s.2.2.2 = h0 := q1_s
        obtain ⟨⟨p1_s, p2_s⟩, p3_s, _⟩ := rf_run f_s d1_s a0_s _ r1_s h2 n5_s h3
        obtain ⟨⟨s1_s, s2_s⟩, s3_s, s4_s⟩ := rf_run f_s (d1_s + 1) mi _ r_s h1 hm_s h4
        exact ⟨⟨s1_s.trans p1_s, s2_s.trans p2_s⟩, fun hj => (s3_s hj).trans (p3_s ((n3_s hj).2 rfl)), s4_s⟩
theorem hKn_of {h_s h1 : zH} (hk : hKn h_s) (e1_s : h1.1 = h_s.1) (e2_s : h1.2.2.2 = h_s.2.2.2) : hKn h1 := by
  refine ⟨?_, ?_⟩
  · rw [e1_s]
    exact hk.1
  · rw [e2_s]
    exact hk.2
section PU_s
variable {F_s mi : Nat} {pc : Nat} {lo_s : List (Option Value)} {st_s : List Value} {h_s : zH}
/-- a call of which nothing is wanted but that it leaves longs, shapes, references -/
theorem wPI (hk : hKn h_s) (hm_s : rfX mi = false) (hj : jX mi = false) (ht : rty mi = 35) : wF F_s mi (pc, lo_s, st_s, h_s) (gI (fun _ h1 => h1.2.2.1 = h_s.2.2.1)) := by
  intro f_s d_s r_s h1 _ hr
  obtain ⟨⟨p1_s, p2_s⟩, p3_s, p4_s, _, _⟩ := rf_run f_s d_s mi _ r_s h1 hm_s hr
  obtain ⟨v_s, p4_s⟩ := p4_s ht
  exact ⟨v_s, p4_s, hKn_of hk p1_s p2_s, p3_s hj⟩
theorem wPV (hk : hKn h_s) (hm_s : rfX mi = false) (hj : jX mi = false) (ht : rty mi = 38) : wF F_s mi (pc, lo_s, st_s, h_s) (gV (fun h1 => h1.2.2.1 = h_s.2.2.1)) := by
  intro f_s d_s r_s h1 _ hr
  obtain ⟨⟨p1_s, p2_s⟩, p3_s, _, _, p4_s⟩ := rf_run f_s d_s mi _ r_s h1 hm_s hr
  exact ⟨p4_s ht, hKn_of hk p1_s p2_s, p3_s hj⟩
end PU_s
