/-! WHAT ENDED RUNS GIVE: rules over runs of the small machine that have come to an end (nothing is owed of bounds: a run that ended met them). -/
def wF (F_s mi : Nat) (x_s : zC) (G_s : Option Value → zH → Prop) : Prop := ∀ f_s d_s r_s h1, f_s < F_s → zr f_s d_s mi 100000 x_s = some (.inr (r_s, h1)) → G_s r_s h1
def hKn (h_s : zH) : Prop := aShp kS h_s.1 ∧ aRf krf h_s.2.2.2
def gI (K_s : Int32 → zH → Prop) : Option Value → zH → Prop := fun r_s h1 => ∃ v_s, r_s = some (.int v_s) ∧ hKn h1 ∧ K_s v_s h1
def gJ (K_s : Int64 → zH → Prop) : Option Value → zH → Prop := fun r_s h1 => ∃ v_s, r_s = some (.long v_s) ∧ hKn h1 ∧ K_s v_s h1
def gR (K_s : Nat → zH → Prop) : Option Value → zH → Prop := fun r_s h1 => ∃ v_s, r_s = some (.ref v_s) ∧ hKn h1 ∧ K_s v_s h1
def gV (K_s : zH → Prop) : Option Value → zH → Prop := fun r_s h1 => r_s = none ∧ hKn h1 ∧ K_s h1
theorem wF_zero {mi : Nat} {x_s : zC} {G_s : Option Value → zH → Prop} : wF 0 mi x_s G_s := fun f_s _ _ _ hf _ => absurd hf (Nat.not_lt_zero f_s)
theorem wF_le {F_s F' mi : Nat} {x_s : zC} {G_s : Option Value → zH → Prop} (hl : F' ≤ F_s) (w_s : wF F_s mi x_s G_s) : wF F' mi x_s G_s := fun f_s d_s r_s h1 hf hr => w_s f_s d_s r_s h1 (Nat.lt_of_lt_of_le hf hl) hr
theorem wF_mono {F_s mi : Nat} {x_s : zC} {G_s G' : Option Value → zH → Prop} (w_s : wF F_s mi x_s G_s) (hg : ∀ r_s h1, G_s r_s h1 → G' r_s h1) : wF F_s mi x_s G' := fun f_s d_s r_s h1 hf hr => hg r_s h1 (w_s f_s d_s r_s h1 hf hr)
theorem wF_all {mi : Nat} {x_s : zC} {G_s : Option Value → zH → Prop} (w_s : ∀ F_s, wF F_s mi x_s G_s) {f_s d_s : Nat} {r_s : Option Value} {h1 : zH} (hr : zr f_s d_s mi 100000 x_s = some (.inr (r_s, h1))) : G_s r_s h1 := w_s (f_s + 1) f_s d_s r_s h1 (Nat.lt_succ_self f_s) hr
section W1_s
variable {F_s mi pc len_s : Nat} {lo_s : List (Option Value)} {st_s : List Value} {h_s : zH} {G_s : Option Value → zH → Prop} {e_s : zI}
theorem w_0 {y_s : zC} (hi_s : zi mi pc = some e_s) (hs : ∀ w_s, zstep e_s (pc, lo_s, st_s, h_s) = some w_s → w_s = .inl y_s) (k_s : wF F_s mi y_s G_s) : wF (F_s + 1) mi (pc, lo_s, st_s, h_s) G_s := by
  intro f_s d_s r_s h1 hf hr
  cases f_s with
  | zero => cases hr
  | succ f_s =>
    rcases zr_step hr with ⟨_, e2_s⟩ | ⟨e1_s, he, hq⟩
    · cases e2_s
    · have he : zi mi pc = some e1_s := he
      rw [hi_s] at he
      cases he
      rcases hq with ⟨y1, hy, hz⟩ | ⟨r1_s, hy, _⟩ | ⟨a1_s, as1, y1, d1_s, r1_s, h2, hy, _⟩
      · have q_s := hs _ hy
        cases q_s
        exact k_s f_s d_s r_s h1 (by omega) hz
      · have q_s := hs _ hy
        cases q_s
      · have q_s := hs _ hy
        cases q_s
theorem w_t {y_s : zC} (hi_s : zi mi pc = some e_s) (hs : ∀ w_s, zstep e_s (pc, lo_s, st_s, h_s) = some w_s → w_s = .inl y_s) (k_s : wF F_s mi y_s G_s) : wF F_s mi (pc, lo_s, st_s, h_s) G_s := wF_le (Nat.le_succ F_s) (w_0 hi_s hs k_s)
theorem w_r {r0 : Option Value} (hi_s : zi mi pc = some e_s) (hs : ∀ w_s, zstep e_s (pc, lo_s, st_s, h_s) = some w_s → w_s = .inr (.inr r0)) (k_s : G_s r0 h_s) : wF F_s mi (pc, lo_s, st_s, h_s) G_s := by
  intro f_s d_s r_s h1 hf hr
  cases f_s with
  | zero => cases hr
  | succ f_s =>
    rcases zr_step hr with ⟨_, e2_s⟩ | ⟨e1_s, he, hq⟩
    · cases e2_s
    · have he : zi mi pc = some e1_s := he
      rw [hi_s] at he
      cases he
      rcases hq with ⟨y1, hy, _⟩ | ⟨r1_s, hy, e2_s⟩ | ⟨a1_s, as1, y1, d1_s, r1_s, h2, hy, _⟩
      · have q_s := hs _ hy
        cases q_s
      · have q_s := hs _ hy
        cases q_s
        cases e2_s
        exact k_s
      · have q_s := hs _ hy
        cases q_s
theorem w_c {a_s : Nat} {as_s : List Value} {y_s : zC} (hi_s : zi mi pc = some e_s) (hs : ∀ w_s, zstep e_s (pc, lo_s, st_s, h_s) = some w_s → w_s = .inr (.inl (a_s, as_s, y_s))) (k_s : wF F_s a_s (0, zpad (zL a_s) (zargs as_s), [], h_s) (fun r_s h1 => wF F_s mi (y_s.1, y_s.2.1, r_s.toList ++ y_s.2.2.1, h1) G_s)) : wF F_s mi (pc, lo_s, st_s, h_s) G_s := by
  intro f_s d_s r_s h1 hf hr
  cases f_s with
  | zero => cases hr
  | succ f_s =>
    rcases zr_step hr with ⟨_, e2_s⟩ | ⟨e1_s, he, hq⟩
    · cases e2_s
    · have he : zi mi pc = some e1_s := he
      rw [hi_s] at he
      cases he
      rcases hq with ⟨y1, hy, _⟩ | ⟨r1_s, hy, _⟩ | ⟨a1_s, as1, y1, d1_s, r1_s, h2, hy, _, _, h3, h4⟩
      · have q_s := hs _ hy
        cases q_s
      · have q_s := hs _ hy
        cases q_s
      · have q_s := hs _ hy
        cases q_s
        exact k_s f_s d1_s r1_s h2 (by omega) h3 f_s (d1_s + 1) r_s h1 (by omega) h4
theorem u_ {w0_s : zO} {x_s : zC} (hz : zstep e_s x_s = some w0_s) : ∀ w_s, zstep e_s x_s = some w_s → w_s = w0_s := by
  intro w_s hw
  rw [hz] at hw
  cases hw
  rfl
end W1_s
theorem cnd_some {α : Type} {c_s : Bool} {a_s : Option α} {w_s : α} (hw : (bif c_s then a_s else none) = some w_s) : c_s = true ∧ a_s = some w_s := by
  cases c_s
  · cases hw
  · exact ⟨rfl, hw⟩
/-! a step of those operations that look at a cell's shape: an ended run has met what they look at -/
section W2_s
variable {F_s mi pc len_s a_s b_s n_s o q_s : Nat} {lo_s : List (Option Value)} {st_s : List Value} {h_s : zH} {G_s : Option Value → zH → Prop} {v_s : Value} {sw_s : List (Int32 × Nat)} {x_s y_s i_s : Int32} {z_s : Int64} {w_s : zO}
theorem u20 (hw : zstep (20, len_s, a_s, b_s, 0, v_s, sw_s) (pc, lo_s, .ref o :: st_s, h_s) = some w_s) : w_s = .inl (pc + len_s, lo_s, .int (h_s.2.1 o b_s) :: st_s, h_s) := by
  have hw : zs20 len_s a_s b_s 0 (pc, lo_s, .ref o :: st_s, h_s) = some w_s := hw
  simp only [zs20] at hw
  split at hw
  · have q2_s : some (Sum.inl (pc + len_s, lo_s, Value.int (h_s.2.1 o b_s) :: st_s, h_s)) = some w_s := (cnd_some hw).2
    cases q2_s
    rfl
  · cases hw
theorem u20b (hw : zstep (20, len_s, a_s, b_s, 2, v_s, sw_s) (pc, lo_s, .ref o :: st_s, h_s) = some w_s) : w_s = .inl (pc + len_s, lo_s, .int (h_s.2.1 o b_s) :: st_s, h_s) := by
  have hw : zs20 len_s a_s b_s 2 (pc, lo_s, .ref o :: st_s, h_s) = some w_s := hw
  simp only [zs20] at hw
  split at hw
  · have q2_s : some (Sum.inl (pc + len_s, lo_s, Value.int (h_s.2.1 o b_s) :: st_s, h_s)) = some w_s := (cnd_some hw).2
    cases q2_s
    rfl
  · cases hw
theorem u20r (hq : h_s.2.2.2 o b_s = some q_s) (hw : zstep (20, len_s, a_s, b_s, 1, v_s, sw_s) (pc, lo_s, .ref o :: st_s, h_s) = some w_s) : w_s = .inl (pc + len_s, lo_s, .ref q_s :: st_s, h_s) := by
  have hw : zs20 len_s a_s b_s 1 (pc, lo_s, .ref o :: st_s, h_s) = some w_s := hw
  simp only [zs20] at hw
  split at hw
  · have q2_s : some (Sum.inl (pc + len_s, lo_s, va_rf (h_s.2.2.2 o b_s) :: st_s, h_s)) = some w_s := (cnd_some hw).2
    rw [hq] at q2_s
    cases q2_s
    rfl
  · cases hw
theorem u21 (hw : zstep (21, len_s, a_s, b_s, 0, v_s, sw_s) (pc, lo_s, .int x_s :: .ref o :: st_s, h_s) = some w_s) : w_s = .inl (pc + len_s, lo_s, st_s, (h_s.1, zup h_s.2.1 o b_s x_s, h_s.2.2.1, h_s.2.2.2)) := by
  have hw : zs21 len_s a_s b_s 0 (pc, lo_s, .int x_s :: .ref o :: st_s, h_s) = some w_s := hw
  simp only [zs21] at hw
  split at hw
  · have q2_s : some (Sum.inl (pc + len_s, lo_s, st_s, (h_s.1, zup h_s.2.1 o b_s x_s, h_s.2.2.1, h_s.2.2.2))) = some w_s := (cnd_some hw).2
    cases q2_s
    rfl
  · cases hw
theorem u21b (hw : zstep (21, len_s, a_s, b_s, 2, v_s, sw_s) (pc, lo_s, .int x_s :: .ref o :: st_s, h_s) = some w_s) : w_s = .inl (pc + len_s, lo_s, st_s, (h_s.1, zup h_s.2.1 o b_s x_s, h_s.2.2.1, h_s.2.2.2)) := by
  have hw : zs21 len_s a_s b_s 2 (pc, lo_s, .int x_s :: .ref o :: st_s, h_s) = some w_s := hw
  simp only [zs21] at hw
  split at hw
  · have q2_s : (if x_s = 0 ∨ x_s = 1 then zgo (pc + len_s, lo_s, st_s, (h_s.1, zup h_s.2.1 o b_s x_s, h_s.2.2.1, h_s.2.2.2)) else none) = some w_s := (cnd_some hw).2
    split at q2_s
    · have q3_s : some (Sum.inl (pc + len_s, lo_s, st_s, (h_s.1, zup h_s.2.1 o b_s x_s, h_s.2.2.1, h_s.2.2.2))) = some w_s := q2_s
      cases q3_s
      rfl
    · cases q2_s
  · cases hw
theorem u21r (hw : zstep (21, len_s, a_s, b_s, 1, v_s, sw_s) (pc, lo_s, .ref q_s :: .ref o :: st_s, h_s) = some w_s) : w_s = .inl (pc + len_s, lo_s, st_s, (h_s.1, h_s.2.1, h_s.2.2.1, zup h_s.2.2.2 o b_s (some q_s))) := by
  have hw : zs21 len_s a_s b_s 1 (pc, lo_s, .ref q_s :: .ref o :: st_s, h_s) = some w_s := hw
  simp only [zs21] at hw
  split at hw
  · have q2_s : some (Sum.inl (pc + len_s, lo_s, st_s, (h_s.1, h_s.2.1, h_s.2.2.1, zup h_s.2.2.2 o b_s (some q_s)))) = some w_s := (cnd_some hw).2
    cases q2_s
    rfl
  · cases hw
theorem u22 (hw : zstep (22, len_s, a_s, b_s, n_s, v_s, sw_s) (pc, lo_s, .int i_s :: .ref o :: st_s, h_s) = some w_s) : w_s = .inl (pc + len_s, lo_s, .int (h_s.2.1 o (zix i_s)) :: st_s, h_s) ∧ ∃ t_s m_s, zget h_s.1 o = some (t_s, m_s) ∧ zix i_s < m_s := by
  have hw : zs22 len_s (pc, lo_s, .int i_s :: .ref o :: st_s, h_s) = some w_s := hw
  simp only [zs22] at hw
  split at hw
  · rename_i t_s m_s hz
    have q1_s := cnd_some hw
    have q2_s : some (Sum.inl (pc + len_s, lo_s, Value.int (h_s.2.1 o (zix i_s)) :: st_s, h_s)) = some w_s := q1_s.2
    have q3_s := q1_s.1
    rw [Bool.and_eq_true, Nat.blt_eq] at q3_s
    cases q2_s
    exact ⟨rfl, t_s, m_s, hz, q3_s.2⟩
  · cases hw
theorem u23 (hw : zstep (23, len_s, a_s, b_s, n_s, v_s, sw_s) (pc, lo_s, .int i_s :: .ref o :: st_s, h_s) = some w_s) : w_s = .inl (pc + len_s, lo_s, .long (h_s.2.2.1 o (zix i_s)) :: st_s, h_s) ∧ ∃ t_s m_s, zget h_s.1 o = some (t_s, m_s) ∧ zix i_s < m_s := by
  have hw : zs23 len_s (pc, lo_s, .int i_s :: .ref o :: st_s, h_s) = some w_s := hw
  simp only [zs23] at hw
  split at hw
  · rename_i t_s m_s hz
    have q1_s := cnd_some hw
    have q2_s : some (Sum.inl (pc + len_s, lo_s, Value.long (h_s.2.2.1 o (zix i_s)) :: st_s, h_s)) = some w_s := q1_s.2
    have q3_s := q1_s.1
    rw [Bool.and_eq_true, Nat.blt_eq] at q3_s
    cases q2_s
    exact ⟨rfl, t_s, m_s, hz, q3_s.2⟩
  · cases hw
theorem u24 (hw : zstep (24, len_s, a_s, b_s, n_s, v_s, sw_s) (pc, lo_s, .int i_s :: .ref o :: st_s, h_s) = some w_s) : w_s = .inl (pc + len_s, lo_s, va_rf (h_s.2.2.2 o (zix i_s)) :: st_s, h_s) ∧ ∃ t_s m_s, zget h_s.1 o = some (t_s, m_s) ∧ zix i_s < m_s := by
  have hw : zs24 len_s (pc, lo_s, .int i_s :: .ref o :: st_s, h_s) = some w_s := hw
  simp only [zs24] at hw
  split at hw
  · rename_i t_s m_s hz
    have q1_s := cnd_some hw
    have q2_s : some (Sum.inl (pc + len_s, lo_s, va_rf (h_s.2.2.2 o (zix i_s)) :: st_s, h_s)) = some w_s := q1_s.2
    have q3_s := q1_s.1
    rw [Bool.and_eq_true, Nat.blt_eq] at q3_s
    cases q2_s
    exact ⟨rfl, t_s, m_s, hz, q3_s.2⟩
  · cases hw
theorem u25 (hw : zstep (25, len_s, a_s, b_s, n_s, v_s, sw_s) (pc, lo_s, .int x_s :: .int i_s :: .ref o :: st_s, h_s) = some w_s) : w_s = .inl (pc + len_s, lo_s, st_s, (h_s.1, zup h_s.2.1 o (zix i_s) x_s, h_s.2.2.1, h_s.2.2.2)) ∧ ∃ t_s m_s, zget h_s.1 o = some (t_s, m_s) ∧ zix i_s < m_s := by
  have hw : zs25 len_s (pc, lo_s, .int x_s :: .int i_s :: .ref o :: st_s, h_s) = some w_s := hw
  simp only [zs25] at hw
  split at hw
  · rename_i t_s m_s hz
    have q1_s := cnd_some hw
    have q2_s : some (Sum.inl (pc + len_s, lo_s, st_s, (h_s.1, zup h_s.2.1 o (zix i_s) x_s, h_s.2.2.1, h_s.2.2.2))) = some w_s := q1_s.2
    have q3_s := q1_s.1
    rw [Bool.and_eq_true, Nat.blt_eq] at q3_s
    cases q2_s
    exact ⟨rfl, t_s, m_s, hz, q3_s.2⟩
  · cases hw
theorem u26 (hw : zstep (26, len_s, a_s, b_s, n_s, v_s, sw_s) (pc, lo_s, .long z_s :: .int i_s :: .ref o :: st_s, h_s) = some w_s) : w_s = .inl (pc + len_s, lo_s, st_s, (h_s.1, h_s.2.1, zup h_s.2.2.1 o (zix i_s) z_s, h_s.2.2.2)) ∧ ∃ t_s m_s, zget h_s.1 o = some (t_s, m_s) ∧ zix i_s < m_s := by
  have hw : zs26 len_s (pc, lo_s, .long z_s :: .int i_s :: .ref o :: st_s, h_s) = some w_s := hw
  simp only [zs26] at hw
  split at hw
  · rename_i t_s m_s hz
    have q1_s := cnd_some hw
    have q2_s : some (Sum.inl (pc + len_s, lo_s, st_s, (h_s.1, h_s.2.1, zup h_s.2.2.1 o (zix i_s) z_s, h_s.2.2.2))) = some w_s := q1_s.2
    have q3_s := q1_s.1
    rw [Bool.and_eq_true, Nat.blt_eq] at q3_s
    cases q2_s
    exact ⟨rfl, t_s, m_s, hz, q3_s.2⟩
  · cases hw
theorem u28 {t_s m_s : Nat} (hz : zget h_s.1 o = some (t_s, m_s)) (hw : zstep (28, len_s, a_s, b_s, n_s, v_s, sw_s) (pc, lo_s, .ref o :: st_s, h_s) = some w_s) : w_s = .inl (pc + len_s, lo_s, .int (Int32.ofNat m_s) :: st_s, h_s) := by
  have hw : zs28 len_s (pc, lo_s, .ref o :: st_s, h_s) = some w_s := hw
  simp only [zs28] at hw
  rw [hz] at hw
  have q2_s : some (Sum.inl (pc + len_s, lo_s, Value.int (Int32.ofNat m_s) :: st_s, h_s)) = some w_s := (cnd_some hw).2
  cases q2_s
  rfl
theorem u8 (hw : zstep (8, len_s, a_s, 0, n_s, v_s, sw_s) (pc, lo_s, .int y_s :: .int x_s :: st_s, h_s) = some w_s) : w_s = .inl (pc + len_s, lo_s, .int (x_s / y_s) :: st_s, h_s) := by
  have hw : zs8 len_s 0 (pc, lo_s, .int y_s :: .int x_s :: st_s, h_s) = some w_s := hw
  simp only [zs8] at hw
  split at hw
  · cases hw
  · have q2_s : some (Sum.inl (pc + len_s, lo_s, Value.int (x_s / y_s) :: st_s, h_s)) = some w_s := hw
    cases q2_s
    rfl
theorem u8m (hw : zstep (8, len_s, a_s, 1, n_s, v_s, sw_s) (pc, lo_s, .int y_s :: .int x_s :: st_s, h_s) = some w_s) : w_s = .inl (pc + len_s, lo_s, .int (x_s - x_s / y_s * y_s) :: st_s, h_s) := by
  have hw : zs8 len_s 1 (pc, lo_s, .int y_s :: .int x_s :: st_s, h_s) = some w_s := hw
  simp only [zs8] at hw
  split at hw
  · cases hw
  · have q2_s : some (Sum.inl (pc + len_s, lo_s, Value.int (x_s - x_s / y_s * y_s) :: st_s, h_s)) = some w_s := hw
    cases q2_s
    rfl
theorem u32 {c_s : Nat} {as_s r_s : List Value} (ht : ztake b_s [] st_s = some (as_s, r_s)) (hw : zstep (32, len_s, a_s, b_s, c_s, v_s, sw_s) (pc, lo_s, st_s, h_s) = some w_s) : w_s = .inr (.inl (a_s, as_s, (pc + len_s, lo_s, r_s, h_s))) := by
  have hw : zs32 len_s a_s b_s (c_s % 4) (c_s / 4) (pc, lo_s, st_s, h_s) = some w_s := hw
  simp only [zs32] at hw
  rw [ht] at hw
  dsimp only at hw
  have hw := (cnd_some hw).2
  split at hw
  · cases hw
    rfl
  · split at hw
    · split at hw
      · have q2_s := (cnd_some hw).2
        cases q2_s
        rfl
      · cases hw
    · cases hw
theorem u35 {c_s : Nat} (hw : zstep (35, len_s, a_s, b_s, c_s, v_s, sw_s) (pc, lo_s, [.int x_s], h_s) = some w_s) : w_s = .inr (.inr (some (.int x_s))) := by
  have hw : zs35 c_s (pc, lo_s, [.int x_s], h_s) = some w_s := hw
  simp only [zs35] at hw
  split at hw
  · split at hw
    · cases hw
      rfl
    · cases hw
  · cases hw
    rfl
theorem u34i {m1_s m2_s : Nat} {i0_s i1_s i2_s : Int32} {o0_s : Nat} (h0 : zget h_s.1 o0_s = some (0, m1_s)) (h1 : zget h_s.1 o = some (0, m2_s)) (hw : zstep (34, len_s, a_s, b_s, n_s, v_s, sw_s) (pc, lo_s, .int i2_s :: .int i1_s :: .ref o :: .int i0_s :: .ref o0_s :: st_s, h_s) = some w_s) : w_s = .inl (pc + len_s, lo_s, st_s, (h_s.1, zrow h_s.2.1 o (zcpy (h_s.2.1 o0_s) (h_s.2.1 o) (zix i0_s) (zix i1_s) (zix i2_s)), h_s.2.2.1, h_s.2.2.2)) ∧ zix i0_s + zix i2_s ≤ m1_s ∧ zix i1_s + zix i2_s ≤ m2_s := by
  have hw : zs34 len_s (pc, lo_s, .int i2_s :: .int i1_s :: .ref o :: .int i0_s :: .ref o0_s :: st_s, h_s) = some w_s := hw
  simp only [zs34] at hw
  rw [h0, h1] at hw
  dsimp only at hw
  have q1_s := cnd_some hw
  have q2_s : some (Sum.inl (pc + len_s, lo_s, st_s, (h_s.1, zrow h_s.2.1 o (zcpy (h_s.2.1 o0_s) (h_s.2.1 o) (zix i0_s) (zix i1_s) (zix i2_s)), h_s.2.2.1, h_s.2.2.2))) = some w_s := q1_s.2
  have q3_s := q1_s.1
  simp only [Bool.and_eq_true, Nat.ble_eq] at q3_s
  cases q2_s
  exact ⟨rfl, q3_s.1.2⟩
theorem u34l {m1_s m2_s : Nat} {i0_s i1_s i2_s : Int32} {o0_s : Nat} (h0 : zget h_s.1 o0_s = some (1, m1_s)) (h1 : zget h_s.1 o = some (1, m2_s)) (hw : zstep (34, len_s, a_s, b_s, n_s, v_s, sw_s) (pc, lo_s, .int i2_s :: .int i1_s :: .ref o :: .int i0_s :: .ref o0_s :: st_s, h_s) = some w_s) : w_s = .inl (pc + len_s, lo_s, st_s, (h_s.1, h_s.2.1, zrow h_s.2.2.1 o (zcpy (h_s.2.2.1 o0_s) (h_s.2.2.1 o) (zix i0_s) (zix i1_s) (zix i2_s)), h_s.2.2.2)) ∧ zix i0_s + zix i2_s ≤ m1_s ∧ zix i1_s + zix i2_s ≤ m2_s := by
  have hw : zs34 len_s (pc, lo_s, .int i2_s :: .int i1_s :: .ref o :: .int i0_s :: .ref o0_s :: st_s, h_s) = some w_s := hw
  simp only [zs34] at hw
  rw [h0, h1] at hw
  dsimp only at hw
  have q1_s := cnd_some hw
  have q2_s : some (Sum.inl (pc + len_s, lo_s, st_s, (h_s.1, h_s.2.1, zrow h_s.2.2.1 o (zcpy (h_s.2.2.1 o0_s) (h_s.2.2.1 o) (zix i0_s) (zix i1_s) (zix i2_s)), h_s.2.2.2))) = some w_s := q1_s.2
  have q3_s := q1_s.1
  simp only [Bool.and_eq_true, Nat.ble_eq] at q3_s
  cases q2_s
  exact ⟨rfl, q3_s.1.2⟩
end W2_s
/-! the rules, an operation each: what goes on from there -/
section W3
variable {F_s mi pc len_s a_s b_s c_s n_s o q_s t_s m_s : Nat} {lo_s : List (Option Value)} {st_s : List Value} {h_s : zH} {G_s : Option Value → zH → Prop} {v_s : Value} {sw_s : List (Int32 × Nat)} {x_s y_s i_s : Int32} {z_s : Int64}
theorem w20 (hi_s : zi mi pc = some (20, len_s, a_s, b_s, 0, v_s, sw_s)) (k_s : wF F_s mi (pc + len_s, lo_s, .int (h_s.2.1 o b_s) :: st_s, h_s) G_s) : wF F_s mi (pc, lo_s, .ref o :: st_s, h_s) G_s := w_t hi_s (fun _ hw => u20 hw) k_s
theorem w20b (hi_s : zi mi pc = some (20, len_s, a_s, b_s, 2, v_s, sw_s)) (k_s : wF F_s mi (pc + len_s, lo_s, .int (h_s.2.1 o b_s) :: st_s, h_s) G_s) : wF F_s mi (pc, lo_s, .ref o :: st_s, h_s) G_s := w_t hi_s (fun _ hw => u20b hw) k_s
theorem w20r (hi_s : zi mi pc = some (20, len_s, a_s, b_s, 1, v_s, sw_s)) (hq : h_s.2.2.2 o b_s = some q_s) (k_s : wF F_s mi (pc + len_s, lo_s, .ref q_s :: st_s, h_s) G_s) : wF F_s mi (pc, lo_s, .ref o :: st_s, h_s) G_s := w_t hi_s (fun _ hw => u20r hq hw) k_s
theorem w21 (hi_s : zi mi pc = some (21, len_s, a_s, b_s, 0, v_s, sw_s)) (k_s : wF F_s mi (pc + len_s, lo_s, st_s, (h_s.1, zup h_s.2.1 o b_s x_s, h_s.2.2.1, h_s.2.2.2)) G_s) : wF F_s mi (pc, lo_s, .int x_s :: .ref o :: st_s, h_s) G_s := w_t hi_s (fun _ hw => u21 hw) k_s
theorem w21b (hi_s : zi mi pc = some (21, len_s, a_s, b_s, 2, v_s, sw_s)) (k_s : wF F_s mi (pc + len_s, lo_s, st_s, (h_s.1, zup h_s.2.1 o b_s x_s, h_s.2.2.1, h_s.2.2.2)) G_s) : wF F_s mi (pc, lo_s, .int x_s :: .ref o :: st_s, h_s) G_s := w_t hi_s (fun _ hw => u21b hw) k_s
theorem w21r (hi_s : zi mi pc = some (21, len_s, a_s, b_s, 1, v_s, sw_s)) (k_s : wF F_s mi (pc + len_s, lo_s, st_s, (h_s.1, h_s.2.1, h_s.2.2.1, zup h_s.2.2.2 o b_s (some q_s))) G_s) : wF F_s mi (pc, lo_s, .ref q_s :: .ref o :: st_s, h_s) G_s := w_t hi_s (fun _ hw => u21r hw) k_s
theorem w8 (hi_s : zi mi pc = some (8, len_s, a_s, 0, n_s, v_s, sw_s)) (k_s : wF F_s mi (pc + len_s, lo_s, .int (x_s / y_s) :: st_s, h_s) G_s) : wF F_s mi (pc, lo_s, .int y_s :: .int x_s :: st_s, h_s) G_s := w_t hi_s (fun _ hw => u8 hw) k_s
theorem w8m (hi_s : zi mi pc = some (8, len_s, a_s, 1, n_s, v_s, sw_s)) (k_s : wF F_s mi (pc + len_s, lo_s, .int (x_s - x_s / y_s * y_s) :: st_s, h_s) G_s) : wF F_s mi (pc, lo_s, .int y_s :: .int x_s :: st_s, h_s) G_s := w_t hi_s (fun _ hw => u8m hw) k_s
theorem w28 (hi_s : zi mi pc = some (28, len_s, a_s, b_s, n_s, v_s, sw_s)) (hz : zget h_s.1 o = some (t_s, m_s)) (k_s : wF F_s mi (pc + len_s, lo_s, .int (Int32.ofNat m_s) :: st_s, h_s) G_s) : wF F_s mi (pc, lo_s, .ref o :: st_s, h_s) G_s := w_t hi_s (fun _ hw => u28 hz hw) k_s
/-- a step of which more is known -/
theorem w_k {y_s : zC} {e_s : zI} {P_s : Prop} (hi_s : zi mi pc = some e_s) (hs : ∀ w_s, zstep e_s (pc, lo_s, st_s, h_s) = some w_s → w_s = .inl y_s ∧ P_s) (k_s : P_s → wF F_s mi y_s G_s) : wF F_s mi (pc, lo_s, st_s, h_s) G_s := by
  intro f_s d_s r_s h1 hf hr
  cases f_s with
  | zero => cases hr
  | succ f_s =>
    rcases zr_step hr with ⟨_, e2_s⟩ | ⟨e1_s, he, hq⟩
    · cases e2_s
    · have he : zi mi pc = some e1_s := he
      rw [hi_s] at he
      cases he
      rcases hq with ⟨y1, hy, hz⟩ | ⟨r1_s, hy, _⟩ | ⟨a1_s, as1, y1, d1_s, r1_s, h2, hy, _⟩
      · have q_s := hs _ hy
        have q1_s := q_s.1
        cases q1_s
        exact k_s q_s.2 f_s d_s r_s h1 (by omega) hz
      · have q_s := (hs _ hy).1
        cases q_s
      · have q_s := (hs _ hy).1
        cases q_s
theorem wlen {P_s : Prop} (hz : zget h_s.1 o = some (t_s, m_s)) {j_s : Nat} (hw : P_s ∧ ∃ t_s m_s, zget h_s.1 o = some (t_s, m_s) ∧ j_s < m_s) : P_s ∧ j_s < m_s := by
  obtain ⟨h1, t1_s, m1_s, h2, h3⟩ := hw
  rw [hz] at h2
  cases h2
  exact ⟨h1, h3⟩
theorem w22 (hi_s : zi mi pc = some (22, len_s, a_s, b_s, n_s, v_s, sw_s)) (hz : zget h_s.1 o = some (t_s, m_s)) (k_s : zix i_s < m_s → wF F_s mi (pc + len_s, lo_s, .int (h_s.2.1 o (zix i_s)) :: st_s, h_s) G_s) : wF F_s mi (pc, lo_s, .int i_s :: .ref o :: st_s, h_s) G_s := w_k hi_s (fun _ hw => wlen hz (u22 hw)) k_s
theorem w28x (hi_s : zi mi pc = some (28, len_s, a_s, b_s, n_s, v_s, sw_s)) (k_s : ∀ m_s, wF F_s mi (pc + len_s, lo_s, .int (Int32.ofNat m_s) :: st_s, h_s) G_s) : wF F_s mi (pc, lo_s, .ref o :: st_s, h_s) G_s := by
  cases hz : zget h_s.1 o with
  | none =>
    refine w_k (y_s := (0, lo_s, st_s, h_s)) (P_s := False) hi_s (fun w_s hw => ?_) (fun q_s => q_s.elim)
    have hw : zs28 len_s (pc, lo_s, .ref o :: st_s, h_s) = some w_s := hw
    simp only [zs28] at hw
    rw [hz] at hw
    cases hw
  | some p_s =>
    obtain ⟨t1_s, m1_s⟩ := p_s
    exact w28 hi_s hz (k_s m1_s)
theorem w22x (hi_s : zi mi pc = some (22, len_s, a_s, b_s, n_s, v_s, sw_s)) (k_s : wF F_s mi (pc + len_s, lo_s, .int (h_s.2.1 o (zix i_s)) :: st_s, h_s) G_s) : wF F_s mi (pc, lo_s, .int i_s :: .ref o :: st_s, h_s) G_s := w_t hi_s (fun _ hw => (u22 hw).1) k_s
theorem w23 (hi_s : zi mi pc = some (23, len_s, a_s, b_s, n_s, v_s, sw_s)) (hz : zget h_s.1 o = some (t_s, m_s)) (k_s : zix i_s < m_s → wF F_s mi (pc + len_s, lo_s, .long (h_s.2.2.1 o (zix i_s)) :: st_s, h_s) G_s) : wF F_s mi (pc, lo_s, .int i_s :: .ref o :: st_s, h_s) G_s := w_k hi_s (fun _ hw => wlen hz (u23 hw)) k_s
theorem w24 {g_s : Nat → Nat} (hk : hKn h_s) (hi_s : zi mi pc = some (24, len_s, a_s, b_s, n_s, v_s, sw_s)) (hz : zget h_s.1 o = some (t_s, m_s)) (hg : ∀ j_s, j_s < m_s → krf o j_s = [g_s j_s]) (k_s : zix i_s < m_s → wF F_s mi (pc + len_s, lo_s, .ref (g_s (zix i_s)) :: st_s, h_s) G_s) : wF F_s mi (pc, lo_s, .int i_s :: .ref o :: st_s, h_s) G_s := by
  refine w_k (P_s := zix i_s < m_s) hi_s (fun w_s hw => ?_) k_s
  have q_s := wlen hz (u24 hw)
  obtain ⟨p_s, p1_s, p2_s⟩ := hk.2 o (zix i_s) (by rw [hg _ q_s.2]; exact List.cons_ne_nil _ _)
  rw [hg _ q_s.2] at p2_s
  rw [p1_s, List.mem_singleton.mp p2_s] at q_s
  exact q_s
theorem w25 (hi_s : zi mi pc = some (25, len_s, a_s, b_s, n_s, v_s, sw_s)) (hz : zget h_s.1 o = some (t_s, m_s)) (k_s : zix i_s < m_s → wF F_s mi (pc + len_s, lo_s, st_s, (h_s.1, zup h_s.2.1 o (zix i_s) x_s, h_s.2.2.1, h_s.2.2.2)) G_s) : wF F_s mi (pc, lo_s, .int x_s :: .int i_s :: .ref o :: st_s, h_s) G_s := w_k hi_s (fun _ hw => wlen hz (u25 hw)) k_s
theorem w26 (hi_s : zi mi pc = some (26, len_s, a_s, b_s, n_s, v_s, sw_s)) (hz : zget h_s.1 o = some (t_s, m_s)) (k_s : zix i_s < m_s → wF F_s mi (pc + len_s, lo_s, st_s, (h_s.1, h_s.2.1, zup h_s.2.2.1 o (zix i_s) z_s, h_s.2.2.2)) G_s) : wF F_s mi (pc, lo_s, .long z_s :: .int i_s :: .ref o :: st_s, h_s) G_s := w_k hi_s (fun _ hw => wlen hz (u26 hw)) k_s
theorem w34i {m1_s : Nat} {i0_s i1_s i2_s : Int32} {o0_s : Nat} (hi_s : zi mi pc = some (34, len_s, a_s, b_s, n_s, v_s, sw_s)) (h0 : zget h_s.1 o0_s = some (0, m1_s)) (h1 : zget h_s.1 o = some (0, m_s)) (k_s : zix i0_s + zix i2_s ≤ m1_s ∧ zix i1_s + zix i2_s ≤ m_s → wF F_s mi (pc + len_s, lo_s, st_s, (h_s.1, zrow h_s.2.1 o (zcpy (h_s.2.1 o0_s) (h_s.2.1 o) (zix i0_s) (zix i1_s) (zix i2_s)), h_s.2.2.1, h_s.2.2.2)) G_s) : wF F_s mi (pc, lo_s, .int i2_s :: .int i1_s :: .ref o :: .int i0_s :: .ref o0_s :: st_s, h_s) G_s := w_k hi_s (fun _ hw => u34i h0 h1 hw) k_s
theorem w34l {m1_s : Nat} {i0_s i1_s i2_s : Int32} {o0_s : Nat} (hi_s : zi mi pc = some (34, len_s, a_s, b_s, n_s, v_s, sw_s)) (h0 : zget h_s.1 o0_s = some (1, m1_s)) (h1 : zget h_s.1 o = some (1, m_s)) (k_s : zix i0_s + zix i2_s ≤ m1_s ∧ zix i1_s + zix i2_s ≤ m_s → wF F_s mi (pc + len_s, lo_s, st_s, (h_s.1, h_s.2.1, zrow h_s.2.2.1 o (zcpy (h_s.2.2.1 o0_s) (h_s.2.2.1 o) (zix i0_s) (zix i1_s) (zix i2_s)), h_s.2.2.2)) G_s) : wF F_s mi (pc, lo_s, .int i2_s :: .int i1_s :: .ref o :: .int i0_s :: .ref o0_s :: st_s, h_s) G_s := w_k hi_s (fun _ hw => u34l h0 h1 hw) k_s
theorem i0n : (0 : Int32).toInt = 0 := rfl
theorem il_ (x_s y_s : Int32) : x_s < y_s ↔ x_s.toInt < y_s.toInt := Int32.lt_iff_toInt_lt
theorem ie_ (x_s y_s : Int32) : x_s = y_s ↔ x_s.toInt = y_s.toInt := Int32.toInt_inj.symm
theorem jl_ (x_s y_s : Int64) : lg_cmp x_s y_s < 0 ↔ x_s.toInt < y_s.toInt := by
  unfold lg_cmp
  by_cases c1_s : x_s > y_s
  · rw [if_pos c1_s]
    have c2_s := Int64.lt_iff_toInt_lt.mp c1_s
    exact ⟨fun q_s => absurd q_s (by decide), fun q_s => absurd q_s (by omega)⟩
  · rw [if_neg c1_s]
    by_cases c2_s : x_s = y_s
    · rw [if_pos c2_s, c2_s]
      exact ⟨fun q_s => absurd q_s (by decide), fun q_s => absurd q_s (by omega)⟩
    · rw [if_neg c2_s]
      have c3_s : x_s.toInt ≠ y_s.toInt := fun q_s => c2_s (Int64.toInt_inj.mp q_s)
      have c4_s : ¬ y_s.toInt < x_s.toInt := fun q_s => c1_s (Int64.lt_iff_toInt_lt.mpr q_s)
      exact ⟨fun _ => by omega, fun _ => by decide⟩
theorem jg_ (x_s y_s : Int64) : 0 < lg_cmp x_s y_s ↔ y_s.toInt < x_s.toInt := by
  unfold lg_cmp
  by_cases c1_s : x_s > y_s
  · rw [if_pos c1_s]
    exact ⟨fun _ => Int64.lt_iff_toInt_lt.mp c1_s, fun _ => by decide⟩
  · rw [if_neg c1_s]
    have c4_s : ¬ y_s.toInt < x_s.toInt := fun q_s => c1_s (Int64.lt_iff_toInt_lt.mpr q_s)
    by_cases c2_s : x_s = y_s
    · rw [if_pos c2_s]
      exact ⟨fun q_s => absurd q_s (by decide), fun q_s => absurd q_s c4_s⟩
    · rw [if_neg c2_s]
      exact ⟨fun q_s => absurd q_s (by decide), fun q_s => absurd q_s c4_s⟩
theorem je_ (x_s y_s : Int64) : lg_cmp x_s y_s = 0 ↔ x_s.toInt = y_s.toInt := by
  unfold lg_cmp
  by_cases c1_s : x_s > y_s
  · rw [if_pos c1_s]
    have c2_s := Int64.lt_iff_toInt_lt.mp c1_s
    exact ⟨fun q_s => absurd q_s (by decide), fun q_s => absurd q_s (by omega)⟩
  · rw [if_neg c1_s]
    by_cases c2_s : x_s = y_s
    · rw [if_pos c2_s, c2_s]
      exact ⟨fun _ => rfl, fun _ => rfl⟩
    · rw [if_neg c2_s]
      exact ⟨fun q_s => absurd q_s (by decide), fun q_s => absurd (Int64.toInt_inj.mp q_s) c2_s⟩
theorem iq2 (x_s : Int32) : x_s < 0 ↔ x_s.toInt < 0 := il_ x_s 0
theorem iq4 (x_s : Int32) : 0 < x_s ↔ 0 < x_s.toInt := il_ 0 x_s
theorem iq0 (x_s : Int32) : x_s = 0 ↔ x_s.toInt = 0 := ie_ x_s 0
theorem wq0 {X_s : Int} (hi_s : zi mi pc = some (15, len_s, a_s, 0, c_s, v_s, sw_s)) (hx : x_s.toInt = X_s) (k1_s : X_s = 0 → wF F_s mi (a_s, lo_s, st_s, h_s) G_s) (k2_s : ¬ X_s = 0 → wF F_s mi (pc + len_s, lo_s, st_s, h_s) G_s) : wF F_s mi (pc, lo_s, .int x_s :: st_s, h_s) G_s := by
  subst hx
  have w_s := fun k_s => @w_t F_s mi pc lo_s (.int x_s :: st_s) h_s G_s _ (zif 0 x_s a_s (pc + len_s), lo_s, st_s, h_s) hi_s (u_ rfl) k_s
  by_cases hc_s : x_s.toInt = 0
  · rw [show zif 0 x_s a_s (pc + len_s) = a_s from if_pos ((iq0 x_s).mpr hc_s)] at w_s
    exact w_s (k1_s hc_s)
  · rw [show zif 0 x_s a_s (pc + len_s) = pc + len_s from if_neg (fun q_s => hc_s ((iq0 x_s).mp q_s))] at w_s
    exact w_s (k2_s hc_s)
theorem wq1 {X_s : Int} (hi_s : zi mi pc = some (15, len_s, a_s, 1, c_s, v_s, sw_s)) (hx : x_s.toInt = X_s) (k1_s : X_s = 0 → wF F_s mi (pc + len_s, lo_s, st_s, h_s) G_s) (k2_s : ¬ X_s = 0 → wF F_s mi (a_s, lo_s, st_s, h_s) G_s) : wF F_s mi (pc, lo_s, .int x_s :: st_s, h_s) G_s := by
  subst hx
  have w_s := fun k_s => @w_t F_s mi pc lo_s (.int x_s :: st_s) h_s G_s _ (zif 1 x_s a_s (pc + len_s), lo_s, st_s, h_s) hi_s (u_ rfl) k_s
  by_cases hc_s : x_s.toInt = 0
  · rw [show zif 1 x_s a_s (pc + len_s) = pc + len_s from if_pos ((iq0 x_s).mpr hc_s)] at w_s
    exact w_s (k1_s hc_s)
  · rw [show zif 1 x_s a_s (pc + len_s) = a_s from if_neg (fun q_s => hc_s ((iq0 x_s).mp q_s))] at w_s
    exact w_s (k2_s hc_s)
theorem wq2 {X_s : Int} (hi_s : zi mi pc = some (15, len_s, a_s, 2, c_s, v_s, sw_s)) (hx : x_s.toInt = X_s) (k1_s : X_s < 0 → wF F_s mi (a_s, lo_s, st_s, h_s) G_s) (k2_s : ¬ X_s < 0 → wF F_s mi (pc + len_s, lo_s, st_s, h_s) G_s) : wF F_s mi (pc, lo_s, .int x_s :: st_s, h_s) G_s := by
  subst hx
  have w_s := fun k_s => @w_t F_s mi pc lo_s (.int x_s :: st_s) h_s G_s _ (zif 2 x_s a_s (pc + len_s), lo_s, st_s, h_s) hi_s (u_ rfl) k_s
  by_cases hc_s : x_s.toInt < 0
  · rw [show zif 2 x_s a_s (pc + len_s) = a_s from if_pos ((iq2 x_s).mpr hc_s)] at w_s
    exact w_s (k1_s hc_s)
  · rw [show zif 2 x_s a_s (pc + len_s) = pc + len_s from if_neg (fun q_s => hc_s ((iq2 x_s).mp q_s))] at w_s
    exact w_s (k2_s hc_s)
theorem wq3 {X_s : Int} (hi_s : zi mi pc = some (15, len_s, a_s, 3, c_s, v_s, sw_s)) (hx : x_s.toInt = X_s) (k1_s : X_s < 0 → wF F_s mi (pc + len_s, lo_s, st_s, h_s) G_s) (k2_s : ¬ X_s < 0 → wF F_s mi (a_s, lo_s, st_s, h_s) G_s) : wF F_s mi (pc, lo_s, .int x_s :: st_s, h_s) G_s := by
  subst hx
  have w_s := fun k_s => @w_t F_s mi pc lo_s (.int x_s :: st_s) h_s G_s _ (zif 3 x_s a_s (pc + len_s), lo_s, st_s, h_s) hi_s (u_ rfl) k_s
  by_cases hc_s : x_s.toInt < 0
  · rw [show zif 3 x_s a_s (pc + len_s) = pc + len_s from if_pos ((iq2 x_s).mpr hc_s)] at w_s
    exact w_s (k1_s hc_s)
  · rw [show zif 3 x_s a_s (pc + len_s) = a_s from if_neg (fun q_s => hc_s ((iq2 x_s).mp q_s))] at w_s
    exact w_s (k2_s hc_s)
theorem wq4 {X_s : Int} (hi_s : zi mi pc = some (15, len_s, a_s, 4, c_s, v_s, sw_s)) (hx : x_s.toInt = X_s) (k1_s : 0 < X_s → wF F_s mi (a_s, lo_s, st_s, h_s) G_s) (k2_s : ¬ 0 < X_s → wF F_s mi (pc + len_s, lo_s, st_s, h_s) G_s) : wF F_s mi (pc, lo_s, .int x_s :: st_s, h_s) G_s := by
  subst hx
  have w_s := fun k_s => @w_t F_s mi pc lo_s (.int x_s :: st_s) h_s G_s _ (zif 4 x_s a_s (pc + len_s), lo_s, st_s, h_s) hi_s (u_ rfl) k_s
  by_cases hc_s : 0 < x_s.toInt
  · rw [show zif 4 x_s a_s (pc + len_s) = a_s from if_pos ((iq4 x_s).mpr hc_s)] at w_s
    exact w_s (k1_s hc_s)
  · rw [show zif 4 x_s a_s (pc + len_s) = pc + len_s from if_neg (fun q_s => hc_s ((iq4 x_s).mp q_s))] at w_s
    exact w_s (k2_s hc_s)
theorem wq5 {X_s : Int} (hi_s : zi mi pc = some (15, len_s, a_s, 5, c_s, v_s, sw_s)) (hx : x_s.toInt = X_s) (k1_s : 0 < X_s → wF F_s mi (pc + len_s, lo_s, st_s, h_s) G_s) (k2_s : ¬ 0 < X_s → wF F_s mi (a_s, lo_s, st_s, h_s) G_s) : wF F_s mi (pc, lo_s, .int x_s :: st_s, h_s) G_s := by
  subst hx
  have w_s := fun k_s => @w_t F_s mi pc lo_s (.int x_s :: st_s) h_s G_s _ (zif 5 x_s a_s (pc + len_s), lo_s, st_s, h_s) hi_s (u_ rfl) k_s
  by_cases hc_s : 0 < x_s.toInt
  · rw [show zif 5 x_s a_s (pc + len_s) = pc + len_s from if_pos ((iq4 x_s).mpr hc_s)] at w_s
    exact w_s (k1_s hc_s)
  · rw [show zif 5 x_s a_s (pc + len_s) = a_s from if_neg (fun q_s => hc_s ((iq4 x_s).mp q_s))] at w_s
    exact w_s (k2_s hc_s)
theorem wi0 {X_s Y : Int} (hi_s : zi mi pc = some (16, len_s, a_s, 0, c_s, v_s, sw_s)) (hx : x_s.toInt = X_s) (hy : y_s.toInt = Y) (k1_s : X_s = Y → wF F_s mi (a_s, lo_s, st_s, h_s) G_s) (k2_s : ¬ X_s = Y → wF F_s mi (pc + len_s, lo_s, st_s, h_s) G_s) : wF F_s mi (pc, lo_s, .int y_s :: .int x_s :: st_s, h_s) G_s := by
  subst hx
  subst hy
  have w_s := fun k_s => @w_t F_s mi pc lo_s (.int y_s :: .int x_s :: st_s) h_s G_s _ (zicmp 0 x_s y_s a_s (pc + len_s), lo_s, st_s, h_s) hi_s (u_ rfl) k_s
  by_cases hc_s : x_s.toInt = y_s.toInt
  · rw [show zicmp 0 x_s y_s a_s (pc + len_s) = a_s from if_pos ((ie_ x_s y_s).mpr hc_s)] at w_s
    exact w_s (k1_s hc_s)
  · rw [show zicmp 0 x_s y_s a_s (pc + len_s) = pc + len_s from if_neg (fun q_s => hc_s ((ie_ x_s y_s).mp q_s))] at w_s
    exact w_s (k2_s hc_s)
theorem wi1 {X_s Y : Int} (hi_s : zi mi pc = some (16, len_s, a_s, 1, c_s, v_s, sw_s)) (hx : x_s.toInt = X_s) (hy : y_s.toInt = Y) (k1_s : X_s = Y → wF F_s mi (pc + len_s, lo_s, st_s, h_s) G_s) (k2_s : ¬ X_s = Y → wF F_s mi (a_s, lo_s, st_s, h_s) G_s) : wF F_s mi (pc, lo_s, .int y_s :: .int x_s :: st_s, h_s) G_s := by
  subst hx
  subst hy
  have w_s := fun k_s => @w_t F_s mi pc lo_s (.int y_s :: .int x_s :: st_s) h_s G_s _ (zicmp 1 x_s y_s a_s (pc + len_s), lo_s, st_s, h_s) hi_s (u_ rfl) k_s
  by_cases hc_s : x_s.toInt = y_s.toInt
  · rw [show zicmp 1 x_s y_s a_s (pc + len_s) = pc + len_s from if_pos ((ie_ x_s y_s).mpr hc_s)] at w_s
    exact w_s (k1_s hc_s)
  · rw [show zicmp 1 x_s y_s a_s (pc + len_s) = a_s from if_neg (fun q_s => hc_s ((ie_ x_s y_s).mp q_s))] at w_s
    exact w_s (k2_s hc_s)
theorem wi2 {X_s Y : Int} (hi_s : zi mi pc = some (16, len_s, a_s, 2, c_s, v_s, sw_s)) (hx : x_s.toInt = X_s) (hy : y_s.toInt = Y) (k1_s : X_s < Y → wF F_s mi (a_s, lo_s, st_s, h_s) G_s) (k2_s : ¬ X_s < Y → wF F_s mi (pc + len_s, lo_s, st_s, h_s) G_s) : wF F_s mi (pc, lo_s, .int y_s :: .int x_s :: st_s, h_s) G_s := by
  subst hx
  subst hy
  have w_s := fun k_s => @w_t F_s mi pc lo_s (.int y_s :: .int x_s :: st_s) h_s G_s _ (zicmp 2 x_s y_s a_s (pc + len_s), lo_s, st_s, h_s) hi_s (u_ rfl) k_s
  by_cases hc_s : x_s.toInt < y_s.toInt
  · rw [show zicmp 2 x_s y_s a_s (pc + len_s) = a_s from if_pos ((il_ x_s y_s).mpr hc_s)] at w_s
    exact w_s (k1_s hc_s)
  · rw [show zicmp 2 x_s y_s a_s (pc + len_s) = pc + len_s from if_neg (fun q_s => hc_s ((il_ x_s y_s).mp q_s))] at w_s
    exact w_s (k2_s hc_s)
theorem wi3 {X_s Y : Int} (hi_s : zi mi pc = some (16, len_s, a_s, 3, c_s, v_s, sw_s)) (hx : x_s.toInt = X_s) (hy : y_s.toInt = Y) (k1_s : X_s < Y → wF F_s mi (pc + len_s, lo_s, st_s, h_s) G_s) (k2_s : ¬ X_s < Y → wF F_s mi (a_s, lo_s, st_s, h_s) G_s) : wF F_s mi (pc, lo_s, .int y_s :: .int x_s :: st_s, h_s) G_s := by
  subst hx
  subst hy
  have w_s := fun k_s => @w_t F_s mi pc lo_s (.int y_s :: .int x_s :: st_s) h_s G_s _ (zicmp 3 x_s y_s a_s (pc + len_s), lo_s, st_s, h_s) hi_s (u_ rfl) k_s
  by_cases hc_s : x_s.toInt < y_s.toInt
  · rw [show zicmp 3 x_s y_s a_s (pc + len_s) = pc + len_s from if_pos ((il_ x_s y_s).mpr hc_s)] at w_s
    exact w_s (k1_s hc_s)
  · rw [show zicmp 3 x_s y_s a_s (pc + len_s) = a_s from if_neg (fun q_s => hc_s ((il_ x_s y_s).mp q_s))] at w_s
    exact w_s (k2_s hc_s)
theorem wi4 {X_s Y : Int} (hi_s : zi mi pc = some (16, len_s, a_s, 4, c_s, v_s, sw_s)) (hx : x_s.toInt = X_s) (hy : y_s.toInt = Y) (k1_s : Y < X_s → wF F_s mi (a_s, lo_s, st_s, h_s) G_s) (k2_s : ¬ Y < X_s → wF F_s mi (pc + len_s, lo_s, st_s, h_s) G_s) : wF F_s mi (pc, lo_s, .int y_s :: .int x_s :: st_s, h_s) G_s := by
  subst hx
  subst hy
  have w_s := fun k_s => @w_t F_s mi pc lo_s (.int y_s :: .int x_s :: st_s) h_s G_s _ (zicmp 4 x_s y_s a_s (pc + len_s), lo_s, st_s, h_s) hi_s (u_ rfl) k_s
  by_cases hc_s : y_s.toInt < x_s.toInt
  · rw [show zicmp 4 x_s y_s a_s (pc + len_s) = a_s from if_pos ((il_ y_s x_s).mpr hc_s)] at w_s
    exact w_s (k1_s hc_s)
  · rw [show zicmp 4 x_s y_s a_s (pc + len_s) = pc + len_s from if_neg (fun q_s => hc_s ((il_ y_s x_s).mp q_s))] at w_s
    exact w_s (k2_s hc_s)
theorem wi5 {X_s Y : Int} (hi_s : zi mi pc = some (16, len_s, a_s, 5, c_s, v_s, sw_s)) (hx : x_s.toInt = X_s) (hy : y_s.toInt = Y) (k1_s : Y < X_s → wF F_s mi (pc + len_s, lo_s, st_s, h_s) G_s) (k2_s : ¬ Y < X_s → wF F_s mi (a_s, lo_s, st_s, h_s) G_s) : wF F_s mi (pc, lo_s, .int y_s :: .int x_s :: st_s, h_s) G_s := by
  subst hx
  subst hy
  have w_s := fun k_s => @w_t F_s mi pc lo_s (.int y_s :: .int x_s :: st_s) h_s G_s _ (zicmp 5 x_s y_s a_s (pc + len_s), lo_s, st_s, h_s) hi_s (u_ rfl) k_s
  by_cases hc_s : y_s.toInt < x_s.toInt
  · rw [show zicmp 5 x_s y_s a_s (pc + len_s) = pc + len_s from if_pos ((il_ y_s x_s).mpr hc_s)] at w_s
    exact w_s (k1_s hc_s)
  · rw [show zicmp 5 x_s y_s a_s (pc + len_s) = a_s from if_neg (fun q_s => hc_s ((il_ y_s x_s).mp q_s))] at w_s
    exact w_s (k2_s hc_s)
theorem wl0 {x_s y_s : Int64} {X_s Y : Int} (hi_s : zi mi pc = some (15, len_s, a_s, 0, c_s, v_s, sw_s)) (hx : x_s.toInt = X_s) (hy : y_s.toInt = Y) (k1_s : X_s = Y → wF F_s mi (a_s, lo_s, st_s, h_s) G_s) (k2_s : ¬ X_s = Y → wF F_s mi (pc + len_s, lo_s, st_s, h_s) G_s) : wF F_s mi (pc, lo_s, .int (lg_cmp x_s y_s) :: st_s, h_s) G_s := by
  subst hx
  subst hy
  have w_s := fun k_s => @w_t F_s mi pc lo_s (.int (lg_cmp x_s y_s) :: st_s) h_s G_s _ (zif 0 (lg_cmp x_s y_s) a_s (pc + len_s), lo_s, st_s, h_s) hi_s (u_ rfl) k_s
  by_cases hc_s : x_s.toInt = y_s.toInt
  · rw [show zif 0 (lg_cmp x_s y_s) a_s (pc + len_s) = a_s from if_pos ((je_ x_s y_s).mpr hc_s)] at w_s
    exact w_s (k1_s hc_s)
  · rw [show zif 0 (lg_cmp x_s y_s) a_s (pc + len_s) = pc + len_s from if_neg (fun q_s => hc_s ((je_ x_s y_s).mp q_s))] at w_s
    exact w_s (k2_s hc_s)
theorem wl1 {x_s y_s : Int64} {X_s Y : Int} (hi_s : zi mi pc = some (15, len_s, a_s, 1, c_s, v_s, sw_s)) (hx : x_s.toInt = X_s) (hy : y_s.toInt = Y) (k1_s : X_s = Y → wF F_s mi (pc + len_s, lo_s, st_s, h_s) G_s) (k2_s : ¬ X_s = Y → wF F_s mi (a_s, lo_s, st_s, h_s) G_s) : wF F_s mi (pc, lo_s, .int (lg_cmp x_s y_s) :: st_s, h_s) G_s := by
  subst hx
  subst hy
  have w_s := fun k_s => @w_t F_s mi pc lo_s (.int (lg_cmp x_s y_s) :: st_s) h_s G_s _ (zif 1 (lg_cmp x_s y_s) a_s (pc + len_s), lo_s, st_s, h_s) hi_s (u_ rfl) k_s
  by_cases hc_s : x_s.toInt = y_s.toInt
  · rw [show zif 1 (lg_cmp x_s y_s) a_s (pc + len_s) = pc + len_s from if_pos ((je_ x_s y_s).mpr hc_s)] at w_s
    exact w_s (k1_s hc_s)
  · rw [show zif 1 (lg_cmp x_s y_s) a_s (pc + len_s) = a_s from if_neg (fun q_s => hc_s ((je_ x_s y_s).mp q_s))] at w_s
    exact w_s (k2_s hc_s)
theorem wl2 {x_s y_s : Int64} {X_s Y : Int} (hi_s : zi mi pc = some (15, len_s, a_s, 2, c_s, v_s, sw_s)) (hx : x_s.toInt = X_s) (hy : y_s.toInt = Y) (k1_s : X_s < Y → wF F_s mi (a_s, lo_s, st_s, h_s) G_s) (k2_s : ¬ X_s < Y → wF F_s mi (pc + len_s, lo_s, st_s, h_s) G_s) : wF F_s mi (pc, lo_s, .int (lg_cmp x_s y_s) :: st_s, h_s) G_s := by
  subst hx
  subst hy
  have w_s := fun k_s => @w_t F_s mi pc lo_s (.int (lg_cmp x_s y_s) :: st_s) h_s G_s _ (zif 2 (lg_cmp x_s y_s) a_s (pc + len_s), lo_s, st_s, h_s) hi_s (u_ rfl) k_s
  by_cases hc_s : x_s.toInt < y_s.toInt
  · rw [show zif 2 (lg_cmp x_s y_s) a_s (pc + len_s) = a_s from if_pos ((jl_ x_s y_s).mpr hc_s)] at w_s
    exact w_s (k1_s hc_s)
  · rw [show zif 2 (lg_cmp x_s y_s) a_s (pc + len_s) = pc + len_s from if_neg (fun q_s => hc_s ((jl_ x_s y_s).mp q_s))] at w_s
    exact w_s (k2_s hc_s)
theorem wl3 {x_s y_s : Int64} {X_s Y : Int} (hi_s : zi mi pc = some (15, len_s, a_s, 3, c_s, v_s, sw_s)) (hx : x_s.toInt = X_s) (hy : y_s.toInt = Y) (k1_s : X_s < Y → wF F_s mi (pc + len_s, lo_s, st_s, h_s) G_s) (k2_s : ¬ X_s < Y → wF F_s mi (a_s, lo_s, st_s, h_s) G_s) : wF F_s mi (pc, lo_s, .int (lg_cmp x_s y_s) :: st_s, h_s) G_s := by
  subst hx
  subst hy
  have w_s := fun k_s => @w_t F_s mi pc lo_s (.int (lg_cmp x_s y_s) :: st_s) h_s G_s _ (zif 3 (lg_cmp x_s y_s) a_s (pc + len_s), lo_s, st_s, h_s) hi_s (u_ rfl) k_s
  by_cases hc_s : x_s.toInt < y_s.toInt
  · rw [show zif 3 (lg_cmp x_s y_s) a_s (pc + len_s) = pc + len_s from if_pos ((jl_ x_s y_s).mpr hc_s)] at w_s
    exact w_s (k1_s hc_s)
  · rw [show zif 3 (lg_cmp x_s y_s) a_s (pc + len_s) = a_s from if_neg (fun q_s => hc_s ((jl_ x_s y_s).mp q_s))] at w_s
    exact w_s (k2_s hc_s)
theorem wl4 {x_s y_s : Int64} {X_s Y : Int} (hi_s : zi mi pc = some (15, len_s, a_s, 4, c_s, v_s, sw_s)) (hx : x_s.toInt = X_s) (hy : y_s.toInt = Y) (k1_s : Y < X_s → wF F_s mi (a_s, lo_s, st_s, h_s) G_s) (k2_s : ¬ Y < X_s → wF F_s mi (pc + len_s, lo_s, st_s, h_s) G_s) : wF F_s mi (pc, lo_s, .int (lg_cmp x_s y_s) :: st_s, h_s) G_s := by
  subst hx
  subst hy
  have w_s := fun k_s => @w_t F_s mi pc lo_s (.int (lg_cmp x_s y_s) :: st_s) h_s G_s _ (zif 4 (lg_cmp x_s y_s) a_s (pc + len_s), lo_s, st_s, h_s) hi_s (u_ rfl) k_s
  by_cases hc_s : y_s.toInt < x_s.toInt
  · rw [show zif 4 (lg_cmp x_s y_s) a_s (pc + len_s) = a_s from if_pos ((jg_ x_s y_s).mpr hc_s)] at w_s
    exact w_s (k1_s hc_s)
  · rw [show zif 4 (lg_cmp x_s y_s) a_s (pc + len_s) = pc + len_s from if_neg (fun q_s => hc_s ((jg_ x_s y_s).mp q_s))] at w_s
    exact w_s (k2_s hc_s)
theorem wl5 {x_s y_s : Int64} {X_s Y : Int} (hi_s : zi mi pc = some (15, len_s, a_s, 5, c_s, v_s, sw_s)) (hx : x_s.toInt = X_s) (hy : y_s.toInt = Y) (k1_s : Y < X_s → wF F_s mi (pc + len_s, lo_s, st_s, h_s) G_s) (k2_s : ¬ Y < X_s → wF F_s mi (a_s, lo_s, st_s, h_s) G_s) : wF F_s mi (pc, lo_s, .int (lg_cmp x_s y_s) :: st_s, h_s) G_s := by
  subst hx
  subst hy
  have w_s := fun k_s => @w_t F_s mi pc lo_s (.int (lg_cmp x_s y_s) :: st_s) h_s G_s _ (zif 5 (lg_cmp x_s y_s) a_s (pc + len_s), lo_s, st_s, h_s) hi_s (u_ rfl) k_s
  by_cases hc_s : y_s.toInt < x_s.toInt
  · rw [show zif 5 (lg_cmp x_s y_s) a_s (pc + len_s) = pc + len_s from if_pos ((jg_ x_s y_s).mpr hc_s)] at w_s
    exact w_s (k1_s hc_s)
  · rw [show zif 5 (lg_cmp x_s y_s) a_s (pc + len_s) = a_s from if_neg (fun q_s => hc_s ((jg_ x_s y_s).mp q_s))] at w_s
    exact w_s (k2_s hc_s)
theorem wsw (hi_s : zi mi pc = some (18, len_s, a_s, b_s, c_s, v_s, sw_s)) (k_s : wF F_s mi (zsw x_s sw_s a_s, lo_s, st_s, h_s) G_s) : wF F_s mi (pc, lo_s, .int x_s :: st_s, h_s) G_s := w_t hi_s (u_ rfl) k_s
theorem wsc {k_s : Int32} {X_s Y : Int} (hx : x_s.toInt = Y) (hk : k_s.toInt = X_s) (k1_s : Y = X_s → wF F_s mi (t_s, lo_s, st_s, h_s) G_s) (k2_s : ¬ Y = X_s → wF F_s mi (zsw x_s sw_s a_s, lo_s, st_s, h_s) G_s) : wF F_s mi (zsw x_s ((k_s, t_s) :: sw_s) a_s, lo_s, st_s, h_s) G_s := by
  subst hx
  subst hk
  by_cases hc_s : x_s.toInt = k_s.toInt
  · rw [show zsw x_s ((k_s, t_s) :: sw_s) a_s = t_s from if_pos ((ie_ x_s k_s).mpr hc_s)]
    exact k1_s hc_s
  · rw [show zsw x_s ((k_s, t_s) :: sw_s) a_s = zsw x_s sw_s a_s from if_neg (fun q_s => hc_s ((ie_ x_s k_s).mp q_s))]
    exact k2_s hc_s
/-- calls: into the callee; or by what is known of it -/
theorem wcI {as_s r_s : List Value} {l : List (Option Value)} (hi_s : zi mi pc = some (32, len_s, a_s, b_s, c_s, v_s, sw_s)) (ht : ztake b_s [] st_s = some (as_s, r_s)) (hl : zpad (zL a_s) (zargs as_s) = l) (k_s : wF F_s a_s (0, l, [], h_s) (gI (fun u_s h1 => wF F_s mi (pc + len_s, lo_s, .int u_s :: r_s, h1) G_s))) : wF F_s mi (pc, lo_s, st_s, h_s) G_s := by
  subst hl
  refine w_c hi_s (fun _ hw => u32 ht hw) (wF_mono k_s (fun r1_s h1 q_s => ?_))
  obtain ⟨u_s, rfl, _, q_s⟩ := q_s
  exact q_s
theorem wcJ {as_s r_s : List Value} {l : List (Option Value)} (hi_s : zi mi pc = some (32, len_s, a_s, b_s, c_s, v_s, sw_s)) (ht : ztake b_s [] st_s = some (as_s, r_s)) (hl : zpad (zL a_s) (zargs as_s) = l) (k_s : wF F_s a_s (0, l, [], h_s) (gJ (fun u_s h1 => wF F_s mi (pc + len_s, lo_s, .long u_s :: r_s, h1) G_s))) : wF F_s mi (pc, lo_s, st_s, h_s) G_s := by
  subst hl
  refine w_c hi_s (fun _ hw => u32 ht hw) (wF_mono k_s (fun r1_s h1 q_s => ?_))
  obtain ⟨u_s, rfl, _, q_s⟩ := q_s
  exact q_s
theorem wcR {as_s r_s : List Value} {l : List (Option Value)} (hi_s : zi mi pc = some (32, len_s, a_s, b_s, c_s, v_s, sw_s)) (ht : ztake b_s [] st_s = some (as_s, r_s)) (hl : zpad (zL a_s) (zargs as_s) = l) (k_s : wF F_s a_s (0, l, [], h_s) (gR (fun u_s h1 => wF F_s mi (pc + len_s, lo_s, .ref u_s :: r_s, h1) G_s))) : wF F_s mi (pc, lo_s, st_s, h_s) G_s := by
  subst hl
  refine w_c hi_s (fun _ hw => u32 ht hw) (wF_mono k_s (fun r1_s h1 q_s => ?_))
  obtain ⟨u_s, rfl, _, q_s⟩ := q_s
  exact q_s
theorem wcV {as_s r_s : List Value} {l : List (Option Value)} (hi_s : zi mi pc = some (32, len_s, a_s, b_s, c_s, v_s, sw_s)) (ht : ztake b_s [] st_s = some (as_s, r_s)) (hl : zpad (zL a_s) (zargs as_s) = l) (k_s : wF F_s a_s (0, l, [], h_s) (gV (fun h1 => wF F_s mi (pc + len_s, lo_s, r_s, h1) G_s))) : wF F_s mi (pc, lo_s, st_s, h_s) G_s := by
  subst hl
  refine w_c hi_s (fun _ hw => u32 ht hw) (wF_mono k_s (fun r1_s h1 q_s => ?_))
  obtain ⟨rfl, _, q_s⟩ := q_s
  exact q_s
theorem wmI {K_s K' : Int32 → zH → Prop} {x_s : zC} (t_s : wF F_s mi x_s (gI K_s)) (k_s : ∀ u_s h1, hKn h1 → K_s u_s h1 → K' u_s h1) : wF F_s mi x_s (gI K') := wF_mono t_s (fun _ h1 ⟨u_s, e_s, q_s, p_s⟩ => ⟨u_s, e_s, q_s, k_s u_s h1 q_s p_s⟩)
theorem wmJ {K_s K' : Int64 → zH → Prop} {x_s : zC} (t_s : wF F_s mi x_s (gJ K_s)) (k_s : ∀ u_s h1, hKn h1 → K_s u_s h1 → K' u_s h1) : wF F_s mi x_s (gJ K') := wF_mono t_s (fun _ h1 ⟨u_s, e_s, q_s, p_s⟩ => ⟨u_s, e_s, q_s, k_s u_s h1 q_s p_s⟩)
theorem wmR {K_s K' : Nat → zH → Prop} {x_s : zC} (t_s : wF F_s mi x_s (gR K_s)) (k_s : ∀ u_s h1, hKn h1 → K_s u_s h1 → K' u_s h1) : wF F_s mi x_s (gR K') := wF_mono t_s (fun _ h1 ⟨u_s, e_s, q_s, p_s⟩ => ⟨u_s, e_s, q_s, k_s u_s h1 q_s p_s⟩)
theorem wmV {K_s K' : zH → Prop} {x_s : zC} (t_s : wF F_s mi x_s (gV K_s)) (k_s : ∀ h1, hKn h1 → K_s h1 → K' h1) : wF F_s mi x_s (gV K') := wF_mono t_s (fun _ h1 ⟨e_s, q_s, p_s⟩ => ⟨e_s, q_s, k_s h1 q_s p_s⟩)
/-- returns -/
theorem wrI {K_s : Int32 → zH → Prop} (hi_s : zi mi pc = some (35, len_s, a_s, b_s, c_s, v_s, sw_s)) (hk : hKn h_s) (k_s : K_s x_s h_s) : wF F_s mi (pc, lo_s, [.int x_s], h_s) (gI K_s) := w_r hi_s (fun _ hw => u35 hw) ⟨x_s, rfl, hk, k_s⟩
theorem wrJ {K_s : Int64 → zH → Prop} (hi_s : zi mi pc = some (36, len_s, a_s, b_s, c_s, v_s, sw_s)) (hk : hKn h_s) (k_s : K_s z_s h_s) : wF F_s mi (pc, lo_s, [.long z_s], h_s) (gJ K_s) := w_r hi_s (u_ rfl) ⟨z_s, rfl, hk, k_s⟩
theorem wrR {K_s : Nat → zH → Prop} (hi_s : zi mi pc = some (37, len_s, a_s, b_s, c_s, v_s, sw_s)) (hk : hKn h_s) (k_s : K_s o h_s) : wF F_s mi (pc, lo_s, [.ref o], h_s) (gR K_s) := w_r hi_s (u_ rfl) ⟨o, rfl, hk, k_s⟩
theorem wrV {K_s : zH → Prop} (hi_s : zi mi pc = some (38, len_s, a_s, b_s, c_s, v_s, sw_s)) (hk : hKn h_s) (k_s : K_s h_s) : wF F_s mi (pc, lo_s, [], h_s) (gV K_s) := w_r hi_s (u_ rfl) ⟨rfl, hk, k_s⟩
/-- a fixed reference -/
theorem krq (hk : hKn h_s) (hq : krf o b_s = [q_s]) : h_s.2.2.2 o b_s = some q_s := by
  obtain ⟨p_s, p1_s, p2_s⟩ := hk.2 o b_s (by rw [hq]; exact List.cons_ne_nil _ _)
  rw [hq] at p2_s
  rw [p1_s, List.mem_singleton.mp p2_s]
end W3
