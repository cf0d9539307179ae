/-! THE START, second part: from the constructors' end the law's contract holds. -/
theorem zget_nn {α : Type} : ∀ {l : List α} {k : Nat}, l.length ≤ k → zget l k = none
  | [], _, _ => rfl
  | _ :: l, 0, h => by cases h
  | _ :: l, k + 1, h => zget_nn (l := l) (Nat.le_of_succ_le_succ h)
theorem hZ_sh0 : hZ sh0 := by
  intro o k hq
  match o, hq with
  | 0, _ => rfl
  | 1, hq =>
    have h := hq 5 12 rfl
    show ((zget _ k).getD 0 : Int32) = 0
    rw [zget_nn h]
    rfl
  | 2, hq =>
    have h := hq 5 12 rfl
    show ((zget _ k).getD 0 : Int32) = 0
    rw [zget_nn h]
    rfl
  | 3, hq =>
    have h := hq 5 3 rfl
    show ((zget _ k).getD 0 : Int32) = 0
    rw [zget_nn h]
    rfl
  | 4, hq =>
    have h := hq 5 8 rfl
    show ((zget _ k).getD 0 : Int32) = 0
    rw [zget_nn h]
    rfl
  | 5, hq =>
    have h := hq 5 32 rfl
    show ((zget _ k).getD 0 : Int32) = 0
    rw [zget_nn h]
    rfl
  | o + 6, _ => rfl
theorem kas_mem : ∀ {l : List (Nat × List Nat)} {k : Nat}, kas l k ≠ [] → (k, kas l k) ∈ l
  | [], _, h => absurd rfl h
  | (k', m) :: r, k, h => by
    unfold kas at h ⊢
    cases hb : Nat.beq k' k
    · rw [hb] at h
      exact List.mem_cons_of_mem _ (kas_mem h)
    · rw [Nat.eq_of_beq_eq_true hb]
      exact List.mem_cons_self
theorem kS_out {o : Nat} (h : 128 ≤ o) : kS o = none := by
  unfold kS
  rw [show Nat.blt o 128 = false by
    cases hb : Nat.blt o 128
    · rfl
    · rw [Nat.blt_eq] at hb
      omega]
  rfl
theorem krT_out {o : Nat} (h : 128 ≤ o) : krT o = [] := by
  unfold krT
  rw [show Nat.blt o 128 = false by
    cases hb : Nat.blt o 128
    · rfl
    · rw [Nat.blt_eq] at hb
      omega]
  rfl
theorem kB_out {o : Nat} (h : 128 ≤ o) : kB o = none := by
  unfold kB
  rw [show Nat.blt o 128 = false by
    cases hb : Nat.blt o 128
    · rfl
    · rw [Nat.blt_eq] at hb
      omega]
  rfl
theorem afind_mem : ∀ {T : aT} {o k : Nat} {a : aI}, afind T o k = some a → (o, k, a) ∈ T
  | [], _, _, _, h => by cases h
  | (o', k', v) :: r, o, k, a, h => by
    unfold afind at h
    cases hb : (Nat.beq o' o && Nat.beq k' k)
    · rw [hb] at h
      exact List.mem_cons_of_mem _ (afind_mem h)
    · rw [hb] at h
      rw [Bool.and_eq_true] at hb
      have e1 := Nat.eq_of_beq_eq_true hb.1
      have e2 := Nat.eq_of_beq_eq_true hb.2
      subst e1
      subst e2
      have h : some v = some a := h
      cases h
      exact List.mem_cons_self
theorem hbd_of {h : zH} (hz : hZ h) (h2 : hck2 h = true) (h4 : hck4 h = true) : hBd h.2.1 := by
  intro o k
  by_cases ho : o < 128
  · have c4 := List.all_eq_true.mp h4 o (List.mem_range.mpr ho)
    unfold hck2 at h2
    rw [Bool.and_eq_true] at h2
    have c2 := List.all_eq_true.mp h2.2 o (List.mem_range.mpr ho)
    split at c4
    · rename_i t n hs
      rw [Bool.and_eq_true] at c4
      by_cases hk : k < n
      · have c := List.all_eq_true.mp c4.1 k (List.mem_range.mpr hk)
        rw [Bool.and_eq_true, ile_eq, ile_eq] at c
        exact c
      · have e0 : h.2.1 o k = 0 := by
          refine hz o k (fun t' n' hg => ?_)
          rw [hg, hs] at c2
          dsimp only at c2
          rw [Bool.and_eq_true] at c2
          have := Nat.eq_of_beq_eq_true c2.2
          omega
        rw [e0]
        have z0 : (0 : Int32).toInt = 0 := rfl
        rw [z0]
        have c := c4.2
        unfold aiv
        split at c
        · rename_i q hq
          rw [hq]
          dsimp only
          rw [Bool.and_eq_true, ile_eq, ile_eq] at c
          exact c
        · rename_i l hq
          rw [hq]
          dsimp only
          rw [Nat.ble_eq] at c
          rw [zget_nn (by omega)]
          decide
        · rename_i hq
          rw [hq]
          exact (by decide : afull.1 ≤ 0 ∧ 0 ≤ afull.2)
    · cases c4
  · unfold aiv
    rw [kB_out (by omega)]
    exact na_rng _
/-! WHAT ENDED RUNS GIVE: rules over runs of the small machine that have come to an end (nothing is owed of bounds: a run that ended met them). -/
noncomputable def wF (F_s mi : Nat) (x_s : zC) (G_s : Option Value → zH → Prop) : Prop := ∀ f_s d_s r_s h1, f_s < F_s → zr f_s d_s mi 100000 x_s = some (.inr (r_s, h1)) → G_s r_s h1
noncomputable def hKn (h_s : zH) : Prop := aShp kS h_s.1 ∧ aRf krf h_s.2.2.2
noncomputable def gI (K_s : Int32 → zH → Prop) : Option Value → zH → Prop := fun r_s h1 => ∃ v_s, r_s = some (.int v_s) ∧ hKn h1 ∧ K_s v_s h1
noncomputable def gJ (K_s : Int64 → zH → Prop) : Option Value → zH → Prop := fun r_s h1 => ∃ v_s, r_s = some (.long v_s) ∧ hKn h1 ∧ K_s v_s h1
noncomputable def gR (K_s : Nat → zH → Prop) : Option Value → zH → Prop := fun r_s h1 => ∃ v_s, r_s = some (.ref v_s) ∧ hKn h1 ∧ K_s v_s h1
noncomputable def gV (K_s : zH → Prop) : Option Value → zH → Prop := fun r_s h1 => r_s = none ∧ hKn h1 ∧ K_s h1
theorem wF_zero {mi : Nat} {x_s : zC} {G_s : Option Value → zH → Prop} : wF 0 mi x_s G_s := fun f_s _ _ _ hf _ => absurd hf (Nat.not_lt_zero f_s)
theorem wF_le {F_s F' mi : Nat} {x_s : zC} {G_s : Option Value → zH → Prop} (hl : F' ≤ F_s) (w_s : wF F_s mi x_s G_s) : wF F' mi x_s G_s := fun f_s d_s r_s h1 hf hr => w_s f_s d_s r_s h1 (Nat.lt_of_lt_of_le hf hl) hr
theorem wF_mono {F_s mi : Nat} {x_s : zC} {G_s G' : Option Value → zH → Prop} (w_s : wF F_s mi x_s G_s) (hg : ∀ r_s h1, G_s r_s h1 → G' r_s h1) : wF F_s mi x_s G' := fun f_s d_s r_s h1 hf hr => hg r_s h1 (w_s f_s d_s r_s h1 hf hr)
theorem wF_all {mi : Nat} {x_s : zC} {G_s : Option Value → zH → Prop} (w_s : ∀ F_s, wF F_s mi x_s G_s) {f_s d_s : Nat} {r_s : Option Value} {h1 : zH} (hr : zr f_s d_s mi 100000 x_s = some (.inr (r_s, h1))) : G_s r_s h1 := w_s (f_s + 1) f_s d_s r_s h1 (Nat.lt_succ_self f_s) hr
section W1_s
variable {F_s mi pc len_s : Nat} {lo_s : List (Option Value)} {st_s : List Value} {h_s : zH} {G_s : Option Value → zH → Prop} {e_s : zI}
theorem w_0 {y_s : zC} (hi_s : zi mi pc = some e_s) (hs : ∀ w_s, zstep e_s (pc, lo_s, st_s, h_s) = some w_s → w_s = .inl y_s) (k_s : wF F_s mi y_s G_s) : wF (F_s + 1) mi (pc, lo_s, st_s, h_s) G_s := by
  intro f_s d_s r_s h1 hf hr
  cases f_s with
  | zero => cases hr
  | succ f_s =>
    rcases zr_step hr with ⟨_, e2_s⟩ | ⟨e1_s, he, hq⟩
    · cases e2_s
    · have he : zi mi pc = some e1_s := he
      rw [hi_s] at he
      cases he
      rcases hq with ⟨y1, hy, hz⟩ | ⟨r1_s, hy, _⟩ | ⟨a1_s, as1, y1, d1_s, r1_s, h2, hy, _⟩
      · have q_s := hs _ hy
        cases q_s
        exact k_s f_s d_s r_s h1 (by omega) hz
      · have q_s := hs _ hy
        cases q_s
      · have q_s := hs _ hy
        cases q_s
theorem w_t {y_s : zC} (hi_s : zi mi pc = some e_s) (hs : ∀ w_s, zstep e_s (pc, lo_s, st_s, h_s) = some w_s → w_s = .inl y_s) (k_s : wF F_s mi y_s G_s) : wF F_s mi (pc, lo_s, st_s, h_s) G_s := wF_le (Nat.le_succ F_s) (w_0 hi_s hs k_s)
theorem w_r {r0 : Option Value} (hi_s : zi mi pc = some e_s) (hs : ∀ w_s, zstep e_s (pc, lo_s, st_s, h_s) = some w_s → w_s = .inr (.inr r0)) (k_s : G_s r0 h_s) : wF F_s mi (pc, lo_s, st_s, h_s) G_s := by
  intro f_s d_s r_s h1 hf hr
  cases f_s with
  | zero => cases hr
  | succ f_s =>
    rcases zr_step hr with ⟨_, e2_s⟩ | ⟨e1_s, he, hq⟩
    · cases e2_s
    · have he : zi mi pc = some e1_s := he
      rw [hi_s] at he
      cases he
      rcases hq with ⟨y1, hy, _⟩ | ⟨r1_s, hy, e2_s⟩ | ⟨a1_s, as1, y1, d1_s, r1_s, h2, hy, _⟩
      · have q_s := hs _ hy
        cases q_s
      · have q_s := hs _ hy
        cases q_s
        cases e2_s
        exact k_s
      · have q_s := hs _ hy
        cases q_s
theorem w_c {a_s : Nat} {as_s : List Value} {y_s : zC} (hi_s : zi mi pc = some e_s) (hs : ∀ w_s, zstep e_s (pc, lo_s, st_s, h_s) = some w_s → w_s = .inr (.inl (a_s, as_s, y_s))) (k_s : wF F_s a_s (0, zpad (zL a_s) (zargs as_s), [], h_s) (fun r_s h1 => wF F_s mi (y_s.1, y_s.2.1, r_s.toList ++ y_s.2.2.1, h1) G_s)) : wF F_s mi (pc, lo_s, st_s, h_s) G_s := by
  intro f_s d_s r_s h1 hf hr
  cases f_s with
  | zero => cases hr
  | succ f_s =>
    rcases zr_step hr with ⟨_, e2_s⟩ | ⟨e1_s, he, hq⟩
    · cases e2_s
    · have he : zi mi pc = some e1_s := he
      rw [hi_s] at he
      cases he
      rcases hq with ⟨y1, hy, _⟩ | ⟨r1_s, hy, _⟩ | ⟨a1_s, as1, y1, d1_s, r1_s, h2, hy, _, _, h3, h4⟩
      · have q_s := hs _ hy
        cases q_s
      · have q_s := hs _ hy
        cases q_s
      · have q_s := hs _ hy
        cases q_s
        exact k_s f_s d1_s r1_s h2 (by omega) h3 f_s (d1_s + 1) r_s h1 (by omega) h4
theorem u_ {w0_s : zO} {x_s : zC} (hz : zstep e_s x_s = some w0_s) : ∀ w_s, zstep e_s x_s = some w_s → w_s = w0_s := by
  intro w_s hw
  rw [hz] at hw
  cases hw
  rfl
end W1_s
theorem cnd_some {α : Type} {c_s : Bool} {a_s : Option α} {w_s : α} (hw : (bif c_s then a_s else none) = some w_s) : c_s = true ∧ a_s = some w_s := by
  cases c_s
  · cases hw
  · exact ⟨rfl, hw⟩
/-! a step of those operations that look at a cell's shape: an ended run has met what they look at -/
section W2_s
variable {F_s mi pc len_s a_s b_s n_s o q_s : Nat} {lo_s : List (Option Value)} {st_s : List Value} {h_s : zH} {G_s : Option Value → zH → Prop} {v_s : Value} {sw_s : List (Int32 × Nat)} {x_s y_s i_s : Int32} {z_s : Int64} {w_s : zO}
theorem u20 (hw : zstep (20, len_s, a_s, b_s, 0, v_s, sw_s) (pc, lo_s, .ref o :: st_s, h_s) = some w_s) : w_s = .inl (pc + len_s, lo_s, .int (h_s.2.1 o b_s) :: st_s, h_s) := by
  have hw : zs20 len_s a_s b_s 0 (pc, lo_s, .ref o :: st_s, h_s) = some w_s := hw
  simp only [zs20] at hw
  split at hw
  · have q2_s : some (Sum.inl (pc + len_s, lo_s, Value.int (h_s.2.1 o b_s) :: st_s, h_s)) = some w_s := (cnd_some hw).2
    cases q2_s
    rfl
  · cases hw
theorem u20b (hw : zstep (20, len_s, a_s, b_s, 2, v_s, sw_s) (pc, lo_s, .ref o :: st_s, h_s) = some w_s) : w_s = .inl (pc + len_s, lo_s, .int (h_s.2.1 o b_s) :: st_s, h_s) := by
  have hw : zs20 len_s a_s b_s 2 (pc, lo_s, .ref o :: st_s, h_s) = some w_s := hw
  simp only [zs20] at hw
  split at hw
  · have q2_s : some (Sum.inl (pc + len_s, lo_s, Value.int (h_s.2.1 o b_s) :: st_s, h_s)) = some w_s := (cnd_some hw).2
    cases q2_s
    rfl
  · cases hw
theorem u20r (hq : h_s.2.2.2 o b_s = some q_s) (hw : zstep (20, len_s, a_s, b_s, 1, v_s, sw_s) (pc, lo_s, .ref o :: st_s, h_s) = some w_s) : w_s = .inl (pc + len_s, lo_s, .ref q_s :: st_s, h_s) := by
  have hw : zs20 len_s a_s b_s 1 (pc, lo_s, .ref o :: st_s, h_s) = some w_s := hw
  simp only [zs20] at hw
  split at hw
  · have q2_s : some (Sum.inl (pc + len_s, lo_s, va_rf (h_s.2.2.2 o b_s) :: st_s, h_s)) = some w_s := (cnd_some hw).2
    rw [hq] at q2_s
    cases q2_s
    rfl
  · cases hw
theorem u21 (hw : zstep (21, len_s, a_s, b_s, 0, v_s, sw_s) (pc, lo_s, .int x_s :: .ref o :: st_s, h_s) = some w_s) : w_s = .inl (pc + len_s, lo_s, st_s, (h_s.1, zup h_s.2.1 o b_s x_s, h_s.2.2.1, h_s.2.2.2)) := by
  have hw : zs21 len_s a_s b_s 0 (pc, lo_s, .int x_s :: .ref o :: st_s, h_s) = some w_s := hw
  simp only [zs21] at hw
  split at hw
  · have q2_s : some (Sum.inl (pc + len_s, lo_s, st_s, (h_s.1, zup h_s.2.1 o b_s x_s, h_s.2.2.1, h_s.2.2.2))) = some w_s := (cnd_some hw).2
    cases q2_s
    rfl
  · cases hw
theorem u21b (hw : zstep (21, len_s, a_s, b_s, 2, v_s, sw_s) (pc, lo_s, .int x_s :: .ref o :: st_s, h_s) = some w_s) : w_s = .inl (pc + len_s, lo_s, st_s, (h_s.1, zup h_s.2.1 o b_s x_s, h_s.2.2.1, h_s.2.2.2)) := by
  have hw : zs21 len_s a_s b_s 2 (pc, lo_s, .int x_s :: .ref o :: st_s, h_s) = some w_s := hw
  simp only [zs21] at hw
  split at hw
  · have q2_s : (if x_s = 0 ∨ x_s = 1 then zgo (pc + len_s, lo_s, st_s, (h_s.1, zup h_s.2.1 o b_s x_s, h_s.2.2.1, h_s.2.2.2)) else none) = some w_s := (cnd_some hw).2
    split at q2_s
    · have q3_s : some (Sum.inl (pc + len_s, lo_s, st_s, (h_s.1, zup h_s.2.1 o b_s x_s, h_s.2.2.1, h_s.2.2.2))) = some w_s := q2_s
      cases q3_s
      rfl
    · cases q2_s
  · cases hw
theorem u21r (hw : zstep (21, len_s, a_s, b_s, 1, v_s, sw_s) (pc, lo_s, .ref q_s :: .ref o :: st_s, h_s) = some w_s) : w_s = .inl (pc + len_s, lo_s, st_s, (h_s.1, h_s.2.1, h_s.2.2.1, zup h_s.2.2.2 o b_s (some q_s))) := by
  have hw : zs21 len_s a_s b_s 1 (pc, lo_s, .ref q_s :: .ref o :: st_s, h_s) = some w_s := hw
  simp only [zs21] at hw
  split at hw
  · have q2_s : some (Sum.inl (pc + len_s, lo_s, st_s, (h_s.1, h_s.2.1, h_s.2.2.1, zup h_s.2.2.2 o b_s (some q_s)))) = some w_s := (cnd_some hw).2
    cases q2_s
    rfl
  · cases hw
theorem u22 (hw : zstep (22, len_s, a_s, b_s, n_s, v_s, sw_s) (pc, lo_s, .int i_s :: .ref o :: st_s, h_s) = some w_s) : w_s = .inl (pc + len_s, lo_s, .int (h_s.2.1 o (zix i_s)) :: st_s, h_s) ∧ ∃ t_s m_s, zget h_s.1 o = some (t_s, m_s) ∧ zix i_s < m_s := by
  have hw : zs22 len_s (pc, lo_s, .int i_s :: .ref o :: st_s, h_s) = some w_s := hw
  simp only [zs22] at hw
  split at hw
  · rename_i t_s m_s hz
    have q1_s := cnd_some hw
    have q2_s : some (Sum.inl (pc + len_s, lo_s, Value.int (h_s.2.1 o (zix i_s)) :: st_s, h_s)) = some w_s := q1_s.2
    have q3_s := q1_s.1
    rw [Bool.and_eq_true, Nat.blt_eq] at q3_s
    cases q2_s
    exact ⟨rfl, t_s, m_s, hz, q3_s.2⟩
  · cases hw
theorem u23 (hw : zstep (23, len_s, a_s, b_s, n_s, v_s, sw_s) (pc, lo_s, .int i_s :: .ref o :: st_s, h_s) = some w_s) : w_s = .inl (pc + len_s, lo_s, .long (h_s.2.2.1 o (zix i_s)) :: st_s, h_s) ∧ ∃ t_s m_s, zget h_s.1 o = some (t_s, m_s) ∧ zix i_s < m_s := by
  have hw : zs23 len_s (pc, lo_s, .int i_s :: .ref o :: st_s, h_s) = some w_s := hw
  simp only [zs23] at hw
  split at hw
  · rename_i t_s m_s hz
    have q1_s := cnd_some hw
    have q2_s : some (Sum.inl (pc + len_s, lo_s, Value.long (h_s.2.2.1 o (zix i_s)) :: st_s, h_s)) = some w_s := q1_s.2
    have q3_s := q1_s.1
    rw [Bool.and_eq_true, Nat.blt_eq] at q3_s
    cases q2_s
    exact ⟨rfl, t_s, m_s, hz, q3_s.2⟩
  · cases hw
theorem u24 (hw : zstep (24, len_s, a_s, b_s, n_s, v_s, sw_s) (pc, lo_s, .int i_s :: .ref o :: st_s, h_s) = some w_s) : w_s = .inl (pc + len_s, lo_s, va_rf (h_s.2.2.2 o (zix i_s)) :: st_s, h_s) ∧ ∃ t_s m_s, zget h_s.1 o = some (t_s, m_s) ∧ zix i_s < m_s := by
  have hw : zs24 len_s (pc, lo_s, .int i_s :: .ref o :: st_s, h_s) = some w_s := hw
  simp only [zs24] at hw
  split at hw
  · rename_i t_s m_s hz
    have q1_s := cnd_some hw
    have q2_s : some (Sum.inl (pc + len_s, lo_s, va_rf (h_s.2.2.2 o (zix i_s)) :: st_s, h_s)) = some w_s := q1_s.2
    have q3_s := q1_s.1
    rw [Bool.and_eq_true, Nat.blt_eq] at q3_s
    cases q2_s
    exact ⟨rfl, t_s, m_s, hz, q3_s.2⟩
  · cases hw
theorem u25 (hw : zstep (25, len_s, a_s, b_s, n_s, v_s, sw_s) (pc, lo_s, .int x_s :: .int i_s :: .ref o :: st_s, h_s) = some w_s) : w_s = .inl (pc + len_s, lo_s, st_s, (h_s.1, zup h_s.2.1 o (zix i_s) x_s, h_s.2.2.1, h_s.2.2.2)) ∧ ∃ t_s m_s, zget h_s.1 o = some (t_s, m_s) ∧ zix i_s < m_s := by
  have hw : zs25 len_s (pc, lo_s, .int x_s :: .int i_s :: .ref o :: st_s, h_s) = some w_s := hw
  simp only [zs25] at hw
  split at hw
  · rename_i t_s m_s hz
    have q1_s := cnd_some hw
    have q2_s : some (Sum.inl (pc + len_s, lo_s, st_s, (h_s.1, zup h_s.2.1 o (zix i_s) x_s, h_s.2.2.1, h_s.2.2.2))) = some w_s := q1_s.2
    have q3_s := q1_s.1
    rw [Bool.and_eq_true, Nat.blt_eq] at q3_s
    cases q2_s
    exact ⟨rfl, t_s, m_s, hz, q3_s.2⟩
  · cases hw
theorem u26 (hw : zstep (26, len_s, a_s, b_s, n_s, v_s, sw_s) (pc, lo_s, .long z_s :: .int i_s :: .ref o :: st_s, h_s) = some w_s) : w_s = .inl (pc + len_s, lo_s, st_s, (h_s.1, h_s.2.1, zup h_s.2.2.1 o (zix i_s) z_s, h_s.2.2.2)) ∧ ∃ t_s m_s, zget h_s.1 o = some (t_s, m_s) ∧ zix i_s < m_s := by
  have hw : zs26 len_s (pc, lo_s, .long z_s :: .int i_s :: .ref o :: st_s, h_s) = some w_s := hw
  simp only [zs26] at hw
  split at hw
  · rename_i t_s m_s hz
    have q1_s := cnd_some hw
    have q2_s : some (Sum.inl (pc + len_s, lo_s, st_s, (h_s.1, h_s.2.1, zup h_s.2.2.1 o (zix i_s) z_s, h_s.2.2.2))) = some w_s := q1_s.2
    have q3_s := q1_s.1
    rw [Bool.and_eq_true, Nat.blt_eq] at q3_s
    cases q2_s
    exact ⟨rfl, t_s, m_s, hz, q3_s.2⟩
  · cases hw
theorem u28 {t_s m_s : Nat} (hz : zget h_s.1 o = some (t_s, m_s)) (hw : zstep (28, len_s, a_s, b_s, n_s, v_s, sw_s) (pc, lo_s, .ref o :: st_s, h_s) = some w_s) : w_s = .inl (pc + len_s, lo_s, .int (Int32.ofNat m_s) :: st_s, h_s) := by
  have hw : zs28 len_s (pc, lo_s, .ref o :: st_s, h_s) = some w_s := hw
  simp only [zs28] at hw
  rw [hz] at hw
  have q2_s : some (Sum.inl (pc + len_s, lo_s, Value.int (Int32.ofNat m_s) :: st_s, h_s)) = some w_s := (cnd_some hw).2
  cases q2_s
  rfl
theorem u8 (hw : zstep (8, len_s, a_s, 0, n_s, v_s, sw_s) (pc, lo_s, .int y_s :: .int x_s :: st_s, h_s) = some w_s) : w_s = .inl (pc + len_s, lo_s, .int (x_s / y_s) :: st_s, h_s) := by
  have hw : zs8 len_s 0 (pc, lo_s, .int y_s :: .int x_s :: st_s, h_s) = some w_s := hw
  simp only [zs8] at hw
  split at hw
  · cases hw
  · have q2_s : some (Sum.inl (pc + len_s, lo_s, Value.int (x_s / y_s) :: st_s, h_s)) = some w_s := hw
    cases q2_s
    rfl
theorem u8m (hw : zstep (8, len_s, a_s, 1, n_s, v_s, sw_s) (pc, lo_s, .int y_s :: .int x_s :: st_s, h_s) = some w_s) : w_s = .inl (pc + len_s, lo_s, .int (x_s - x_s / y_s * y_s) :: st_s, h_s) := by
  have hw : zs8 len_s 1 (pc, lo_s, .int y_s :: .int x_s :: st_s, h_s) = some w_s := hw
  simp only [zs8] at hw
  split at hw
  · cases hw
  · have q2_s : some (Sum.inl (pc + len_s, lo_s, Value.int (x_s - x_s / y_s * y_s) :: st_s, h_s)) = some w_s := hw
    cases q2_s
    rfl
theorem u32 {c_s : Nat} {as_s r_s : List Value} (ht : ztake b_s [] st_s = some (as_s, r_s)) (hw : zstep (32, len_s, a_s, b_s, c_s, v_s, sw_s) (pc, lo_s, st_s, h_s) = some w_s) : w_s = .inr (.inl (a_s, as_s, (pc + len_s, lo_s, r_s, h_s))) := by
  have hw : zs32 len_s a_s b_s (c_s % 4) (c_s / 4) (pc, lo_s, st_s, h_s) = some w_s := hw
  simp only [zs32] at hw
  rw [ht] at hw
  dsimp only at hw
  have hw := (cnd_some hw).2
  split at hw
  · cases hw
    rfl
  · split at hw
    · split at hw
      · have q2_s := (cnd_some hw).2
        cases q2_s
        rfl
      · cases hw
    · cases hw
theorem u35 {c_s : Nat} (hw : zstep (35, len_s, a_s, b_s, c_s, v_s, sw_s) (pc, lo_s, [.int x_s], h_s) = some w_s) : w_s = .inr (.inr (some (.int x_s))) := by
  have hw : zs35 c_s (pc, lo_s, [.int x_s], h_s) = some w_s := hw
  simp only [zs35] at hw
  split at hw
  · split at hw
    · cases hw
      rfl
    · cases hw
  · cases hw
    rfl
theorem u34i {m1_s m2_s : Nat} {i0_s i1_s i2_s : Int32} {o0_s : Nat} (h0 : zget h_s.1 o0_s = some (0, m1_s)) (h1 : zget h_s.1 o = some (0, m2_s)) (hw : zstep (34, len_s, a_s, b_s, n_s, v_s, sw_s) (pc, lo_s, .int i2_s :: .int i1_s :: .ref o :: .int i0_s :: .ref o0_s :: st_s, h_s) = some w_s) : w_s = .inl (pc + len_s, lo_s, st_s, (h_s.1, zrow h_s.2.1 o (zcpy (h_s.2.1 o0_s) (h_s.2.1 o) (zix i0_s) (zix i1_s) (zix i2_s)), h_s.2.2.1, h_s.2.2.2)) ∧ zix i0_s + zix i2_s ≤ m1_s ∧ zix i1_s + zix i2_s ≤ m2_s := by
  have hw : zs34 len_s (pc, lo_s, .int i2_s :: .int i1_s :: .ref o :: .int i0_s :: .ref o0_s :: st_s, h_s) = some w_s := hw
  simp only [zs34] at hw
  rw [h0, h1] at hw
  dsimp only at hw
  have q1_s := cnd_some hw
  have q2_s : some (Sum.inl (pc + len_s, lo_s, st_s, (h_s.1, zrow h_s.2.1 o (zcpy (h_s.2.1 o0_s) (h_s.2.1 o) (zix i0_s) (zix i1_s) (zix i2_s)), h_s.2.2.1, h_s.2.2.2))) = some w_s := q1_s.2
  have q3_s := q1_s.1
  simp only [Bool.and_eq_true, Nat.ble_eq] at q3_s
  cases q2_s
  exact ⟨rfl, q3_s.1.2⟩
theorem u34l {m1_s m2_s : Nat} {i0_s i1_s i2_s : Int32} {o0_s : Nat} (h0 : zget h_s.1 o0_s = some (1, m1_s)) (h1 : zget h_s.1 o = some (1, m2_s)) (hw : zstep (34, len_s, a_s, b_s, n_s, v_s, sw_s) (pc, lo_s, .int i2_s :: .int i1_s :: .ref o :: .int i0_s :: .ref o0_s :: st_s, h_s) = some w_s) : w_s = .inl (pc + len_s, lo_s, st_s, (h_s.1, h_s.2.1, zrow h_s.2.2.1 o (zcpy (h_s.2.2.1 o0_s) (h_s.2.2.1 o) (zix i0_s) (zix i1_s) (zix i2_s)), h_s.2.2.2)) ∧ zix i0_s + zix i2_s ≤ m1_s ∧ zix i1_s + zix i2_s ≤ m2_s := by
  have hw : zs34 len_s (pc, lo_s, .int i2_s :: .int i1_s :: .ref o :: .int i0_s :: .ref o0_s :: st_s, h_s) = some w_s := hw
  simp only [zs34] at hw
  rw [h0, h1] at hw
  dsimp only at hw
  have q1_s := cnd_some hw
  have q2_s : some (Sum.inl (pc + len_s, lo_s, st_s, (h_s.1, h_s.2.1, zrow h_s.2.2.1 o (zcpy (h_s.2.2.1 o0_s) (h_s.2.2.1 o) (zix i0_s) (zix i1_s) (zix i2_s)), h_s.2.2.2))) = some w_s := q1_s.2
  have q3_s := q1_s.1
  simp only [Bool.and_eq_true, Nat.ble_eq] at q3_s
  cases q2_s
  exact ⟨rfl, q3_s.1.2⟩
end W2_s
/-! the rules, an operation each: what goes on from there -/
section W3
variable {F_s mi pc len_s a_s b_s c_s n_s o q_s t_s m_s : Nat} {lo_s : List (Option Value)} {st_s : List Value} {h_s : zH} {G_s : Option Value → zH → Prop} {v_s : Value} {sw_s : List (Int32 × Nat)} {x_s y_s i_s : Int32} {z_s : Int64}
theorem w20 (hi_s : zi mi pc = some (20, len_s, a_s, b_s, 0, v_s, sw_s)) (k_s : wF F_s mi (pc + len_s, lo_s, .int (h_s.2.1 o b_s) :: st_s, h_s) G_s) : wF F_s mi (pc, lo_s, .ref o :: st_s, h_s) G_s := w_t hi_s (fun _ hw => u20 hw) k_s
theorem w20b (hi_s : zi mi pc = some (20, len_s, a_s, b_s, 2, v_s, sw_s)) (k_s : wF F_s mi (pc + len_s, lo_s, .int (h_s.2.1 o b_s) :: st_s, h_s) G_s) : wF F_s mi (pc, lo_s, .ref o :: st_s, h_s) G_s := w_t hi_s (fun _ hw => u20b hw) k_s
theorem w20r (hi_s : zi mi pc = some (20, len_s, a_s, b_s, 1, v_s, sw_s)) (hq : h_s.2.2.2 o b_s = some q_s) (k_s : wF F_s mi (pc + len_s, lo_s, .ref q_s :: st_s, h_s) G_s) : wF F_s mi (pc, lo_s, .ref o :: st_s, h_s) G_s := w_t hi_s (fun _ hw => u20r hq hw) k_s
theorem w21 (hi_s : zi mi pc = some (21, len_s, a_s, b_s, 0, v_s, sw_s)) (k_s : wF F_s mi (pc + len_s, lo_s, st_s, (h_s.1, zup h_s.2.1 o b_s x_s, h_s.2.2.1, h_s.2.2.2)) G_s) : wF F_s mi (pc, lo_s, .int x_s :: .ref o :: st_s, h_s) G_s := w_t hi_s (fun _ hw => u21 hw) k_s
theorem w21b (hi_s : zi mi pc = some (21, len_s, a_s, b_s, 2, v_s, sw_s)) (k_s : wF F_s mi (pc + len_s, lo_s, st_s, (h_s.1, zup h_s.2.1 o b_s x_s, h_s.2.2.1, h_s.2.2.2)) G_s) : wF F_s mi (pc, lo_s, .int x_s :: .ref o :: st_s, h_s) G_s := w_t hi_s (fun _ hw => u21b hw) k_s
theorem w21r (hi_s : zi mi pc = some (21, len_s, a_s, b_s, 1, v_s, sw_s)) (k_s : wF F_s mi (pc + len_s, lo_s, st_s, (h_s.1, h_s.2.1, h_s.2.2.1, zup h_s.2.2.2 o b_s (some q_s))) G_s) : wF F_s mi (pc, lo_s, .ref q_s :: .ref o :: st_s, h_s) G_s := w_t hi_s (fun _ hw => u21r hw) k_s
theorem w8 (hi_s : zi mi pc = some (8, len_s, a_s, 0, n_s, v_s, sw_s)) (k_s : wF F_s mi (pc + len_s, lo_s, .int (x_s / y_s) :: st_s, h_s) G_s) : wF F_s mi (pc, lo_s, .int y_s :: .int x_s :: st_s, h_s) G_s := w_t hi_s (fun _ hw => u8 hw) k_s
theorem w8m (hi_s : zi mi pc = some (8, len_s, a_s, 1, n_s, v_s, sw_s)) (k_s : wF F_s mi (pc + len_s, lo_s, .int (x_s - x_s / y_s * y_s) :: st_s, h_s) G_s) : wF F_s mi (pc, lo_s, .int y_s :: .int x_s :: st_s, h_s) G_s := w_t hi_s (fun _ hw => u8m hw) k_s
theorem w28 (hi_s : zi mi pc = some (28, len_s, a_s, b_s, n_s, v_s, sw_s)) (hz : zget h_s.1 o = some (t_s, m_s)) (k_s : wF F_s mi (pc + len_s, lo_s, .int (Int32.ofNat m_s) :: st_s, h_s) G_s) : wF F_s mi (pc, lo_s, .ref o :: st_s, h_s) G_s := w_t hi_s (fun _ hw => u28 hz hw) k_s
/-- a step of which more is known -/
theorem w_k {y_s : zC} {e_s : zI} {P_s : Prop} (hi_s : zi mi pc = some e_s) (hs : ∀ w_s, zstep e_s (pc, lo_s, st_s, h_s) = some w_s → w_s = .inl y_s ∧ P_s) (k_s : P_s → wF F_s mi y_s G_s) : wF F_s mi (pc, lo_s, st_s, h_s) G_s := by
  intro f_s d_s r_s h1 hf hr
  cases f_s with
  | zero => cases hr
  | succ f_s =>
    rcases zr_step hr with ⟨_, e2_s⟩ | ⟨e1_s, he, hq⟩
    · cases e2_s
    · have he : zi mi pc = some e1_s := he
      rw [hi_s] at he
      cases he
      rcases hq with ⟨y1, hy, hz⟩ | ⟨r1_s, hy, _⟩ | ⟨a1_s, as1, y1, d1_s, r1_s, h2, hy, _⟩
      · have q_s := hs _ hy
        have q1_s := q_s.1
        cases q1_s
        exact k_s q_s.2 f_s d_s r_s h1 (by omega) hz
      · have q_s := (hs _ hy).1
        cases q_s
      · have q_s := (hs _ hy).1
        cases q_s
theorem wlen {P_s : Prop} (hz : zget h_s.1 o = some (t_s, m_s)) {j_s : Nat} (hw : P_s ∧ ∃ t_s m_s, zget h_s.1 o = some (t_s, m_s) ∧ j_s < m_s) : P_s ∧ j_s < m_s := by
  obtain ⟨h1, t1_s, m1_s, h2, h3⟩ := hw
  rw [hz] at h2
  cases h2
  exact ⟨h1, h3⟩
theorem w22 (hi_s : zi mi pc = some (22, len_s, a_s, b_s, n_s, v_s, sw_s)) (hz : zget h_s.1 o = some (t_s, m_s)) (k_s : zix i_s < m_s → wF F_s mi (pc + len_s, lo_s, .int (h_s.2.1 o (zix i_s)) :: st_s, h_s) G_s) : wF F_s mi (pc, lo_s, .int i_s :: .ref o :: st_s, h_s) G_s := w_k hi_s (fun _ hw => wlen hz (u22 hw)) k_s
theorem w28x (hi_s : zi mi pc = some (28, len_s, a_s, b_s, n_s, v_s, sw_s)) (k_s : ∀ m_s, wF F_s mi (pc + len_s, lo_s, .int (Int32.ofNat m_s) :: st_s, h_s) G_s) : wF F_s mi (pc, lo_s, .ref o :: st_s, h_s) G_s := by
  cases hz : zget h_s.1 o with
  | none =>
    refine w_k (y_s := (0, lo_s, st_s, h_s)) (P_s := False) hi_s (fun w_s hw => ?_) (fun q_s => q_s.elim)
    have hw : zs28 len_s (pc, lo_s, .ref o :: st_s, h_s) = some w_s := hw
    simp only [zs28] at hw
    rw [hz] at hw
    cases hw
  | some p_s =>
    obtain ⟨t1_s, m1_s⟩ := p_s
    exact w28 hi_s hz (k_s m1_s)
theorem w22x (hi_s : zi mi pc = some (22, len_s, a_s, b_s, n_s, v_s, sw_s)) (k_s : wF F_s mi (pc + len_s, lo_s, .int (h_s.2.1 o (zix i_s)) :: st_s, h_s) G_s) : wF F_s mi (pc, lo_s, .int i_s :: .ref o :: st_s, h_s) G_s := w_t hi_s (fun _ hw => (u22 hw).1) k_s
theorem w23 (hi_s : zi mi pc = some (23, len_s, a_s, b_s, n_s, v_s, sw_s)) (hz : zget h_s.1 o = some (t_s, m_s)) (k_s : zix i_s < m_s → wF F_s mi (pc + len_s, lo_s, .long (h_s.2.2.1 o (zix i_s)) :: st_s, h_s) G_s) : wF F_s mi (pc, lo_s, .int i_s :: .ref o :: st_s, h_s) G_s := w_k hi_s (fun _ hw => wlen hz (u23 hw)) k_s
theorem w24 {g_s : Nat → Nat} (hk : hKn h_s) (hi_s : zi mi pc = some (24, len_s, a_s, b_s, n_s, v_s, sw_s)) (hz : zget h_s.1 o = some (t_s, m_s)) (hg : ∀ j_s, j_s < m_s → krf o j_s = [g_s j_s]) (k_s : zix i_s < m_s → wF F_s mi (pc + len_s, lo_s, .ref (g_s (zix i_s)) :: st_s, h_s) G_s) : wF F_s mi (pc, lo_s, .int i_s :: .ref o :: st_s, h_s) G_s := by
  refine w_k (P_s := zix i_s < m_s) hi_s (fun w_s hw => ?_) k_s
  have q_s := wlen hz (u24 hw)
  obtain ⟨p_s, p1_s, p2_s⟩ := hk.2 o (zix i_s) (by rw [hg _ q_s.2]; exact List.cons_ne_nil _ _)
  rw [hg _ q_s.2] at p2_s
  rw [p1_s, List.mem_singleton.mp p2_s] at q_s
  exact q_s
theorem w25 (hi_s : zi mi pc = some (25, len_s, a_s, b_s, n_s, v_s, sw_s)) (hz : zget h_s.1 o = some (t_s, m_s)) (k_s : zix i_s < m_s → wF F_s mi (pc + len_s, lo_s, st_s, (h_s.1, zup h_s.2.1 o (zix i_s) x_s, h_s.2.2.1, h_s.2.2.2)) G_s) : wF F_s mi (pc, lo_s, .int x_s :: .int i_s :: .ref o :: st_s, h_s) G_s := w_k hi_s (fun _ hw => wlen hz (u25 hw)) k_s
theorem w26 (hi_s : zi mi pc = some (26, len_s, a_s, b_s, n_s, v_s, sw_s)) (hz : zget h_s.1 o = some (t_s, m_s)) (k_s : zix i_s < m_s → wF F_s mi (pc + len_s, lo_s, st_s, (h_s.1, h_s.2.1, zup h_s.2.2.1 o (zix i_s) z_s, h_s.2.2.2)) G_s) : wF F_s mi (pc, lo_s, .long z_s :: .int i_s :: .ref o :: st_s, h_s) G_s := w_k hi_s (fun _ hw => wlen hz (u26 hw)) k_s
theorem w34i {m1_s : Nat} {i0_s i1_s i2_s : Int32} {o0_s : Nat} (hi_s : zi mi pc = some (34, len_s, a_s, b_s, n_s, v_s, sw_s)) (h0 : zget h_s.1 o0_s = some (0, m1_s)) (h1 : zget h_s.1 o = some (0, m_s)) (k_s : zix i0_s + zix i2_s ≤ m1_s ∧ zix i1_s + zix i2_s ≤ m_s → wF F_s mi (pc + len_s, lo_s, st_s, (h_s.1, zrow h_s.2.1 o (zcpy (h_s.2.1 o0_s) (h_s.2.1 o) (zix i0_s) (zix i1_s) (zix i2_s)), h_s.2.2.1, h_s.2.2.2)) G_s) : wF F_s mi (pc, lo_s, .int i2_s :: .int i1_s :: .ref o :: .int i0_s :: .ref o0_s :: st_s, h_s) G_s := w_k hi_s (fun _ hw => u34i h0 h1 hw) k_s
theorem w34l {m1_s : Nat} {i0_s i1_s i2_s : Int32} {o0_s : Nat} (hi_s : zi mi pc = some (34, len_s, a_s, b_s, n_s, v_s, sw_s)) (h0 : zget h_s.1 o0_s = some (1, m1_s)) (h1 : zget h_s.1 o = some (1, m_s)) (k_s : zix i0_s + zix i2_s ≤ m1_s ∧ zix i1_s + zix i2_s ≤ m_s → wF F_s mi (pc + len_s, lo_s, st_s, (h_s.1, h_s.2.1, zrow h_s.2.2.1 o (zcpy (h_s.2.2.1 o0_s) (h_s.2.2.1 o) (zix i0_s) (zix i1_s) (zix i2_s)), h_s.2.2.2)) G_s) : wF F_s mi (pc, lo_s, .int i2_s :: .int i1_s :: .ref o :: .int i0_s :: .ref o0_s :: st_s, h_s) G_s := w_k hi_s (fun _ hw => u34l h0 h1 hw) k_s
theorem i0n : (0 : Int32).toInt = 0 := rfl
theorem il_ (x_s y_s : Int32) : x_s < y_s ↔ x_s.toInt < y_s.toInt := Int32.lt_iff_toInt_lt
theorem ie_ (x_s y_s : Int32) : x_s = y_s ↔ x_s.toInt = y_s.toInt := Int32.toInt_inj.symm
theorem jl_ (x_s y_s : Int64) : lg_cmp x_s y_s < 0 ↔ x_s.toInt < y_s.toInt := by
  unfold lg_cmp
  by_cases c1_s : x_s > y_s
  · rw [if_pos c1_s]
    have c2_s := Int64.lt_iff_toInt_lt.mp c1_s
    exact ⟨fun q_s => absurd q_s (by decide), fun q_s => absurd q_s (by omega)⟩
  · rw [if_neg c1_s]
    by_cases c2_s : x_s = y_s
    · rw [if_pos c2_s, c2_s]
      exact ⟨fun q_s => absurd q_s (by decide), fun q_s => absurd q_s (by omega)⟩
    · rw [if_neg c2_s]
      have c3_s : x_s.toInt ≠ y_s.toInt := fun q_s => c2_s (Int64.toInt_inj.mp q_s)
      have c4_s : ¬ y_s.toInt < x_s.toInt := fun q_s => c1_s (Int64.lt_iff_toInt_lt.mpr q_s)
      exact ⟨fun _ => by omega, fun _ => by decide⟩
theorem jg_ (x_s y_s : Int64) : 0 < lg_cmp x_s y_s ↔ y_s.toInt < x_s.toInt := by
  unfold lg_cmp
  by_cases c1_s : x_s > y_s
  · rw [if_pos c1_s]
    exact ⟨fun _ => Int64.lt_iff_toInt_lt.mp c1_s, fun _ => by decide⟩
  · rw [if_neg c1_s]
    have c4_s : ¬ y_s.toInt < x_s.toInt := fun q_s => c1_s (Int64.lt_iff_toInt_lt.mpr q_s)
    by_cases c2_s : x_s = y_s
    · rw [if_pos c2_s]
      exact ⟨fun q_s => absurd q_s (by decide), fun q_s => absurd q_s c4_s⟩
    · rw [if_neg c2_s]
      exact ⟨fun q_s => absurd q_s (by decide), fun q_s => absurd q_s c4_s⟩
theorem je_ (x_s y_s : Int64) : lg_cmp x_s y_s = 0 ↔ x_s.toInt = y_s.toInt := by
  unfold lg_cmp
  by_cases c1_s : x_s > y_s
  · rw [if_pos c1_s]
    have c2_s := Int64.lt_iff_toInt_lt.mp c1_s
    exact ⟨fun q_s => absurd q_s (by decide), fun q_s => absurd q_s (by omega)⟩
  · rw [if_neg c1_s]
    by_cases c2_s : x_s = y_s
    · rw [if_pos c2_s, c2_s]
      exact ⟨fun _ => rfl, fun _ => rfl⟩
    · rw [if_neg c2_s]
      exact ⟨fun q_s => absurd q_s (by decide), fun q_s => absurd (Int64.toInt_inj.mp q_s) c2_s⟩
theorem iq2 (x_s : Int32) : x_s < 0 ↔ x_s.toInt < 0 := il_ x_s 0
theorem iq4 (x_s : Int32) : 0 < x_s ↔ 0 < x_s.toInt := il_ 0 x_s
theorem iq0 (x_s : Int32) : x_s = 0 ↔ x_s.toInt = 0 := ie_ x_s 0
theorem wq0 {X_s : Int} (hi_s : zi mi pc = some (15, len_s, a_s, 0, c_s, v_s, sw_s)) (hx : x_s.toInt = X_s) (k1_s : X_s = 0 → wF F_s mi (a_s, lo_s, st_s, h_s) G_s) (k2_s : ¬ X_s = 0 → wF F_s mi (pc + len_s, lo_s, st_s, h_s) G_s) : wF F_s mi (pc, lo_s, .int x_s :: st_s, h_s) G_s := by
  subst hx
  have w_s := fun k_s => @w_t F_s mi pc lo_s (.int x_s :: st_s) h_s G_s _ (zif 0 x_s a_s (pc + len_s), lo_s, st_s, h_s) hi_s (u_ rfl) k_s
  by_cases hc_s : x_s.toInt = 0
  · rw [show zif 0 x_s a_s (pc + len_s) = a_s from if_pos ((iq0 x_s).mpr hc_s)] at w_s
    exact w_s (k1_s hc_s)
  · rw [show zif 0 x_s a_s (pc + len_s) = pc + len_s from if_neg (fun q_s => hc_s ((iq0 x_s).mp q_s))] at w_s
    exact w_s (k2_s hc_s)
theorem wq1 {X_s : Int} (hi_s : zi mi pc = some (15, len_s, a_s, 1, c_s, v_s, sw_s)) (hx : x_s.toInt = X_s) (k1_s : X_s = 0 → wF F_s mi (pc + len_s, lo_s, st_s, h_s) G_s) (k2_s : ¬ X_s = 0 → wF F_s mi (a_s, lo_s, st_s, h_s) G_s) : wF F_s mi (pc, lo_s, .int x_s :: st_s, h_s) G_s := by
  subst hx
  have w_s := fun k_s => @w_t F_s mi pc lo_s (.int x_s :: st_s) h_s G_s _ (zif 1 x_s a_s (pc + len_s), lo_s, st_s, h_s) hi_s (u_ rfl) k_s
  by_cases hc_s : x_s.toInt = 0
  · rw [show zif 1 x_s a_s (pc + len_s) = pc + len_s from if_pos ((iq0 x_s).mpr hc_s)] at w_s
    exact w_s (k1_s hc_s)
  · rw [show zif 1 x_s a_s (pc + len_s) = a_s from if_neg (fun q_s => hc_s ((iq0 x_s).mp q_s))] at w_s
    exact w_s (k2_s hc_s)
theorem wq2 {X_s : Int} (hi_s : zi mi pc = some (15, len_s, a_s, 2, c_s, v_s, sw_s)) (hx : x_s.toInt = X_s) (k1_s : X_s < 0 → wF F_s mi (a_s, lo_s, st_s, h_s) G_s) (k2_s : ¬ X_s < 0 → wF F_s mi (pc + len_s, lo_s, st_s, h_s) G_s) : wF F_s mi (pc, lo_s, .int x_s :: st_s, h_s) G_s := by
  subst hx
  have w_s := fun k_s => @w_t F_s mi pc lo_s (.int x_s :: st_s) h_s G_s _ (zif 2 x_s a_s (pc + len_s), lo_s, st_s, h_s) hi_s (u_ rfl) k_s
  by_cases hc_s : x_s.toInt < 0
  · rw [show zif 2 x_s a_s (pc + len_s) = a_s from if_pos ((iq2 x_s).mpr hc_s)] at w_s
    exact w_s (k1_s hc_s)
  · rw [show zif 2 x_s a_s (pc + len_s) = pc + len_s from if_neg (fun q_s => hc_s ((iq2 x_s).mp q_s))] at w_s
    exact w_s (k2_s hc_s)
theorem wq3 {X_s : Int} (hi_s : zi mi pc = some (15, len_s, a_s, 3, c_s, v_s, sw_s)) (hx : x_s.toInt = X_s) (k1_s : X_s < 0 → wF F_s mi (pc + len_s, lo_s, st_s, h_s) G_s) (k2_s : ¬ X_s < 0 → wF F_s mi (a_s, lo_s, st_s, h_s) G_s) : wF F_s mi (pc, lo_s, .int x_s :: st_s, h_s) G_s := by
  subst hx
  have w_s := fun k_s => @w_t F_s mi pc lo_s (.int x_s :: st_s) h_s G_s _ (zif 3 x_s a_s (pc + len_s), lo_s, st_s, h_s) hi_s (u_ rfl) k_s
  by_cases hc_s : x_s.toInt < 0
  · rw [show zif 3 x_s a_s (pc + len_s) = pc + len_s from if_pos ((iq2 x_s).mpr hc_s)] at w_s
    exact w_s (k1_s hc_s)
  · rw [show zif 3 x_s a_s (pc + len_s) = a_s from if_neg (fun q_s => hc_s ((iq2 x_s).mp q_s))] at w_s
    exact w_s (k2_s hc_s)
theorem wq4 {X_s : Int} (hi_s : zi mi pc = some (15, len_s, a_s, 4, c_s, v_s, sw_s)) (hx : x_s.toInt = X_s) (k1_s : 0 < X_s → wF F_s mi (a_s, lo_s, st_s, h_s) G_s) (k2_s : ¬ 0 < X_s → wF F_s mi (pc + len_s, lo_s, st_s, h_s) G_s) : wF F_s mi (pc, lo_s, .int x_s :: st_s, h_s) G_s := by
  subst hx
  have w_s := fun k_s => @w_t F_s mi pc lo_s (.int x_s :: st_s) h_s G_s _ (zif 4 x_s a_s (pc + len_s), lo_s, st_s, h_s) hi_s (u_ rfl) k_s
  by_cases hc_s : 0 < x_s.toInt
  · rw [show zif 4 x_s a_s (pc + len_s) = a_s from if_pos ((iq4 x_s).mpr hc_s)] at w_s
    exact w_s (k1_s hc_s)
  · rw [show zif 4 x_s a_s (pc + len_s) = pc + len_s from if_neg (fun q_s => hc_s ((iq4 x_s).mp q_s))] at w_s
    exact w_s (k2_s hc_s)
theorem wq5 {X_s : Int} (hi_s : zi mi pc = some (15, len_s, a_s, 5, c_s, v_s, sw_s)) (hx : x_s.toInt = X_s) (k1_s : 0 < X_s → wF F_s mi (pc + len_s, lo_s, st_s, h_s) G_s) (k2_s : ¬ 0 < X_s → wF F_s mi (a_s, lo_s, st_s, h_s) G_s) : wF F_s mi (pc, lo_s, .int x_s :: st_s, h_s) G_s := by
  subst hx
  have w_s := fun k_s => @w_t F_s mi pc lo_s (.int x_s :: st_s) h_s G_s _ (zif 5 x_s a_s (pc + len_s), lo_s, st_s, h_s) hi_s (u_ rfl) k_s
  by_cases hc_s : 0 < x_s.toInt
  · rw [show zif 5 x_s a_s (pc + len_s) = pc + len_s from if_pos ((iq4 x_s).mpr hc_s)] at w_s
    exact w_s (k1_s hc_s)
  · rw [show zif 5 x_s a_s (pc + len_s) = a_s from if_neg (fun q_s => hc_s ((iq4 x_s).mp q_s))] at w_s
    exact w_s (k2_s hc_s)
theorem wi0 {X_s Y : Int} (hi_s : zi mi pc = some (16, len_s, a_s, 0, c_s, v_s, sw_s)) (hx : x_s.toInt = X_s) (hy : y_s.toInt = Y) (k1_s : X_s = Y → wF F_s mi (a_s, lo_s, st_s, h_s) G_s) (k2_s : ¬ X_s = Y → wF F_s mi (pc + len_s, lo_s, st_s, h_s) G_s) : wF F_s mi (pc, lo_s, .int y_s :: .int x_s :: st_s, h_s) G_s := by
  subst hx
  subst hy
  have w_s := fun k_s => @w_t F_s mi pc lo_s (.int y_s :: .int x_s :: st_s) h_s G_s _ (zicmp 0 x_s y_s a_s (pc + len_s), lo_s, st_s, h_s) hi_s (u_ rfl) k_s
  by_cases hc_s : x_s.toInt = y_s.toInt
  · rw [show zicmp 0 x_s y_s a_s (pc + len_s) = a_s from if_pos ((ie_ x_s y_s).mpr hc_s)] at w_s
    exact w_s (k1_s hc_s)
  · rw [show zicmp 0 x_s y_s a_s (pc + len_s) = pc + len_s from if_neg (fun q_s => hc_s ((ie_ x_s y_s).mp q_s))] at w_s
    exact w_s (k2_s hc_s)
theorem wi1 {X_s Y : Int} (hi_s : zi mi pc = some (16, len_s, a_s, 1, c_s, v_s, sw_s)) (hx : x_s.toInt = X_s) (hy : y_s.toInt = Y) (k1_s : X_s = Y → wF F_s mi (pc + len_s, lo_s, st_s, h_s) G_s) (k2_s : ¬ X_s = Y → wF F_s mi (a_s, lo_s, st_s, h_s) G_s) : wF F_s mi (pc, lo_s, .int y_s :: .int x_s :: st_s, h_s) G_s := by
  subst hx
  subst hy
  have w_s := fun k_s => @w_t F_s mi pc lo_s (.int y_s :: .int x_s :: st_s) h_s G_s _ (zicmp 1 x_s y_s a_s (pc + len_s), lo_s, st_s, h_s) hi_s (u_ rfl) k_s
  by_cases hc_s : x_s.toInt = y_s.toInt
  · rw [show zicmp 1 x_s y_s a_s (pc + len_s) = pc + len_s from if_pos ((ie_ x_s y_s).mpr hc_s)] at w_s
    exact w_s (k1_s hc_s)
  · rw [show zicmp 1 x_s y_s a_s (pc + len_s) = a_s from if_neg (fun q_s => hc_s ((ie_ x_s y_s).mp q_s))] at w_s
    exact w_s (k2_s hc_s)
theorem wi2 {X_s Y : Int} (hi_s : zi mi pc = some (16, len_s, a_s, 2, c_s, v_s, sw_s)) (hx : x_s.toInt = X_s) (hy : y_s.toInt = Y) (k1_s : X_s < Y → wF F_s mi (a_s, lo_s, st_s, h_s) G_s) (k2_s : ¬ X_s < Y → wF F_s mi (pc + len_s, lo_s, st_s, h_s) G_s) : wF F_s mi (pc, lo_s, .int y_s :: .int x_s :: st_s, h_s) G_s := by
  subst hx
  subst hy
  have w_s := fun k_s => @w_t F_s mi pc lo_s (.int y_s :: .int x_s :: st_s) h_s G_s _ (zicmp 2 x_s y_s a_s (pc + len_s), lo_s, st_s, h_s) hi_s (u_ rfl) k_s
  by_cases hc_s : x_s.toInt < y_s.toInt
  · rw [show zicmp 2 x_s y_s a_s (pc + len_s) = a_s from if_pos ((il_ x_s y_s).mpr hc_s)] at w_s
    exact w_s (k1_s hc_s)
  · rw [show zicmp 2 x_s y_s a_s (pc + len_s) = pc + len_s from if_neg (fun q_s => hc_s ((il_ x_s y_s).mp q_s))] at w_s
    exact w_s (k2_s hc_s)
theorem wi3 {X_s Y : Int} (hi_s : zi mi pc = some (16, len_s, a_s, 3, c_s, v_s, sw_s)) (hx : x_s.toInt = X_s) (hy : y_s.toInt = Y) (k1_s : X_s < Y → wF F_s mi (pc + len_s, lo_s, st_s, h_s) G_s) (k2_s : ¬ X_s < Y → wF F_s mi (a_s, lo_s, st_s, h_s) G_s) : wF F_s mi (pc, lo_s, .int y_s :: .int x_s :: st_s, h_s) G_s := by
  subst hx
  subst hy
  have w_s := fun k_s => @w_t F_s mi pc lo_s (.int y_s :: .int x_s :: st_s) h_s G_s _ (zicmp 3 x_s y_s a_s (pc + len_s), lo_s, st_s, h_s) hi_s (u_ rfl) k_s
  by_cases hc_s : x_s.toInt < y_s.toInt
  · rw [show zicmp 3 x_s y_s a_s (pc + len_s) = pc + len_s from if_pos ((il_ x_s y_s).mpr hc_s)] at w_s
    exact w_s (k1_s hc_s)
  · rw [show zicmp 3 x_s y_s a_s (pc + len_s) = a_s from if_neg (fun q_s => hc_s ((il_ x_s y_s).mp q_s))] at w_s
    exact w_s (k2_s hc_s)
theorem wi4 {X_s Y : Int} (hi_s : zi mi pc = some (16, len_s, a_s, 4, c_s, v_s, sw_s)) (hx : x_s.toInt = X_s) (hy : y_s.toInt = Y) (k1_s : Y < X_s → wF F_s mi (a_s, lo_s, st_s, h_s) G_s) (k2_s : ¬ Y < X_s → wF F_s mi (pc + len_s, lo_s, st_s, h_s) G_s) : wF F_s mi (pc, lo_s, .int y_s :: .int x_s :: st_s, h_s) G_s := by
  subst hx
  subst hy
  have w_s := fun k_s => @w_t F_s mi pc lo_s (.int y_s :: .int x_s :: st_s) h_s G_s _ (zicmp 4 x_s y_s a_s (pc + len_s), lo_s, st_s, h_s) hi_s (u_ rfl) k_s
  by_cases hc_s : y_s.toInt < x_s.toInt
  · rw [show zicmp 4 x_s y_s a_s (pc + len_s) = a_s from if_pos ((il_ y_s x_s).mpr hc_s)] at w_s
    exact w_s (k1_s hc_s)
  · rw [show zicmp 4 x_s y_s a_s (pc + len_s) = pc + len_s from if_neg (fun q_s => hc_s ((il_ y_s x_s).mp q_s))] at w_s
    exact w_s (k2_s hc_s)
theorem wi5 {X_s Y : Int} (hi_s : zi mi pc = some (16, len_s, a_s, 5, c_s, v_s, sw_s)) (hx : x_s.toInt = X_s) (hy : y_s.toInt = Y) (k1_s : Y < X_s → wF F_s mi (pc + len_s, lo_s, st_s, h_s) G_s) (k2_s : ¬ Y < X_s → wF F_s mi (a_s, lo_s, st_s, h_s) G_s) : wF F_s mi (pc, lo_s, .int y_s :: .int x_s :: st_s, h_s) G_s := by
  subst hx
  subst hy
  have w_s := fun k_s => @w_t F_s mi pc lo_s (.int y_s :: .int x_s :: st_s) h_s G_s _ (zicmp 5 x_s y_s a_s (pc + len_s), lo_s, st_s, h_s) hi_s (u_ rfl) k_s
  by_cases hc_s : y_s.toInt < x_s.toInt
  · rw [show zicmp 5 x_s y_s a_s (pc + len_s) = pc + len_s from if_pos ((il_ y_s x_s).mpr hc_s)] at w_s
    exact w_s (k1_s hc_s)
  · rw [show zicmp 5 x_s y_s a_s (pc + len_s) = a_s from if_neg (fun q_s => hc_s ((il_ y_s x_s).mp q_s))] at w_s
    exact w_s (k2_s hc_s)
theorem wl0 {x_s y_s : Int64} {X_s Y : Int} (hi_s : zi mi pc = some (15, len_s, a_s, 0, c_s, v_s, sw_s)) (hx : x_s.toInt = X_s) (hy : y_s.toInt = Y) (k1_s : X_s = Y → wF F_s mi (a_s, lo_s, st_s, h_s) G_s) (k2_s : ¬ X_s = Y → wF F_s mi (pc + len_s, lo_s, st_s, h_s) G_s) : wF F_s mi (pc, lo_s, .int (lg_cmp x_s y_s) :: st_s, h_s) G_s := by
  subst hx
  subst hy
  have w_s := fun k_s => @w_t F_s mi pc lo_s (.int (lg_cmp x_s y_s) :: st_s) h_s G_s _ (zif 0 (lg_cmp x_s y_s) a_s (pc + len_s), lo_s, st_s, h_s) hi_s (u_ rfl) k_s
  by_cases hc_s : x_s.toInt = y_s.toInt
  · rw [show zif 0 (lg_cmp x_s y_s) a_s (pc + len_s) = a_s from if_pos ((je_ x_s y_s).mpr hc_s)] at w_s
    exact w_s (k1_s hc_s)
  · rw [show zif 0 (lg_cmp x_s y_s) a_s (pc + len_s) = pc + len_s from if_neg (fun q_s => hc_s ((je_ x_s y_s).mp q_s))] at w_s
    exact w_s (k2_s hc_s)
theorem wl1 {x_s y_s : Int64} {X_s Y : Int} (hi_s : zi mi pc = some (15, len_s, a_s, 1, c_s, v_s, sw_s)) (hx : x_s.toInt = X_s) (hy : y_s.toInt = Y) (k1_s : X_s = Y → wF F_s mi (pc + len_s, lo_s, st_s, h_s) G_s) (k2_s : ¬ X_s = Y → wF F_s mi (a_s, lo_s, st_s, h_s) G_s) : wF F_s mi (pc, lo_s, .int (lg_cmp x_s y_s) :: st_s, h_s) G_s := by
  subst hx
  subst hy
  have w_s := fun k_s => @w_t F_s mi pc lo_s (.int (lg_cmp x_s y_s) :: st_s) h_s G_s _ (zif 1 (lg_cmp x_s y_s) a_s (pc + len_s), lo_s, st_s, h_s) hi_s (u_ rfl) k_s
  by_cases hc_s : x_s.toInt = y_s.toInt
  · rw [show zif 1 (lg_cmp x_s y_s) a_s (pc + len_s) = pc + len_s from if_pos ((je_ x_s y_s).mpr hc_s)] at w_s
    exact w_s (k1_s hc_s)
  · rw [show zif 1 (lg_cmp x_s y_s) a_s (pc + len_s) = a_s from if_neg (fun q_s => hc_s ((je_ x_s y_s).mp q_s))] at w_s
    exact w_s (k2_s hc_s)
theorem wl2 {x_s y_s : Int64} {X_s Y : Int} (hi_s : zi mi pc = some (15, len_s, a_s, 2, c_s, v_s, sw_s)) (hx : x_s.toInt = X_s) (hy : y_s.toInt = Y) (k1_s : X_s < Y → wF F_s mi (a_s, lo_s, st_s, h_s) G_s) (k2_s : ¬ X_s < Y → wF F_s mi (pc + len_s, lo_s, st_s, h_s) G_s) : wF F_s mi (pc, lo_s, .int (lg_cmp x_s y_s) :: st_s, h_s) G_s := by
  subst hx
  subst hy
  have w_s := fun k_s => @w_t F_s mi pc lo_s (.int (lg_cmp x_s y_s) :: st_s) h_s G_s _ (zif 2 (lg_cmp x_s y_s) a_s (pc + len_s), lo_s, st_s, h_s) hi_s (u_ rfl) k_s
  by_cases hc_s : x_s.toInt < y_s.toInt
  · rw [show zif 2 (lg_cmp x_s y_s) a_s (pc + len_s) = a_s from if_pos ((jl_ x_s y_s).mpr hc_s)] at w_s
    exact w_s (k1_s hc_s)
  · rw [show zif 2 (lg_cmp x_s y_s) a_s (pc + len_s) = pc + len_s from if_neg (fun q_s => hc_s ((jl_ x_s y_s).mp q_s))] at w_s
    exact w_s (k2_s hc_s)
theorem wl3 {x_s y_s : Int64} {X_s Y : Int} (hi_s : zi mi pc = some (15, len_s, a_s, 3, c_s, v_s, sw_s)) (hx : x_s.toInt = X_s) (hy : y_s.toInt = Y) (k1_s : X_s < Y → wF F_s mi (pc + len_s, lo_s, st_s, h_s) G_s) (k2_s : ¬ X_s < Y → wF F_s mi (a_s, lo_s, st_s, h_s) G_s) : wF F_s mi (pc, lo_s, .int (lg_cmp x_s y_s) :: st_s, h_s) G_s := by
  subst hx
  subst hy
  have w_s := fun k_s => @w_t F_s mi pc lo_s (.int (lg_cmp x_s y_s) :: st_s) h_s G_s _ (zif 3 (lg_cmp x_s y_s) a_s (pc + len_s), lo_s, st_s, h_s) hi_s (u_ rfl) k_s
  by_cases hc_s : x_s.toInt < y_s.toInt
  · rw [show zif 3 (lg_cmp x_s y_s) a_s (pc + len_s) = pc + len_s from if_pos ((jl_ x_s y_s).mpr hc_s)] at w_s
    exact w_s (k1_s hc_s)
  · rw [show zif 3 (lg_cmp x_s y_s) a_s (pc + len_s) = a_s from if_neg (fun q_s => hc_s ((jl_ x_s y_s).mp q_s))] at w_s
    exact w_s (k2_s hc_s)
theorem wl4 {x_s y_s : Int64} {X_s Y : Int} (hi_s : zi mi pc = some (15, len_s, a_s, 4, c_s, v_s, sw_s)) (hx : x_s.toInt = X_s) (hy : y_s.toInt = Y) (k1_s : Y < X_s → wF F_s mi (a_s, lo_s, st_s, h_s) G_s) (k2_s : ¬ Y < X_s → wF F_s mi (pc + len_s, lo_s, st_s, h_s) G_s) : wF F_s mi (pc, lo_s, .int (lg_cmp x_s y_s) :: st_s, h_s) G_s := by
  subst hx
  subst hy
  have w_s := fun k_s => @w_t F_s mi pc lo_s (.int (lg_cmp x_s y_s) :: st_s) h_s G_s _ (zif 4 (lg_cmp x_s y_s) a_s (pc + len_s), lo_s, st_s, h_s) hi_s (u_ rfl) k_s
  by_cases hc_s : y_s.toInt < x_s.toInt
  · rw [show zif 4 (lg_cmp x_s y_s) a_s (pc + len_s) = a_s from if_pos ((jg_ x_s y_s).mpr hc_s)] at w_s
    exact w_s (k1_s hc_s)
  · rw [show zif 4 (lg_cmp x_s y_s) a_s (pc + len_s) = pc + len_s from if_neg (fun q_s => hc_s ((jg_ x_s y_s).mp q_s))] at w_s
    exact w_s (k2_s hc_s)
theorem wl5 {x_s y_s : Int64} {X_s Y : Int} (hi_s : zi mi pc = some (15, len_s, a_s, 5, c_s, v_s, sw_s)) (hx : x_s.toInt = X_s) (hy : y_s.toInt = Y) (k1_s : Y < X_s → wF F_s mi (pc + len_s, lo_s, st_s, h_s) G_s) (k2_s : ¬ Y < X_s → wF F_s mi (a_s, lo_s, st_s, h_s) G_s) : wF F_s mi (pc, lo_s, .int (lg_cmp x_s y_s) :: st_s, h_s) G_s := by
  subst hx
  subst hy
  have w_s := fun k_s => @w_t F_s mi pc lo_s (.int (lg_cmp x_s y_s) :: st_s) h_s G_s _ (zif 5 (lg_cmp x_s y_s) a_s (pc + len_s), lo_s, st_s, h_s) hi_s (u_ rfl) k_s
  by_cases hc_s : y_s.toInt < x_s.toInt
  · rw [show zif 5 (lg_cmp x_s y_s) a_s (pc + len_s) = pc + len_s from if_pos ((jg_ x_s y_s).mpr hc_s)] at w_s
    exact w_s (k1_s hc_s)
  · rw [show zif 5 (lg_cmp x_s y_s) a_s (pc + len_s) = a_s from if_neg (fun q_s => hc_s ((jg_ x_s y_s).mp q_s))] at w_s
    exact w_s (k2_s hc_s)
theorem wsw (hi_s : zi mi pc = some (18, len_s, a_s, b_s, c_s, v_s, sw_s)) (k_s : wF F_s mi (zsw x_s sw_s a_s, lo_s, st_s, h_s) G_s) : wF F_s mi (pc, lo_s, .int x_s :: st_s, h_s) G_s := w_t hi_s (u_ rfl) k_s
theorem wsc {k_s : Int32} {X_s Y : Int} (hx : x_s.toInt = Y) (hk : k_s.toInt = X_s) (k1_s : Y = X_s → wF F_s mi (t_s, lo_s, st_s, h_s) G_s) (k2_s : ¬ Y = X_s → wF F_s mi (zsw x_s sw_s a_s, lo_s, st_s, h_s) G_s) : wF F_s mi (zsw x_s ((k_s, t_s) :: sw_s) a_s, lo_s, st_s, h_s) G_s := by
  subst hx
  subst hk
  by_cases hc_s : x_s.toInt = k_s.toInt
  · rw [show zsw x_s ((k_s, t_s) :: sw_s) a_s = t_s from if_pos ((ie_ x_s k_s).mpr hc_s)]
    exact k1_s hc_s
  · rw [show zsw x_s ((k_s, t_s) :: sw_s) a_s = zsw x_s sw_s a_s from if_neg (fun q_s => hc_s ((ie_ x_s k_s).mp q_s))]
    exact k2_s hc_s
/-- calls: into the callee; or by what is known of it -/
theorem wcI {as_s r_s : List Value} {l : List (Option Value)} (hi_s : zi mi pc = some (32, len_s, a_s, b_s, c_s, v_s, sw_s)) (ht : ztake b_s [] st_s = some (as_s, r_s)) (hl : zpad (zL a_s) (zargs as_s) = l) (k_s : wF F_s a_s (0, l, [], h_s) (gI (fun u_s h1 => wF F_s mi (pc + len_s, lo_s, .int u_s :: r_s, h1) G_s))) : wF F_s mi (pc, lo_s, st_s, h_s) G_s := by
  subst hl
  refine w_c hi_s (fun _ hw => u32 ht hw) (wF_mono k_s (fun r1_s h1 q_s => ?_))
  obtain ⟨u_s, rfl, _, q_s⟩ := q_s
  exact q_s
theorem wcJ {as_s r_s : List Value} {l : List (Option Value)} (hi_s : zi mi pc = some (32, len_s, a_s, b_s, c_s, v_s, sw_s)) (ht : ztake b_s [] st_s = some (as_s, r_s)) (hl : zpad (zL a_s) (zargs as_s) = l) (k_s : wF F_s a_s (0, l, [], h_s) (gJ (fun u_s h1 => wF F_s mi (pc + len_s, lo_s, .long u_s :: r_s, h1) G_s))) : wF F_s mi (pc, lo_s, st_s, h_s) G_s := by
  subst hl
  refine w_c hi_s (fun _ hw => u32 ht hw) (wF_mono k_s (fun r1_s h1 q_s => ?_))
  obtain ⟨u_s, rfl, _, q_s⟩ := q_s
  exact q_s
theorem wcR {as_s r_s : List Value} {l : List (Option Value)} (hi_s : zi mi pc = some (32, len_s, a_s, b_s, c_s, v_s, sw_s)) (ht : ztake b_s [] st_s = some (as_s, r_s)) (hl : zpad (zL a_s) (zargs as_s) = l) (k_s : wF F_s a_s (0, l, [], h_s) (gR (fun u_s h1 => wF F_s mi (pc + len_s, lo_s, .ref u_s :: r_s, h1) G_s))) : wF F_s mi (pc, lo_s, st_s, h_s) G_s := by
  subst hl
  refine w_c hi_s (fun _ hw => u32 ht hw) (wF_mono k_s (fun r1_s h1 q_s => ?_))
  obtain ⟨u_s, rfl, _, q_s⟩ := q_s
  exact q_s
theorem wcV {as_s r_s : List Value} {l : List (Option Value)} (hi_s : zi mi pc = some (32, len_s, a_s, b_s, c_s, v_s, sw_s)) (ht : ztake b_s [] st_s = some (as_s, r_s)) (hl : zpad (zL a_s) (zargs as_s) = l) (k_s : wF F_s a_s (0, l, [], h_s) (gV (fun h1 => wF F_s mi (pc + len_s, lo_s, r_s, h1) G_s))) : wF F_s mi (pc, lo_s, st_s, h_s) G_s := by
  subst hl
  refine w_c hi_s (fun _ hw => u32 ht hw) (wF_mono k_s (fun r1_s h1 q_s => ?_))
  obtain ⟨rfl, _, q_s⟩ := q_s
  exact q_s
theorem wmI {K_s K' : Int32 → zH → Prop} {x_s : zC} (t_s : wF F_s mi x_s (gI K_s)) (k_s : ∀ u_s h1, hKn h1 → K_s u_s h1 → K' u_s h1) : wF F_s mi x_s (gI K') := wF_mono t_s (fun _ h1 ⟨u_s, e_s, q_s, p_s⟩ => ⟨u_s, e_s, q_s, k_s u_s h1 q_s p_s⟩)
theorem wmJ {K_s K' : Int64 → zH → Prop} {x_s : zC} (t_s : wF F_s mi x_s (gJ K_s)) (k_s : ∀ u_s h1, hKn h1 → K_s u_s h1 → K' u_s h1) : wF F_s mi x_s (gJ K') := wF_mono t_s (fun _ h1 ⟨u_s, e_s, q_s, p_s⟩ => ⟨u_s, e_s, q_s, k_s u_s h1 q_s p_s⟩)
theorem wmR {K_s K' : Nat → zH → Prop} {x_s : zC} (t_s : wF F_s mi x_s (gR K_s)) (k_s : ∀ u_s h1, hKn h1 → K_s u_s h1 → K' u_s h1) : wF F_s mi x_s (gR K') := wF_mono t_s (fun _ h1 ⟨u_s, e_s, q_s, p_s⟩ => ⟨u_s, e_s, q_s, k_s u_s h1 q_s p_s⟩)
theorem wmV {K_s K' : zH → Prop} {x_s : zC} (t_s : wF F_s mi x_s (gV K_s)) (k_s : ∀ h1, hKn h1 → K_s h1 → K' h1) : wF F_s mi x_s (gV K') := wF_mono t_s (fun _ h1 ⟨e_s, q_s, p_s⟩ => ⟨e_s, q_s, k_s h1 q_s p_s⟩)
/-- returns -/
theorem wrI {K_s : Int32 → zH → Prop} (hi_s : zi mi pc = some (35, len_s, a_s, b_s, c_s, v_s, sw_s)) (hk : hKn h_s) (k_s : K_s x_s h_s) : wF F_s mi (pc, lo_s, [.int x_s], h_s) (gI K_s) := w_r hi_s (fun _ hw => u35 hw) ⟨x_s, rfl, hk, k_s⟩
theorem wrJ {K_s : Int64 → zH → Prop} (hi_s : zi mi pc = some (36, len_s, a_s, b_s, c_s, v_s, sw_s)) (hk : hKn h_s) (k_s : K_s z_s h_s) : wF F_s mi (pc, lo_s, [.long z_s], h_s) (gJ K_s) := w_r hi_s (u_ rfl) ⟨z_s, rfl, hk, k_s⟩
theorem wrR {K_s : Nat → zH → Prop} (hi_s : zi mi pc = some (37, len_s, a_s, b_s, c_s, v_s, sw_s)) (hk : hKn h_s) (k_s : K_s o h_s) : wF F_s mi (pc, lo_s, [.ref o], h_s) (gR K_s) := w_r hi_s (u_ rfl) ⟨o, rfl, hk, k_s⟩
theorem wrV {K_s : zH → Prop} (hi_s : zi mi pc = some (38, len_s, a_s, b_s, c_s, v_s, sw_s)) (hk : hKn h_s) (k_s : K_s h_s) : wF F_s mi (pc, lo_s, [], h_s) (gV K_s) := w_r hi_s (u_ rfl) ⟨rfl, hk, k_s⟩
/-- a fixed reference -/
theorem krq (hk : hKn h_s) (hq : krf o b_s = [q_s]) : h_s.2.2.2 o b_s = some q_s := by
  obtain ⟨p_s, p1_s, p2_s⟩ := hk.2 o b_s (by rw [hq]; exact List.cons_ne_nil _ _)
  rw [hq] at p2_s
  rw [p1_s, List.mem_singleton.mp p2_s]
end W3
/-! fixed references and shapes, by number -/
theorem kg10 : ∀ j_, j_ < 8 → krf 10 j_ = [20 + j_] := by decide +kernel
theorem kg11 : ∀ j_, j_ < 12 → krf 11 j_ = [28 + j_] := by decide +kernel
theorem kg71 : ∀ j_, j_ < 6 → krf 71 j_ = [76 + 2 * j_] := by decide +kernel
theorem kg72 : ∀ j_, j_ < 6 → krf 72 j_ = [88 + j_] := by decide +kernel
theorem kg74 : ∀ j_, j_ < 8 → krf 74 j_ = [94 + j_] := by decide +kernel
theorem kg62 : ∀ j_, j_ < 8 → krf 62 j_ = [63 + j_] := by decide +kernel
theorem kgsh : ∀ j_, j_ < 6 → krf (76 + 2 * j_) 4 = [76 + 2 * j_ + 1] := by decide +kernel
theorem kgsz : ∀ j_, j_ < 6 → kS (76 + 2 * j_ + 1) = some (1, 60) := by decide +kernel
section W4
variable {h_s : zH} {o b_s j_ q_s q1_s q2_s : Nat}
theorem krm (hk : hKn h_s) (hq : krf o b_s = [q1_s, q2_s]) : ∃ q_s, h_s.2.2.2 o b_s = some q_s ∧ (q_s = q1_s ∨ q_s = q2_s) := by
  obtain ⟨p_s, p1_s, p2_s⟩ := hk.2 o b_s (by rw [hq]; exact List.cons_ne_nil _ _)
  rw [hq] at p2_s
  refine ⟨p_s, p1_s, ?_⟩
  rcases List.mem_cons.mp p2_s with e_s | e_s
  · exact Or.inl e_s
  · exact Or.inr (List.mem_singleton.mp e_s)
theorem kshc (hk : hKn h_s) (hj : j_ < 6) : h_s.2.2.2 (76 + 2 * j_) 4 = some (76 + 2 * j_ + 1) := krq hk (kgsh j_ hj)
theorem kshz (hk : hKn h_s) (hj : j_ < 6) : zget h_s.1 (76 + 2 * j_ + 1) = some (1, 60) := hk.1 _ 1 60 (kgsz j_ hj) rfl
theorem klaw1 (hk : hKn h_s) (hm_s : q_s = 14 ∨ q_s = 17) : h_s.2.2.2 q_s 1 = some (q_s + 1) := by
  rcases hm_s with rfl | rfl
  · exact krq hk rfl
  · exact krq hk rfl
theorem klaw2 (hk : hKn h_s) (hm_s : q_s = 14 ∨ q_s = 17) : h_s.2.2.2 q_s 3 = some (q_s + 2) := by
  rcases hm_s with rfl | rfl
  · exact krq hk rfl
  · exact krq hk rfl
theorem klz1 (hk : hKn h_s) (hm_s : q_s = 14 ∨ q_s = 17) : zget h_s.1 (q_s + 1) = some (0, 242) := by
  rcases hm_s with rfl | rfl
  · exact hk.1 15 0 242 rfl rfl
  · exact hk.1 18 0 242 rfl rfl
theorem klz2 (hk : hKn h_s) (hm_s : q_s = 14 ∨ q_s = 17) : zget h_s.1 (q_s + 2) = some (0, 64) := by
  rcases hm_s with rfl | rfl
  · exact hk.1 16 0 64 rfl rfl
  · exact hk.1 19 0 64 rfl rfl
end W4
theorem hkr_ {h_s : zH} {o b_s q_s q1_s q2_s : Nat} (hk : hKn h_s) (hq : krf o b_s = [q1_s, q2_s]) (hm_s : q_s = q1_s ∨ q_s = q2_s) : hKn (h_s.1, h_s.2.1, h_s.2.2.1, zup h_s.2.2.2 o b_s (some q_s)) := by
  refine ⟨hk.1, fun o1_s k1_s hn_s => ?_⟩
  by_cases e_s : o1_s = o ∧ k1_s = b_s
  · obtain ⟨rfl, rfl⟩ := e_s
    refine ⟨q_s, zsame_up, ?_⟩
    rw [hq]
    rcases hm_s with rfl | rfl
    · exact List.mem_cons_self
    · exact List.mem_cons_of_mem _ List.mem_cons_self
  · show ∃ p_s, zup h_s.2.2.2 o b_s (some q_s) o1_s k1_s = some p_s ∧ p_s ∈ krf o1_s k1_s
    rw [zne_up e_s]
    exact hk.2 o1_s k1_s hn_s
theorem hkr9 {h_s : zH} {q_s : Nat} (hk : hKn h_s) (hm_s : q_s = 14 ∨ q_s = 17) : hKn (h_s.1, h_s.2.1, h_s.2.2.1, zup h_s.2.2.2 7 9 (some q_s)) := hkr_ hk rfl hm_s
theorem hkr10 {h_s : zH} {q_s : Nat} (hk : hKn h_s) (hm_s : q_s = 14 ∨ q_s = 17) : hKn (h_s.1, h_s.2.1, h_s.2.2.1, zup h_s.2.2.2 7 10 (some q_s)) := hkr_ hk rfl hm_s
/-! FROM CONTRACTS to ended runs: what is kept, and which cells. -/
theorem zr_det {f_s f1_s d_s d1_s mi : Nat} {x_s : zC} {r_s r1_s : Option Value} {h_s h1 : zH} (a_s : zr f_s d_s mi 100000 x_s = some (.inr (r_s, h_s))) (b_s : zr f1_s d1_s mi 100000 x_s = some (.inr (r1_s, h1))) : r_s = r1_s ∧ h_s = h1 := by
  have a1_s := zr_deeper (Nat.le_max_left d_s d1_s) (zr_le (Nat.le_max_left f_s f1_s) a_s)
  have b1 := zr_deeper (Nat.le_max_right d_s d1_s) (zr_le (Nat.le_max_right f_s f1_s) b_s)
  rw [a1_s] at b1
  cases b1
  exact ⟨rfl, rfl⟩
noncomputable def hIw (h_s : zH) : Prop := aInv kS krf (aiv kB) h_s ∧ aJ h_s
theorem hIw_k {h_s : zH} (hI : hIw h_s) : hKn h_s := ⟨hI.1.1, hI.1.2.1⟩
theorem cx0 {e_s : aE} {F_s : Nat} {E_s : List Int} {x_s : zC} (hok : aOK kS krf kB e_s) (R_s : aRel kS krf (aiv kB) E_s e_s.2.2.1 x_s) (hD : aDs E_s e_s.2.2.2.1.1) (hsl : aSl0 E_s x_s.2.2.2.1 e_s.2.2.2.1.2) (hj : aJ x_s.2.2.2) : wF F_s e_s.1 x_s (aPost kS krf kB e_s E_s x_s.2.2.2) := by
  intro f_s d_s r_s h1 _ hr
  obtain ⟨f1_s, r1_s, h2, hr1, hp⟩ := hok E_s x_s R_s hD hsl hj
  obtain ⟨rfl, rfl⟩ := zr_det hr hr1
  exact hp
theorem cxI {e_s : aE} {F_s : Nat} {E_s : List Int} {x_s : zC} {a_s : aI} (hok : aOK kS krf kB e_s) (R_s : aRel kS krf (aiv kB) E_s e_s.2.2.1 x_s) (hj : aJ x_s.2.2.2) (he : e_s.2.2.2.2.1.2.2.1 = some (.inl (.inl a_s))) (hD : e_s.2.2.2.1 = ([], none)) : wF F_s e_s.1 x_s (gI (fun _ h1 => hIw h1 ∧ aFr (aWf e_s.2.2.2.2.2) x_s.2.2.2 h1)) := by
  refine wF_mono (cx0 hok R_s (fun f_s hf => ?_) (fun k_s hk => ?_) hj) (fun r_s h1 q_s => ?_)
  · rw [hD] at hf
    cases hf
  · rw [hD] at hk
    cases hk
  · obtain ⟨q1_s, _, r1_s, hh, _, _, fr_s, hj1⟩ := q_s
    rw [he] at r1_s
    match r_s, r1_s with
    | some v_s, r1_s =>
      obtain ⟨z_s, rfl, _⟩ := r1_s
      exact ⟨z_s, rfl, ⟨hh.1.1, hh.1.2.1⟩, ⟨hh.1, hj1⟩, fr_s⟩
    | none, r1_s => exact r1_s.elim
theorem cxJ {e_s : aE} {F_s : Nat} {E_s : List Int} {x_s : zC} {a_s : aI} (hok : aOK kS krf kB e_s) (R_s : aRel kS krf (aiv kB) E_s e_s.2.2.1 x_s) (hj : aJ x_s.2.2.2) (he : e_s.2.2.2.2.1.2.2.1 = some (.inl (.inr a_s))) (hD : e_s.2.2.2.1 = ([], none)) : wF F_s e_s.1 x_s (gJ (fun _ h1 => hIw h1 ∧ aFr (aWf e_s.2.2.2.2.2) x_s.2.2.2 h1)) := by
  refine wF_mono (cx0 hok R_s (fun f_s hf => ?_) (fun k_s hk => ?_) hj) (fun r_s h1 q_s => ?_)
  · rw [hD] at hf
    cases hf
  · rw [hD] at hk
    cases hk
  · obtain ⟨q1_s, _, r1_s, hh, _, _, fr_s, hj1⟩ := q_s
    rw [he] at r1_s
    match r_s, r1_s with
    | some v_s, r1_s =>
      obtain ⟨z_s, rfl, _⟩ := r1_s
      exact ⟨z_s, rfl, ⟨hh.1.1, hh.1.2.1⟩, ⟨hh.1, hj1⟩, fr_s⟩
    | none, r1_s => exact r1_s.elim
noncomputable def bI : Int × Int := (.negSucc 2147483647, .ofNat 2147483647)
noncomputable def bJ : Int × Int := (.negSucc 9223372036854775807, .ofNat 9223372036854775807)
theorem bI_ok (x_s : Int32) : bI.1 ≤ x_s.toInt ∧ x_s.toInt ≤ bI.2 := na_rng x_s
theorem bJ_ok (x_s : Int64) : bJ.1 ≤ x_s.toInt ∧ x_s.toInt ≤ bJ.2 := na_rngL x_s
theorem zget_rep {α : Type} {a_s : α} : ∀ {n_s k_s : Nat} {b_s : α}, zget (List.replicate n_s a_s) k_s = some b_s → b_s = a_s
  | 0, _, _, hq => by cases hq
  | n_s + 1, 0, b_s, hq => by
    cases hq
    rfl
  | n_s + 1, k_s + 1, b_s, hq => zget_rep (n_s := n_s) (k_s := k_s) hq
theorem rel0 {o n_s : Nat}  {h_s : zH} (hI : hIw h_s) : aRel kS krf (aiv kB) [] ([], [], 0, [some (.inr [o])] ++ List.replicate n_s none, []) (0, [some (.ref o)] ++ List.replicate n_s none, [], h_s) := by
  refine ⟨⟨rfl, fun k_s w_s q_s h1 h2 => ?_⟩, rfl, ⟨?_, fun i_s a_s ha_s => ?_⟩, trivial, hI.1, fun o k_s a_s ha_s => by cases ha_s⟩
  · cases h1
  · simp only [List.length_append, List.length_replicate, List.length_cons, List.length_nil]
  · match i_s, ha_s with
    | 0, ha_s =>
      cases ha_s
      exact ⟨_, rfl, o, rfl, List.mem_singleton.mpr rfl⟩
    | k_s + 1, ha_s =>
      have q_s := zget_rep (n_s := n_s) (k_s := k_s) ha_s
      cases q_s
theorem rel1 {o n_s : Nat} {x1_s : Int32} {h_s : zH} (hI : hIw h_s) : aRel kS krf (aiv kB) [x1_s.toInt] ([bI], [], 0, [some (.inr [o]), some (.inl (.inl (.inl (0, .ofNat 0))))] ++ List.replicate n_s none, []) (0, [some (.ref o), some (.int x1_s)] ++ List.replicate n_s none, [], h_s) := by
  refine ⟨⟨rfl, fun k_s w_s q_s h1 h2 => ?_⟩, rfl, ⟨?_, fun i_s a_s ha_s => ?_⟩, trivial, hI.1, fun o k_s a_s ha_s => by cases ha_s⟩
  · match k_s, h1, h2 with
    | 0, h1, h2 =>
      cases h1
      cases h2
      exact bI_ok x1_s
    | _ + 1, h1, _ => cases h1
  · simp only [List.length_append, List.length_replicate, List.length_cons, List.length_nil]
  · match i_s, ha_s with
    | 0, ha_s =>
      cases ha_s
      exact ⟨_, rfl, o, rfl, List.mem_singleton.mpr rfl⟩
    | 1, ha_s =>
      cases ha_s
      exact ⟨_, rfl, x1_s, rfl, x1_s.toInt, rfl, (Int.add_zero _).symm⟩
    | k_s + 2, ha_s =>
      have q_s := zget_rep (n_s := n_s) (k_s := k_s) ha_s
      cases q_s
theorem rel2 {o n_s : Nat} {x1_s : Int32} {x2_s : Int32} {h_s : zH} (hI : hIw h_s) : aRel kS krf (aiv kB) [x1_s.toInt, x2_s.toInt] ([bI, bI], [], 0, [some (.inr [o]), some (.inl (.inl (.inl (0, .ofNat 0)))), some (.inl (.inl (.inl (1, .ofNat 0))))] ++ List.replicate n_s none, []) (0, [some (.ref o), some (.int x1_s), some (.int x2_s)] ++ List.replicate n_s none, [], h_s) := by
  refine ⟨⟨rfl, fun k_s w_s q_s h1 h2 => ?_⟩, rfl, ⟨?_, fun i_s a_s ha_s => ?_⟩, trivial, hI.1, fun o k_s a_s ha_s => by cases ha_s⟩
  · match k_s, h1, h2 with
    | 0, h1, h2 =>
      cases h1
      cases h2
      exact bI_ok x1_s
    | 1, h1, h2 =>
      cases h1
      cases h2
      exact bI_ok x2_s
    | _ + 2, h1, _ => cases h1
  · simp only [List.length_append, List.length_replicate, List.length_cons, List.length_nil]
  · match i_s, ha_s with
    | 0, ha_s =>
      cases ha_s
      exact ⟨_, rfl, o, rfl, List.mem_singleton.mpr rfl⟩
    | 1, ha_s =>
      cases ha_s
      exact ⟨_, rfl, x1_s, rfl, x1_s.toInt, rfl, (Int.add_zero _).symm⟩
    | 2, ha_s =>
      cases ha_s
      exact ⟨_, rfl, x2_s, rfl, x2_s.toInt, rfl, (Int.add_zero _).symm⟩
    | k_s + 3, ha_s =>
      have q_s := zget_rep (n_s := n_s) (k_s := k_s) ha_s
      cases q_s
theorem rel3 {o n_s : Nat} {x1_s : Int32} {x2_s : Int32} {x3 : Int32} {h_s : zH} (hI : hIw h_s) : aRel kS krf (aiv kB) [x1_s.toInt, x2_s.toInt, x3.toInt] ([bI, bI, bI], [], 0, [some (.inr [o]), some (.inl (.inl (.inl (0, .ofNat 0)))), some (.inl (.inl (.inl (1, .ofNat 0)))), some (.inl (.inl (.inl (2, .ofNat 0))))] ++ List.replicate n_s none, []) (0, [some (.ref o), some (.int x1_s), some (.int x2_s), some (.int x3)] ++ List.replicate n_s none, [], h_s) := by
  refine ⟨⟨rfl, fun k_s w_s q_s h1 h2 => ?_⟩, rfl, ⟨?_, fun i_s a_s ha_s => ?_⟩, trivial, hI.1, fun o k_s a_s ha_s => by cases ha_s⟩
  · match k_s, h1, h2 with
    | 0, h1, h2 =>
      cases h1
      cases h2
      exact bI_ok x1_s
    | 1, h1, h2 =>
      cases h1
      cases h2
      exact bI_ok x2_s
    | 2, h1, h2 =>
      cases h1
      cases h2
      exact bI_ok x3
    | _ + 3, h1, _ => cases h1
  · simp only [List.length_append, List.length_replicate, List.length_cons, List.length_nil]
  · match i_s, ha_s with
    | 0, ha_s =>
      cases ha_s
      exact ⟨_, rfl, o, rfl, List.mem_singleton.mpr rfl⟩
    | 1, ha_s =>
      cases ha_s
      exact ⟨_, rfl, x1_s, rfl, x1_s.toInt, rfl, (Int.add_zero _).symm⟩
    | 2, ha_s =>
      cases ha_s
      exact ⟨_, rfl, x2_s, rfl, x2_s.toInt, rfl, (Int.add_zero _).symm⟩
    | 3, ha_s =>
      cases ha_s
      exact ⟨_, rfl, x3, rfl, x3.toInt, rfl, (Int.add_zero _).symm⟩
    | k_s + 4, ha_s =>
      have q_s := zget_rep (n_s := n_s) (k_s := k_s) ha_s
      cases q_s
theorem rel4 {o n_s : Nat} {x1_s : Int32} {x2_s : Int32} {x3 : Int32} {x4_s : Int32} {h_s : zH} (hI : hIw h_s) : aRel kS krf (aiv kB) [x1_s.toInt, x2_s.toInt, x3.toInt, x4_s.toInt] ([bI, bI, bI, bI], [], 0, [some (.inr [o]), some (.inl (.inl (.inl (0, .ofNat 0)))), some (.inl (.inl (.inl (1, .ofNat 0)))), some (.inl (.inl (.inl (2, .ofNat 0)))), some (.inl (.inl (.inl (3, .ofNat 0))))] ++ List.replicate n_s none, []) (0, [some (.ref o), some (.int x1_s), some (.int x2_s), some (.int x3), some (.int x4_s)] ++ List.replicate n_s none, [], h_s) := by
  refine ⟨⟨rfl, fun k_s w_s q_s h1 h2 => ?_⟩, rfl, ⟨?_, fun i_s a_s ha_s => ?_⟩, trivial, hI.1, fun o k_s a_s ha_s => by cases ha_s⟩
  · match k_s, h1, h2 with
    | 0, h1, h2 =>
      cases h1
      cases h2
      exact bI_ok x1_s
    | 1, h1, h2 =>
      cases h1
      cases h2
      exact bI_ok x2_s
    | 2, h1, h2 =>
      cases h1
      cases h2
      exact bI_ok x3
    | 3, h1, h2 =>
      cases h1
      cases h2
      exact bI_ok x4_s
    | _ + 4, h1, _ => cases h1
  · simp only [List.length_append, List.length_replicate, List.length_cons, List.length_nil]
  · match i_s, ha_s with
    | 0, ha_s =>
      cases ha_s
      exact ⟨_, rfl, o, rfl, List.mem_singleton.mpr rfl⟩
    | 1, ha_s =>
      cases ha_s
      exact ⟨_, rfl, x1_s, rfl, x1_s.toInt, rfl, (Int.add_zero _).symm⟩
    | 2, ha_s =>
      cases ha_s
      exact ⟨_, rfl, x2_s, rfl, x2_s.toInt, rfl, (Int.add_zero _).symm⟩
    | 3, ha_s =>
      cases ha_s
      exact ⟨_, rfl, x3, rfl, x3.toInt, rfl, (Int.add_zero _).symm⟩
    | 4, ha_s =>
      cases ha_s
      exact ⟨_, rfl, x4_s, rfl, x4_s.toInt, rfl, (Int.add_zero _).symm⟩
    | k_s + 5, ha_s =>
      have q_s := zget_rep (n_s := n_s) (k_s := k_s) ha_s
      cases q_s
theorem rel5 {o n_s : Nat} {x1_s : Int32} {x2_s : Int32} {x3 : Int32} {x4_s : Int32} {x5_s : Int32} {h_s : zH} (hI : hIw h_s) : aRel kS krf (aiv kB) [x1_s.toInt, x2_s.toInt, x3.toInt, x4_s.toInt, x5_s.toInt] ([bI, bI, bI, bI, bI], [], 0, [some (.inr [o]), some (.inl (.inl (.inl (0, .ofNat 0)))), some (.inl (.inl (.inl (1, .ofNat 0)))), some (.inl (.inl (.inl (2, .ofNat 0)))), some (.inl (.inl (.inl (3, .ofNat 0)))), some (.inl (.inl (.inl (4, .ofNat 0))))] ++ List.replicate n_s none, []) (0, [some (.ref o), some (.int x1_s), some (.int x2_s), some (.int x3), some (.int x4_s), some (.int x5_s)] ++ List.replicate n_s none, [], h_s) := by
  refine ⟨⟨rfl, fun k_s w_s q_s h1 h2 => ?_⟩, rfl, ⟨?_, fun i_s a_s ha_s => ?_⟩, trivial, hI.1, fun o k_s a_s ha_s => by cases ha_s⟩
  · match k_s, h1, h2 with
    | 0, h1, h2 =>
      cases h1
      cases h2
      exact bI_ok x1_s
    | 1, h1, h2 =>
      cases h1
      cases h2
      exact bI_ok x2_s
    | 2, h1, h2 =>
      cases h1
      cases h2
      exact bI_ok x3
    | 3, h1, h2 =>
      cases h1
      cases h2
      exact bI_ok x4_s
    | 4, h1, h2 =>
      cases h1
      cases h2
      exact bI_ok x5_s
    | _ + 5, h1, _ => cases h1
  · simp only [List.length_append, List.length_replicate, List.length_cons, List.length_nil]
  · match i_s, ha_s with
    | 0, ha_s =>
      cases ha_s
      exact ⟨_, rfl, o, rfl, List.mem_singleton.mpr rfl⟩
    | 1, ha_s =>
      cases ha_s
      exact ⟨_, rfl, x1_s, rfl, x1_s.toInt, rfl, (Int.add_zero _).symm⟩
    | 2, ha_s =>
      cases ha_s
      exact ⟨_, rfl, x2_s, rfl, x2_s.toInt, rfl, (Int.add_zero _).symm⟩
    | 3, ha_s =>
      cases ha_s
      exact ⟨_, rfl, x3, rfl, x3.toInt, rfl, (Int.add_zero _).symm⟩
    | 4, ha_s =>
      cases ha_s
      exact ⟨_, rfl, x4_s, rfl, x4_s.toInt, rfl, (Int.add_zero _).symm⟩
    | 5, ha_s =>
      cases ha_s
      exact ⟨_, rfl, x5_s, rfl, x5_s.toInt, rfl, (Int.add_zero _).symm⟩
    | k_s + 6, ha_s =>
      have q_s := zget_rep (n_s := n_s) (k_s := k_s) ha_s
      cases q_s
theorem relp {o n_s : Nat} {x1_s : Int32} {x2_s : Int32} {x3 : Int64} {h_s : zH} (hI : hIw h_s) : aRel kS krf (aiv kB) [x1_s.toInt, x2_s.toInt, x3.toInt] ([bI, bI, bJ], [], 0, [some (.inr [o]), some (.inl (.inl (.inl (0, .ofNat 0)))), some (.inl (.inl (.inl (1, .ofNat 0)))), some (.inl (.inr (.inl (2, .ofNat 0)))), none] ++ List.replicate n_s none, []) (0, [some (.ref o), some (.int x1_s), some (.int x2_s), some (.long x3), none] ++ List.replicate n_s none, [], h_s) := by
  refine ⟨⟨rfl, fun k_s w_s q_s h1 h2 => ?_⟩, rfl, ⟨?_, fun i_s a_s ha_s => ?_⟩, trivial, hI.1, fun o k_s a_s ha_s => by cases ha_s⟩
  · match k_s, h1, h2 with
    | 0, h1, h2 =>
      cases h1
      cases h2
      exact bI_ok x1_s
    | 1, h1, h2 =>
      cases h1
      cases h2
      exact bI_ok x2_s
    | 2, h1, h2 =>
      cases h1
      cases h2
      exact bJ_ok x3
    | _ + 3, h1, _ => cases h1
  · simp only [List.length_append, List.length_replicate, List.length_cons, List.length_nil]
  · match i_s, ha_s with
    | 0, ha_s =>
      cases ha_s
      exact ⟨_, rfl, o, rfl, List.mem_singleton.mpr rfl⟩
    | 1, ha_s =>
      cases ha_s
      exact ⟨_, rfl, x1_s, rfl, x1_s.toInt, rfl, (Int.add_zero _).symm⟩
    | 2, ha_s =>
      cases ha_s
      exact ⟨_, rfl, x2_s, rfl, x2_s.toInt, rfl, (Int.add_zero _).symm⟩
    | 3, ha_s =>
      cases ha_s
      exact ⟨_, rfl, x3, rfl, x3.toInt, rfl, (Int.add_zero _).symm⟩
    | 4, ha_s => cases ha_s
    | k_s + 5, ha_s =>
      have q_s := zget_rep (n_s := n_s) (k_s := k_s) ha_s
      cases q_s
/-! NUMBERS, and two things known of one run. -/
theorem n1_ : (1 : Int32).toInt = 1 := rfl
theorem in1_ {x_s : Int32} (q_s : x_s.toInt < 2147483647) : (x_s + 1).toInt = x_s.toInt + 1 := by
  have r_s := na_rng x_s
  rw [na_add (by rw [n1_]; omega) (by rw [n1_]; omega), n1_]
theorem i60_ : (60 : Int32).toInt = 60 := rfl
theorem i50_ : (50 : Int32).toInt = 50 := rfl
theorem m60_ {d_s : Int32} (h0 : 0 ≤ d_s.toInt) (h1 : d_s.toInt ≤ 5) : (60 * d_s).toInt = 60 * d_s.toInt := by
  rw [na_mul (by rw [i60_]; omega) (by rw [i60_]; omega), i60_]
theorem a60_ {d_s i_s : Int32} (h0 : 0 ≤ d_s.toInt) (h1 : d_s.toInt ≤ 5) (h2 : 0 ≤ i_s.toInt) (h3 : i_s.toInt ≤ 60) : (60 * d_s + i_s).toInt = 60 * d_s.toInt + i_s.toInt := by
  have e_s := m60_ h0 h1
  rw [na_add (by rw [e_s]; omega) (by rw [e_s]; omega), e_s]
theorem zx60 {d_s i_s : Int32} (h0 : 0 ≤ d_s.toInt) (h1 : d_s.toInt ≤ 5) (h2 : 0 ≤ i_s.toInt) (h3 : i_s.toInt ≤ 60) : zix (60 * d_s + i_s) = 60 * zix d_s + zix i_s := by
  have e_s := a60_ h0 h1 h2 h3
  have a1_s := azix h0
  have a2 := azix h2
  have a3 := azix (i := 60 * d_s + i_s) (by omega)
  omega
theorem zx60k {d_s i_s k_s : Int32} (h0 : 0 ≤ d_s.toInt) (h1 : d_s.toInt ≤ 5) (h2 : 0 ≤ i_s.toInt) (h3 : i_s.toInt ≤ 60) (h4 : 0 ≤ k_s.toInt) (h5 : k_s.toInt ≤ 60) : zix (60 * d_s + i_s + k_s) = 60 * zix d_s + zix i_s + zix k_s := by
  have e_s := a60_ h0 h1 h2 h3
  have e2_s : (60 * d_s + i_s + k_s).toInt = 60 * d_s.toInt + i_s.toInt + k_s.toInt := by rw [na_add (by rw [e_s]; omega) (by rw [e_s]; omega), e_s]
  have a1_s := azix h0
  have a2 := azix h2
  have a4 := azix h4
  have a3 := azix (i := 60 * d_s + i_s + k_s) (by omega)
  omega
theorem waI {F_s mi : Nat} {x_s : zC} {K1 K2 : Int32 → zH → Prop} (a_s : wF F_s mi x_s (gI K1)) (b_s : wF F_s mi x_s (gI K2)) : wF F_s mi x_s (gI (fun v_s h_s => K1 v_s h_s ∧ K2 v_s h_s)) := by
  intro f_s d_s r_s h1 hf hr
  obtain ⟨v_s, e1_s, k1_s, p1_s⟩ := a_s f_s d_s r_s h1 hf hr
  obtain ⟨u_s, e2_s, _, p2_s⟩ := b_s f_s d_s r_s h1 hf hr
  rw [e1_s] at e2_s
  cases e2_s
  exact ⟨v_s, e1_s, k1_s, p1_s, p2_s⟩
theorem waJ {F_s mi : Nat} {x_s : zC} {K1 K2 : Int64 → zH → Prop} (a_s : wF F_s mi x_s (gJ K1)) (b_s : wF F_s mi x_s (gJ K2)) : wF F_s mi x_s (gJ (fun v_s h_s => K1 v_s h_s ∧ K2 v_s h_s)) := by
  intro f_s d_s r_s h1 hf hr
  obtain ⟨v_s, e1_s, k1_s, p1_s⟩ := a_s f_s d_s r_s h1 hf hr
  obtain ⟨u_s, e2_s, _, p2_s⟩ := b_s f_s d_s r_s h1 hf hr
  rw [e1_s] at e2_s
  cases e2_s
  exact ⟨v_s, e1_s, k1_s, p1_s, p2_s⟩
/-! What ended runs of the shelves' methods give: printed by a program (wip/fun/sg.py). -/
/-- ColdShod.body(I)I, from 0 on -/
theorem sg_125_0 {F_s : Nat} {x1_s : Int32} {h_s : zH} {K_s : Int32 → zH → Prop} (hk : hKn h_s) (t_s : (x1_s.toInt < 0 → K_s (-1) h_s) ∧ (¬ x1_s.toInt < 0 → ((x1_s.toInt < 8 → (((h_s.2.1 47 1).toInt < 50 → (zix (h_s.2.1 47 1) < 50 → K_s (h_s.2.1 47 1) (h_s.1, zup (zup h_s.2.1 48 (zix (h_s.2.1 47 1)) x1_s) 47 1 ((h_s.2.1 47 1) + 1), h_s.2.2.1, h_s.2.2.2))) ∧ (¬ (h_s.2.1 47 1).toInt < 50 → K_s (-3) h_s))) ∧ (¬ x1_s.toInt < 8 → K_s (-1) h_s)))) : wF (F_s + 1) 125 (0, [some (.ref 6), some (.int x1_s)], [], h_s) (gI K_s) := by
  refine w_0 (pc := 0) (e_s := (1, 1, 1, 0, 0, .null, [])) (y_s := (1, [some (.ref _), some (.int _)], [.int _], _)) rfl (u_ rfl) ?_
  refine wq2 (pc := 1) (len_s := 3) rfl rfl (fun c1_s => ?_) (fun c1_s => ?_)
  · replace t_s := t_s.1 c1_s
    refine w_t (pc := 10) (e_s := (0, 1, 0, 0, 0, .int (-1), [])) (y_s := (11, [some (.ref _), some (.int _)], [.int _], _)) rfl (u_ rfl) ?_
    exact wrI (pc := 11) (len_s := 1) rfl hk t_s
  · replace t_s := t_s.2 c1_s
    refine w_t (pc := 4) (e_s := (1, 1, 1, 0, 0, .null, [])) (y_s := (5, [some (.ref _), some (.int _)], [.int _], _)) rfl (u_ rfl) ?_
    refine w_t (pc := 5) (e_s := (0, 2, 0, 0, 0, .int 8, [])) (y_s := (7, [some (.ref _), some (.int _)], [.int _, .int _], _)) rfl (u_ rfl) ?_
    refine wi2 (pc := 7) (len_s := 3) (Y := 8) rfl rfl (by decide) (fun c2_s => ?_) (fun c2_s => ?_)
    · replace t_s := t_s.1 c2_s
      refine w_t (pc := 12) (e_s := (3, 1, 0, 0, 0, .null, [])) (y_s := (13, [some (.ref _), some (.int _)], [.ref _], _)) rfl (u_ rfl) ?_
      refine w20r (pc := 13) (len_s := 3) (q_s := 47) rfl (krq hk rfl) ?_
      refine w_t (pc := 16) (e_s := (1, 1, 1, 0, 0, .null, [])) (y_s := (17, [some (.ref _), some (.int _)], [.int _, .ref _], _)) rfl (u_ rfl) ?_
      refine wcI (pc := 17) (len_s := 3) rfl rfl (l := [some (.ref _), some (.int _)]) rfl ?_
      refine w_t (pc := 0) (e_s := (3, 1, 0, 0, 0, .null, [])) (y_s := (1, [some (.ref _), some (.int _)], [.ref _], _)) rfl (u_ rfl) ?_
      refine w20 (pc := 1) (len_s := 3) rfl ?_
      refine w_t (pc := 4) (e_s := (0, 2, 0, 0, 0, .int 50, [])) (y_s := (6, [some (.ref _), some (.int _)], [.int _, .int _], _)) rfl (u_ rfl) ?_
      refine wi2 (pc := 6) (len_s := 3) (Y := 50) rfl rfl (by decide) (fun c3_s => ?_) (fun c3_s => ?_)
      · replace t_s := t_s.1 c3_s
        refine w_t (pc := 12) (e_s := (3, 1, 0, 0, 0, .null, [])) (y_s := (13, [some (.ref _), some (.int _)], [.ref _], _)) rfl (u_ rfl) ?_
        refine w20r (pc := 13) (len_s := 3) (q_s := 48) rfl (krq hk rfl) ?_
        refine w_t (pc := 16) (e_s := (3, 1, 0, 0, 0, .null, [])) (y_s := (17, [some (.ref _), some (.int _)], [.ref _, .ref _], _)) rfl (u_ rfl) ?_
        refine w20 (pc := 17) (len_s := 3) rfl ?_
        refine w_t (pc := 20) (e_s := (1, 1, 1, 0, 0, .null, [])) (y_s := (21, [some (.ref _), some (.int _)], [.int _, .int _, .ref _], _)) rfl (u_ rfl) ?_
        refine w25 (pc := 21) (len_s := 1) rfl (hk.1 48 0 50 rfl rfl) (fun c4_s => ?_)
        replace t_s := t_s c4_s
        refine w_t (pc := 22) (e_s := (3, 1, 0, 0, 0, .null, [])) (y_s := (23, [some (.ref _), some (.int _)], [.ref _], _)) rfl (u_ rfl) ?_
        refine w_t (pc := 23) (e_s := (39, 1, 0, 0, 0, .null, [])) (y_s := (24, [some (.ref _), some (.int _)], [.ref _, .ref _], _)) rfl (u_ rfl) ?_
        refine w20 (pc := 24) (len_s := 3) rfl ?_
        refine w_t (pc := 27) (e_s := (40, 1, 0, 0, 0, .null, [])) (y_s := (28, [some (.ref _), some (.int _)], [.int _, .ref _, .int _], _)) rfl (u_ rfl) ?_
        refine w_t (pc := 28) (e_s := (0, 1, 0, 0, 0, .int 1, [])) (y_s := (29, [some (.ref _), some (.int _)], [.int _, .int _, .ref _, .int _], _)) rfl (u_ rfl) ?_
        refine w_t (pc := 29) (e_s := (7, 1, 0, 0, 0, .null, [])) (y_s := (30, [some (.ref _), some (.int _)], [.int (_ + _), .ref _, .int _], _)) rfl (u_ rfl) ?_
        refine w21 (pc := 30) (len_s := 3) rfl ?_
        refine wrI (pc := 33) (len_s := 1) rfl hk ?_
        show wF _ 125 (20, [some (.ref _), some (.int _)], [.int _], _) _
        exact wrI (pc := 20) (len_s := 1) rfl hk t_s
      · replace t_s := t_s.2 c3_s
        refine w_t (pc := 9) (e_s := (0, 2, 0, 0, 0, .int (-3), [])) (y_s := (11, [some (.ref _), some (.int _)], [.int _], _)) rfl (u_ rfl) ?_
        refine wrI (pc := 11) (len_s := 1) rfl hk ?_
        show wF _ 125 (20, [some (.ref _), some (.int _)], [.int _], _) _
        exact wrI (pc := 20) (len_s := 1) rfl hk t_s
    · replace t_s := t_s.2 c2_s
      refine w_t (pc := 10) (e_s := (0, 1, 0, 0, 0, .int (-1), [])) (y_s := (11, [some (.ref _), some (.int _)], [.int _], _)) rfl (u_ rfl) ?_
      exact wrI (pc := 11) (len_s := 1) rfl hk t_s
/-- ColdShodModel.body(I)I, from 0 on -/
theorem sg_219_0 {F_s : Nat} {x1_s : Int32} {h_s : zH} {K_s : Int32 → zH → Prop} (hk : hKn h_s) (t_s : (x1_s.toInt < 0 → K_s (-1) h_s) ∧ (¬ x1_s.toInt < 0 → ((7 < x1_s.toInt → K_s (-1) h_s) ∧ (¬ 7 < x1_s.toInt → (((h_s.2.1 102 39).toInt = 50 → K_s (-3) h_s) ∧ (¬ (h_s.2.1 102 39).toInt = 50 → (zix (h_s.2.1 102 39) < 50 → K_s (((h_s.2.1 102 39) + 1) - 1) (h_s.1, zup (zup h_s.2.1 122 (zix (h_s.2.1 102 39)) x1_s) 102 39 ((h_s.2.1 102 39) + 1), h_s.2.2.1, h_s.2.2.2)))))))) : wF (F_s + 1) 219 (0, [some (.ref 102), some (.int x1_s)], [], h_s) (gI K_s) := by
  refine w_0 (pc := 0) (e_s := (1, 1, 1, 0, 0, .null, [])) (y_s := (1, [some (.ref _), some (.int _)], [.int _], _)) rfl (u_ rfl) ?_
  refine w_t (pc := 1) (e_s := (10, 1, 0, 0, 0, .null, [])) (y_s := (2, [some (.ref _), some (.int _)], [.long (Int32.toInt64 _)], _)) rfl (u_ rfl) ?_
  refine w_t (pc := 2) (e_s := (0, 1, 0, 0, 0, .long 0, [])) (y_s := (3, [some (.ref _), some (.int _)], [.long _, .long _], _)) rfl (u_ rfl) ?_
  refine w_t (pc := 3) (e_s := (0, 3, 0, 0, 0, .long 7, [(0, 1062)])) (y_s := (6, [some (.ref _), some (.int _)], [.long _, .long _, .long _], _)) rfl (u_ rfl) ?_
  refine wcI (pc := 6) (len_s := 3) rfl rfl (l := [some (.long _), none, some (.long _), none, some (.long _), none]) rfl ?_
  refine w_t (pc := 0) (e_s := (2, 1, 0, 0, 0, .null, [])) (y_s := (1, [some (.long _), none, some (.long _), none, some (.long _), none], [.long _], _)) rfl (u_ rfl) ?_
  refine w_t (pc := 1) (e_s := (2, 1, 2, 0, 0, .null, [])) (y_s := (2, [some (.long _), none, some (.long _), none, some (.long _), none], [.long _, .long _], _)) rfl (u_ rfl) ?_
  refine w_t (pc := 2) (e_s := (14, 1, 0, 0, 0, .null, [])) (y_s := (3, [some (.long _), none, some (.long _), none, some (.long _), none], [.int (lg_cmp _ _)], _)) rfl (u_ rfl) ?_
  refine wl2 (pc := 3) (len_s := 3) (Y := 0) rfl (Int32.toInt_toInt64 _) (by decide) (fun c1_s => ?_) (fun c1_s => ?_)
  · replace t_s := t_s.1 c1_s
    refine w_t (pc := 17) (e_s := (0, 1, 0, 0, 0, .int 0, [])) (y_s := (18, [some (.long _), none, some (.long _), none, some (.long _), none], [.int _], _)) rfl (u_ rfl) ?_
    refine wrI (pc := 18) (len_s := 1) rfl hk ?_
    show wF _ 219 (9, [some (.ref _), some (.int _)], [.int _], _) _
    refine w_t (pc := 9) (e_s := (15, 3, 14, 1, 0, .null, [])) (y_s := (12, [some (.ref _), some (.int _)], [], _)) rfl (u_ rfl) ?_
    refine w_t (pc := 12) (e_s := (0, 1, 0, 0, 0, .int (-1), [])) (y_s := (13, [some (.ref _), some (.int _)], [.int _], _)) rfl (u_ rfl) ?_
    exact wrI (pc := 13) (len_s := 1) rfl hk t_s
  · replace t_s := t_s.2 c1_s
    refine w_t (pc := 6) (e_s := (2, 1, 0, 0, 0, .null, [])) (y_s := (7, [some (.long _), none, some (.long _), none, some (.long _), none], [.long _], _)) rfl (u_ rfl) ?_
    refine w_t (pc := 7) (e_s := (2, 2, 4, 0, 0, .null, [])) (y_s := (9, [some (.long _), none, some (.long _), none, some (.long _), none], [.long _, .long _], _)) rfl (u_ rfl) ?_
    refine w_t (pc := 9) (e_s := (14, 1, 0, 0, 0, .null, [])) (y_s := (10, [some (.long _), none, some (.long _), none, some (.long _), none], [.int (lg_cmp _ _)], _)) rfl (u_ rfl) ?_
    refine wl4 (pc := 10) (len_s := 3) (Y := 7) rfl (Int32.toInt_toInt64 _) (by decide) (fun c2_s => ?_) (fun c2_s => ?_)
    · replace t_s := t_s.1 c2_s
      refine w_t (pc := 17) (e_s := (0, 1, 0, 0, 0, .int 0, [])) (y_s := (18, [some (.long _), none, some (.long _), none, some (.long _), none], [.int _], _)) rfl (u_ rfl) ?_
      refine wrI (pc := 18) (len_s := 1) rfl hk ?_
      show wF _ 219 (9, [some (.ref _), some (.int _)], [.int _], _) _
      refine w_t (pc := 9) (e_s := (15, 3, 14, 1, 0, .null, [])) (y_s := (12, [some (.ref _), some (.int _)], [], _)) rfl (u_ rfl) ?_
      refine w_t (pc := 12) (e_s := (0, 1, 0, 0, 0, .int (-1), [])) (y_s := (13, [some (.ref _), some (.int _)], [.int _], _)) rfl (u_ rfl) ?_
      exact wrI (pc := 13) (len_s := 1) rfl hk t_s
    · replace t_s := t_s.2 c2_s
      refine w_t (pc := 13) (e_s := (0, 1, 0, 0, 0, .int 1, [])) (y_s := (14, [some (.long _), none, some (.long _), none, some (.long _), none], [.int _], _)) rfl (u_ rfl) ?_
      refine w_t (pc := 14) (e_s := (17, 3, 18, 0, 0, .null, [])) (y_s := (18, [some (.long _), none, some (.long _), none, some (.long _), none], [.int _], _)) rfl (u_ rfl) ?_
      refine wrI (pc := 18) (len_s := 1) rfl hk ?_
      show wF _ 219 (9, [some (.ref _), some (.int _)], [.int _], _) _
      refine w_t (pc := 9) (e_s := (15, 3, 14, 1, 0, .null, [])) (y_s := (14, [some (.ref _), some (.int _)], [], _)) rfl (u_ rfl) ?_
      refine w_t (pc := 14) (e_s := (3, 1, 0, 0, 0, .null, [])) (y_s := (15, [some (.ref _), some (.int _)], [.ref _], _)) rfl (u_ rfl) ?_
      refine w20 (pc := 15) (len_s := 3) rfl ?_
      refine w_t (pc := 18) (e_s := (0, 2, 0, 0, 0, .int 50, [])) (y_s := (20, [some (.ref _), some (.int _)], [.int _, .int _], _)) rfl (u_ rfl) ?_
      refine wi1 (pc := 20) (len_s := 3) (Y := 50) rfl rfl (by decide) (fun c3_s => ?_) (fun c3_s => ?_)
      · replace t_s := t_s.1 c3_s
        refine w_t (pc := 23) (e_s := (0, 2, 0, 0, 0, .int (-3), [])) (y_s := (25, [some (.ref _), some (.int _)], [.int _], _)) rfl (u_ rfl) ?_
        exact wrI (pc := 25) (len_s := 1) rfl hk t_s
      · replace t_s := t_s.2 c3_s
        refine w_t (pc := 26) (e_s := (3, 1, 0, 0, 0, .null, [])) (y_s := (27, [some (.ref _), some (.int _)], [.ref _], _)) rfl (u_ rfl) ?_
        refine w20r (pc := 27) (len_s := 3) (q_s := 122) rfl (krq hk rfl) ?_
        refine w_t (pc := 30) (e_s := (3, 1, 0, 0, 0, .null, [])) (y_s := (31, [some (.ref _), some (.int _)], [.ref _, .ref _], _)) rfl (u_ rfl) ?_
        refine w20 (pc := 31) (len_s := 3) rfl ?_
        refine w_t (pc := 34) (e_s := (1, 1, 1, 0, 0, .null, [])) (y_s := (35, [some (.ref _), some (.int _)], [.int _, .int _, .ref _], _)) rfl (u_ rfl) ?_
        refine w25 (pc := 35) (len_s := 1) rfl (hk.1 122 0 50 rfl rfl) (fun c4_s => ?_)
        replace t_s := t_s c4_s
        refine w_t (pc := 36) (e_s := (3, 1, 0, 0, 0, .null, [])) (y_s := (37, [some (.ref _), some (.int _)], [.ref _], _)) rfl (u_ rfl) ?_
        refine w_t (pc := 37) (e_s := (39, 1, 0, 0, 0, .null, [])) (y_s := (38, [some (.ref _), some (.int _)], [.ref _, .ref _], _)) rfl (u_ rfl) ?_
        refine w20 (pc := 38) (len_s := 3) rfl ?_
        refine w_t (pc := 41) (e_s := (0, 1, 0, 0, 0, .int 1, [])) (y_s := (42, [some (.ref _), some (.int _)], [.int _, .int _, .ref _], _)) rfl (u_ rfl) ?_
        refine w_t (pc := 42) (e_s := (7, 1, 0, 0, 0, .null, [])) (y_s := (43, [some (.ref _), some (.int _)], [.int (_ + _), .ref _], _)) rfl (u_ rfl) ?_
        refine w21 (pc := 43) (len_s := 3) rfl ?_
        refine w_t (pc := 46) (e_s := (3, 1, 0, 0, 0, .null, [])) (y_s := (47, [some (.ref _), some (.int _)], [.ref _], _)) rfl (u_ rfl) ?_
        refine w20 (pc := 47) (len_s := 3) rfl ?_
        refine w_t (pc := 50) (e_s := (0, 1, 0, 0, 0, .int 1, [])) (y_s := (51, [some (.ref _), some (.int _)], [.int _, .int _], _)) rfl (u_ rfl) ?_
        refine w_t (pc := 51) (e_s := (7, 1, 0, 1, 0, .null, [])) (y_s := (52, [some (.ref _), some (.int _)], [.int (_ - _)], _)) rfl (u_ rfl) ?_
        exact wrI (pc := 52) (len_s := 1) rfl hk t_s
/-- ColdShod.keep(II)I, from 0 on -/
theorem sg_128_0 {F_s : Nat} {x1_s : Int32} {x2_s : Int32} {h_s : zH} {K_s : Int32 → zH → Prop} (hk : hKn h_s) (t_s : (x1_s.toInt < 0 → K_s (-1) h_s) ∧ (¬ x1_s.toInt < 0 → ((x1_s.toInt < 6 → ((x2_s.toInt = -1 → (zix x1_s < 6 → K_s 1 (h_s.1, zup h_s.2.1 (76 + 2 * (zix x1_s)) 0 0, h_s.2.2.1, h_s.2.2.2))) ∧ (¬ x2_s.toInt = -1 → ((x2_s.toInt < 0 → K_s (-1) h_s) ∧ (¬ x2_s.toInt < 0 → ((x2_s.toInt < (h_s.2.1 47 1).toInt → (zix x1_s < 6 → K_s 1 (h_s.1, zup (zup h_s.2.1 (76 + 2 * (zix x1_s)) 0 1) (76 + 2 * (zix x1_s)) 1 x2_s, h_s.2.2.1, h_s.2.2.2))) ∧ (¬ x2_s.toInt < (h_s.2.1 47 1).toInt → K_s (-1) h_s))))))) ∧ (¬ x1_s.toInt < 6 → K_s (-1) h_s)))) : wF (F_s + 1) 128 (0, [some (.ref 6), some (.int x1_s), some (.int x2_s)], [], h_s) (gI K_s) := by
  refine w_0 (pc := 0) (e_s := (1, 1, 1, 0, 0, .null, [])) (y_s := (1, [some (.ref _), some (.int _), some (.int _)], [.int _], _)) rfl (u_ rfl) ?_
  refine wcI (pc := 1) (len_s := 3) rfl rfl (l := [some (.int _)]) rfl ?_
  refine w_t (pc := 0) (e_s := (1, 1, 0, 0, 0, .null, [])) (y_s := (1, [some (.int _)], [.int _], _)) rfl (u_ rfl) ?_
  refine wq2 (pc := 1) (len_s := 3) rfl rfl (fun c1_s => ?_) (fun c1_s => ?_)
  · replace t_s := t_s.1 c1_s
    refine w_t (pc := 14) (e_s := (0, 1, 0, 0, 0, .int 0, [])) (y_s := (15, [some (.int _)], [.int _], _)) rfl (u_ rfl) ?_
    refine wrI (pc := 15) (len_s := 1) rfl hk ?_
    show wF _ 128 (4, [some (.ref _), some (.int _), some (.int _)], [.int _], _) _
    refine w_t (pc := 4) (e_s := (15, 3, 23, 0, 0, .null, [])) (y_s := (23, [some (.ref _), some (.int _), some (.int _)], [], _)) rfl (u_ rfl) ?_
    refine w_t (pc := 23) (e_s := (0, 1, 0, 0, 0, .int (-1), [])) (y_s := (24, [some (.ref _), some (.int _), some (.int _)], [.int _], _)) rfl (u_ rfl) ?_
    exact wrI (pc := 24) (len_s := 1) rfl hk t_s
  · replace t_s := t_s.2 c1_s
    refine w_t (pc := 4) (e_s := (1, 1, 0, 0, 0, .null, [])) (y_s := (5, [some (.int _)], [.int _], _)) rfl (u_ rfl) ?_
    refine w_t (pc := 5) (e_s := (0, 2, 0, 0, 0, .int 6, [])) (y_s := (7, [some (.int _)], [.int _, .int _], _)) rfl (u_ rfl) ?_
    refine wi3 (pc := 7) (len_s := 3) (Y := 6) rfl rfl (by decide) (fun c2_s => ?_) (fun c2_s => ?_)
    · replace t_s := t_s.1 c2_s
      refine w_t (pc := 10) (e_s := (0, 1, 0, 0, 0, .int 1, [])) (y_s := (11, [some (.int _)], [.int _], _)) rfl (u_ rfl) ?_
      refine w_t (pc := 11) (e_s := (17, 3, 15, 0, 0, .null, [])) (y_s := (15, [some (.int _)], [.int _], _)) rfl (u_ rfl) ?_
      refine wrI (pc := 15) (len_s := 1) rfl hk ?_
      show wF _ 128 (4, [some (.ref _), some (.int _), some (.int _)], [.int _], _) _
      refine w_t (pc := 4) (e_s := (15, 3, 23, 0, 0, .null, [])) (y_s := (7, [some (.ref _), some (.int _), some (.int _)], [], _)) rfl (u_ rfl) ?_
      refine w_t (pc := 7) (e_s := (1, 1, 2, 0, 0, .null, [])) (y_s := (8, [some (.ref _), some (.int _), some (.int _)], [.int _], _)) rfl (u_ rfl) ?_
      refine w_t (pc := 8) (e_s := (0, 1, 0, 0, 0, .int (-1), [])) (y_s := (9, [some (.ref _), some (.int _), some (.int _)], [.int _, .int _], _)) rfl (u_ rfl) ?_
      refine wi0 (pc := 9) (len_s := 3) (Y := -1) rfl rfl (by decide) (fun c3_s => ?_) (fun c3_s => ?_)
      · replace t_s := t_s.1 c3_s
        refine w_t (pc := 25) (e_s := (1, 1, 2, 0, 0, .null, [])) (y_s := (26, [some (.ref _), some (.int _), some (.int _)], [.int _], _)) rfl (u_ rfl) ?_
        refine w_t (pc := 26) (e_s := (0, 1, 0, 0, 0, .int (-1), [])) (y_s := (27, [some (.ref _), some (.int _), some (.int _)], [.int _, .int _], _)) rfl (u_ rfl) ?_
        refine wi1 (pc := 27) (len_s := 3) (Y := -1) rfl rfl (by decide) (fun c4_s => ?_) (fun c4_s => ?_)
        · skip
          refine w_t (pc := 30) (e_s := (3, 1, 0, 0, 0, .null, [])) (y_s := (31, [some (.ref _), some (.int _), some (.int _)], [.ref _], _)) rfl (u_ rfl) ?_
          refine w20r (pc := 31) (len_s := 3) (q_s := 71) rfl (krq hk rfl) ?_
          refine w_t (pc := 34) (e_s := (1, 1, 1, 0, 0, .null, [])) (y_s := (35, [some (.ref _), some (.int _), some (.int _)], [.int _, .ref _], _)) rfl (u_ rfl) ?_
          refine w24 (g_s := fun j_ => 76 + 2 * j_) (pc := 35) (len_s := 1) hk rfl (hk.1 71 4 6 rfl rfl) kg71 (fun c5_s => ?_)
          replace t_s := t_s c5_s
          refine w_t (pc := 36) (e_s := (0, 1, 0, 0, 0, .int 0, [])) (y_s := (37, [some (.ref _), some (.int _), some (.int _)], [.int _, .ref _], _)) rfl (u_ rfl) ?_
          refine w21 (pc := 37) (len_s := 3) rfl ?_
          refine w_t (pc := 40) (e_s := (17, 3, 53, 0, 0, .null, [])) (y_s := (53, [some (.ref _), some (.int _), some (.int _)], [], _)) rfl (u_ rfl) ?_
          refine w_t (pc := 53) (e_s := (0, 1, 0, 0, 0, .int 1, [])) (y_s := (54, [some (.ref _), some (.int _), some (.int _)], [.int _], _)) rfl (u_ rfl) ?_
          exact wrI (pc := 54) (len_s := 1) rfl hk t_s
        · exact absurd c3_s c4_s
      · replace t_s := t_s.2 c3_s
        refine w_t (pc := 12) (e_s := (3, 1, 0, 0, 0, .null, [])) (y_s := (13, [some (.ref _), some (.int _), some (.int _)], [.ref _], _)) rfl (u_ rfl) ?_
        refine w20r (pc := 13) (len_s := 3) (q_s := 47) rfl (krq hk rfl) ?_
        refine w_t (pc := 16) (e_s := (1, 1, 2, 0, 0, .null, [])) (y_s := (17, [some (.ref _), some (.int _), some (.int _)], [.int _, .ref _], _)) rfl (u_ rfl) ?_
        refine wcI (pc := 17) (len_s := 3) rfl rfl (l := [some (.ref _), some (.int _)]) rfl ?_
        refine w_t (pc := 0) (e_s := (1, 1, 1, 0, 0, .null, [])) (y_s := (1, [some (.ref _), some (.int _)], [.int _], _)) rfl (u_ rfl) ?_
        refine wq2 (pc := 1) (len_s := 3) rfl rfl (fun c6_s => ?_) (fun c6_s => ?_)
        · replace t_s := t_s.1 c6_s
          refine w_t (pc := 16) (e_s := (0, 1, 0, 0, 0, .int 0, [])) (y_s := (17, [some (.ref _), some (.int _)], [.int _], _)) rfl (u_ rfl) ?_
          refine wrI (pc := 17) (len_s := 1) rfl hk ?_
          show wF _ 128 (20, [some (.ref _), some (.int _), some (.int _)], [.int _], _) _
          refine w_t (pc := 20) (e_s := (15, 3, 25, 1, 0, .null, [])) (y_s := (23, [some (.ref _), some (.int _), some (.int _)], [], _)) rfl (u_ rfl) ?_
          refine w_t (pc := 23) (e_s := (0, 1, 0, 0, 0, .int (-1), [])) (y_s := (24, [some (.ref _), some (.int _), some (.int _)], [.int _], _)) rfl (u_ rfl) ?_
          exact wrI (pc := 24) (len_s := 1) rfl hk t_s
        · replace t_s := t_s.2 c6_s
          refine w_t (pc := 4) (e_s := (1, 1, 1, 0, 0, .null, [])) (y_s := (5, [some (.ref _), some (.int _)], [.int _], _)) rfl (u_ rfl) ?_
          refine w_t (pc := 5) (e_s := (3, 1, 0, 0, 0, .null, [])) (y_s := (6, [some (.ref _), some (.int _)], [.ref _, .int _], _)) rfl (u_ rfl) ?_
          refine w20 (pc := 6) (len_s := 3) rfl ?_
          refine wi3 (pc := 9) (len_s := 3) rfl rfl rfl (fun c7_s => ?_) (fun c7_s => ?_)
          · replace t_s := t_s.1 c7_s
            refine w_t (pc := 12) (e_s := (0, 1, 0, 0, 0, .int 1, [])) (y_s := (13, [some (.ref _), some (.int _)], [.int _], _)) rfl (u_ rfl) ?_
            refine w_t (pc := 13) (e_s := (17, 3, 17, 0, 0, .null, [])) (y_s := (17, [some (.ref _), some (.int _)], [.int _], _)) rfl (u_ rfl) ?_
            refine wrI (pc := 17) (len_s := 1) rfl hk ?_
            show wF _ 128 (20, [some (.ref _), some (.int _), some (.int _)], [.int _], _) _
            refine w_t (pc := 20) (e_s := (15, 3, 25, 1, 0, .null, [])) (y_s := (25, [some (.ref _), some (.int _), some (.int _)], [], _)) rfl (u_ rfl) ?_
            refine w_t (pc := 25) (e_s := (1, 1, 2, 0, 0, .null, [])) (y_s := (26, [some (.ref _), some (.int _), some (.int _)], [.int _], _)) rfl (u_ rfl) ?_
            refine w_t (pc := 26) (e_s := (0, 1, 0, 0, 0, .int (-1), [])) (y_s := (27, [some (.ref _), some (.int _), some (.int _)], [.int _, .int _], _)) rfl (u_ rfl) ?_
            refine wi1 (pc := 27) (len_s := 3) (Y := -1) rfl rfl (by decide) (fun c8_s => ?_) (fun c8_s => ?_)
            · exact absurd c8_s c3_s
            · skip
              refine w_t (pc := 43) (e_s := (3, 1, 0, 0, 0, .null, [])) (y_s := (44, [some (.ref _), some (.int _), some (.int _)], [.ref _], _)) rfl (u_ rfl) ?_
              refine w20r (pc := 44) (len_s := 3) (q_s := 71) rfl (krq hk rfl) ?_
              refine w_t (pc := 47) (e_s := (1, 1, 1, 0, 0, .null, [])) (y_s := (48, [some (.ref _), some (.int _), some (.int _)], [.int _, .ref _], _)) rfl (u_ rfl) ?_
              refine w24 (g_s := fun j_ => 76 + 2 * j_) (pc := 48) (len_s := 1) hk rfl (hk.1 71 4 6 rfl rfl) kg71 (fun c9_s => ?_)
              replace t_s := t_s c9_s
              refine w_t (pc := 49) (e_s := (1, 1, 2, 0, 0, .null, [])) (y_s := (50, [some (.ref _), some (.int _), some (.int _)], [.int _, .ref _], _)) rfl (u_ rfl) ?_
              refine wcV (pc := 50) (len_s := 3) rfl rfl (l := [some (.ref _), some (.int _)]) rfl ?_
              refine w_t (pc := 0) (e_s := (3, 1, 0, 0, 0, .null, [])) (y_s := (1, [some (.ref _), some (.int _)], [.ref _], _)) rfl (u_ rfl) ?_
              refine w_t (pc := 1) (e_s := (0, 1, 0, 0, 0, .int 1, [])) (y_s := (2, [some (.ref _), some (.int _)], [.int _, .ref _], _)) rfl (u_ rfl) ?_
              refine w21 (pc := 2) (len_s := 3) rfl ?_
              refine w_t (pc := 5) (e_s := (3, 1, 0, 0, 0, .null, [])) (y_s := (6, [some (.ref _), some (.int _)], [.ref _], _)) rfl (u_ rfl) ?_
              refine w_t (pc := 6) (e_s := (1, 1, 1, 0, 0, .null, [])) (y_s := (7, [some (.ref _), some (.int _)], [.int _, .ref _], _)) rfl (u_ rfl) ?_
              refine w21 (pc := 7) (len_s := 3) rfl ?_
              refine wrV (pc := 10) (len_s := 1) rfl hk ?_
              show wF _ 128 (53, [some (.ref _), some (.int _), some (.int _)], [], _) _
              refine w_t (pc := 53) (e_s := (0, 1, 0, 0, 0, .int 1, [])) (y_s := (54, [some (.ref _), some (.int _), some (.int _)], [.int _], _)) rfl (u_ rfl) ?_
              exact wrI (pc := 54) (len_s := 1) rfl hk t_s
          · replace t_s := t_s.2 c7_s
            refine w_t (pc := 16) (e_s := (0, 1, 0, 0, 0, .int 0, [])) (y_s := (17, [some (.ref _), some (.int _)], [.int _], _)) rfl (u_ rfl) ?_
            refine wrI (pc := 17) (len_s := 1) rfl hk ?_
            show wF _ 128 (20, [some (.ref _), some (.int _), some (.int _)], [.int _], _) _
            refine w_t (pc := 20) (e_s := (15, 3, 25, 1, 0, .null, [])) (y_s := (23, [some (.ref _), some (.int _), some (.int _)], [], _)) rfl (u_ rfl) ?_
            refine w_t (pc := 23) (e_s := (0, 1, 0, 0, 0, .int (-1), [])) (y_s := (24, [some (.ref _), some (.int _), some (.int _)], [.int _], _)) rfl (u_ rfl) ?_
            exact wrI (pc := 24) (len_s := 1) rfl hk t_s
    · replace t_s := t_s.2 c2_s
      refine w_t (pc := 14) (e_s := (0, 1, 0, 0, 0, .int 0, [])) (y_s := (15, [some (.int _)], [.int _], _)) rfl (u_ rfl) ?_
      refine wrI (pc := 15) (len_s := 1) rfl hk ?_
      show wF _ 128 (4, [some (.ref _), some (.int _), some (.int _)], [.int _], _) _
      refine w_t (pc := 4) (e_s := (15, 3, 23, 0, 0, .null, [])) (y_s := (23, [some (.ref _), some (.int _), some (.int _)], [], _)) rfl (u_ rfl) ?_
      refine w_t (pc := 23) (e_s := (0, 1, 0, 0, 0, .int (-1), [])) (y_s := (24, [some (.ref _), some (.int _), some (.int _)], [.int _], _)) rfl (u_ rfl) ?_
      exact wrI (pc := 24) (len_s := 1) rfl hk t_s
/-- ColdShodModel.keep(II)I, from 0 on -/
theorem sg_229_0 {F_s : Nat} {x1_s : Int32} {x2_s : Int32} {h_s : zH} {K_s : Int32 → zH → Prop} (hk : hKn h_s) (t_s : (x1_s.toInt < 0 → K_s (-1) h_s) ∧ (¬ x1_s.toInt < 0 → ((5 < x1_s.toInt → K_s (-1) h_s) ∧ (¬ 5 < x1_s.toInt → ((x2_s.toInt = -1 → (zix x1_s < 6 → K_s 1 (h_s.1, zup (zup h_s.2.1 124 (zix x1_s) x2_s) 125 (zix x1_s) 0, h_s.2.2.1, h_s.2.2.2))) ∧ (¬ x2_s.toInt = -1 → ((x2_s.toInt < 0 → K_s (-1) h_s) ∧ (¬ x2_s.toInt < 0 → ((((h_s.2.1 102 39) - 1).toInt < x2_s.toInt → K_s (-1) h_s) ∧ (¬ ((h_s.2.1 102 39) - 1).toInt < x2_s.toInt → (zix x1_s < 6 → K_s 1 (h_s.1, zup (zup h_s.2.1 124 (zix x1_s) x2_s) 125 (zix x1_s) 0, h_s.2.2.1, h_s.2.2.2)))))))))))) : wF (F_s + 1) 229 (0, [some (.ref 102), some (.int x1_s), some (.int x2_s)], [], h_s) (gI K_s) := by
  refine w_0 (pc := 0) (e_s := (1, 1, 1, 0, 0, .null, [])) (y_s := (1, [some (.ref _), some (.int _), some (.int _)], [.int _], _)) rfl (u_ rfl) ?_
  refine wcI (pc := 1) (len_s := 3) rfl rfl (l := [some (.int _)]) rfl ?_
  refine w_t (pc := 0) (e_s := (1, 1, 0, 0, 0, .null, [])) (y_s := (1, [some (.int _)], [.int _], _)) rfl (u_ rfl) ?_
  refine w_t (pc := 1) (e_s := (10, 1, 0, 0, 0, .null, [])) (y_s := (2, [some (.int _)], [.long (Int32.toInt64 _)], _)) rfl (u_ rfl) ?_
  refine w_t (pc := 2) (e_s := (0, 1, 0, 0, 0, .long 0, [])) (y_s := (3, [some (.int _)], [.long _, .long _], _)) rfl (u_ rfl) ?_
  refine w_t (pc := 3) (e_s := (0, 3, 0, 0, 0, .long 5, [(0, 1063)])) (y_s := (6, [some (.int _)], [.long _, .long _, .long _], _)) rfl (u_ rfl) ?_
  refine wcI (pc := 6) (len_s := 3) rfl rfl (l := [some (.long _), none, some (.long _), none, some (.long _), none]) rfl ?_
  refine w_t (pc := 0) (e_s := (2, 1, 0, 0, 0, .null, [])) (y_s := (1, [some (.long _), none, some (.long _), none, some (.long _), none], [.long _], _)) rfl (u_ rfl) ?_
  refine w_t (pc := 1) (e_s := (2, 1, 2, 0, 0, .null, [])) (y_s := (2, [some (.long _), none, some (.long _), none, some (.long _), none], [.long _, .long _], _)) rfl (u_ rfl) ?_
  refine w_t (pc := 2) (e_s := (14, 1, 0, 0, 0, .null, [])) (y_s := (3, [some (.long _), none, some (.long _), none, some (.long _), none], [.int (lg_cmp _ _)], _)) rfl (u_ rfl) ?_
  refine wl2 (pc := 3) (len_s := 3) (Y := 0) rfl (Int32.toInt_toInt64 _) (by decide) (fun c1_s => ?_) (fun c1_s => ?_)
  · replace t_s := t_s.1 c1_s
    refine w_t (pc := 17) (e_s := (0, 1, 0, 0, 0, .int 0, [])) (y_s := (18, [some (.long _), none, some (.long _), none, some (.long _), none], [.int _], _)) rfl (u_ rfl) ?_
    refine wrI (pc := 18) (len_s := 1) rfl hk ?_
    show wF _ 228 (9, [some (.int _)], [.int _], _) _
    refine wrI (pc := 9) (len_s := 1) rfl hk ?_
    show wF _ 229 (4, [some (.ref _), some (.int _), some (.int _)], [.int _], _) _
    refine w_t (pc := 4) (e_s := (15, 3, 20, 0, 0, .null, [])) (y_s := (20, [some (.ref _), some (.int _), some (.int _)], [], _)) rfl (u_ rfl) ?_
    refine w_t (pc := 20) (e_s := (0, 1, 0, 0, 0, .int (-1), [])) (y_s := (21, [some (.ref _), some (.int _), some (.int _)], [.int _], _)) rfl (u_ rfl) ?_
    exact wrI (pc := 21) (len_s := 1) rfl hk t_s
  · replace t_s := t_s.2 c1_s
    refine w_t (pc := 6) (e_s := (2, 1, 0, 0, 0, .null, [])) (y_s := (7, [some (.long _), none, some (.long _), none, some (.long _), none], [.long _], _)) rfl (u_ rfl) ?_
    refine w_t (pc := 7) (e_s := (2, 2, 4, 0, 0, .null, [])) (y_s := (9, [some (.long _), none, some (.long _), none, some (.long _), none], [.long _, .long _], _)) rfl (u_ rfl) ?_
    refine w_t (pc := 9) (e_s := (14, 1, 0, 0, 0, .null, [])) (y_s := (10, [some (.long _), none, some (.long _), none, some (.long _), none], [.int (lg_cmp _ _)], _)) rfl (u_ rfl) ?_
    refine wl4 (pc := 10) (len_s := 3) (Y := 5) rfl (Int32.toInt_toInt64 _) (by decide) (fun c2_s => ?_) (fun c2_s => ?_)
    · replace t_s := t_s.1 c2_s
      refine w_t (pc := 17) (e_s := (0, 1, 0, 0, 0, .int 0, [])) (y_s := (18, [some (.long _), none, some (.long _), none, some (.long _), none], [.int _], _)) rfl (u_ rfl) ?_
      refine wrI (pc := 18) (len_s := 1) rfl hk ?_
      show wF _ 228 (9, [some (.int _)], [.int _], _) _
      refine wrI (pc := 9) (len_s := 1) rfl hk ?_
      show wF _ 229 (4, [some (.ref _), some (.int _), some (.int _)], [.int _], _) _
      refine w_t (pc := 4) (e_s := (15, 3, 20, 0, 0, .null, [])) (y_s := (20, [some (.ref _), some (.int _), some (.int _)], [], _)) rfl (u_ rfl) ?_
      refine w_t (pc := 20) (e_s := (0, 1, 0, 0, 0, .int (-1), [])) (y_s := (21, [some (.ref _), some (.int _), some (.int _)], [.int _], _)) rfl (u_ rfl) ?_
      exact wrI (pc := 21) (len_s := 1) rfl hk t_s
    · replace t_s := t_s.2 c2_s
      refine w_t (pc := 13) (e_s := (0, 1, 0, 0, 0, .int 1, [])) (y_s := (14, [some (.long _), none, some (.long _), none, some (.long _), none], [.int _], _)) rfl (u_ rfl) ?_
      refine w_t (pc := 14) (e_s := (17, 3, 18, 0, 0, .null, [])) (y_s := (18, [some (.long _), none, some (.long _), none, some (.long _), none], [.int _], _)) rfl (u_ rfl) ?_
      refine wrI (pc := 18) (len_s := 1) rfl hk ?_
      show wF _ 228 (9, [some (.int _)], [.int _], _) _
      refine wrI (pc := 9) (len_s := 1) rfl hk ?_
      show wF _ 229 (4, [some (.ref _), some (.int _), some (.int _)], [.int _], _) _
      refine w_t (pc := 4) (e_s := (15, 3, 20, 0, 0, .null, [])) (y_s := (7, [some (.ref _), some (.int _), some (.int _)], [], _)) rfl (u_ rfl) ?_
      refine w_t (pc := 7) (e_s := (1, 1, 2, 0, 0, .null, [])) (y_s := (8, [some (.ref _), some (.int _), some (.int _)], [.int _], _)) rfl (u_ rfl) ?_
      refine w_t (pc := 8) (e_s := (0, 1, 0, 0, 0, .int (-1), [])) (y_s := (9, [some (.ref _), some (.int _), some (.int _)], [.int _, .int _], _)) rfl (u_ rfl) ?_
      refine wi0 (pc := 9) (len_s := 3) (Y := -1) rfl rfl (by decide) (fun c3_s => ?_) (fun c3_s => ?_)
      · replace t_s := t_s.1 c3_s
        refine w_t (pc := 22) (e_s := (3, 1, 0, 0, 0, .null, [])) (y_s := (23, [some (.ref _), some (.int _), some (.int _)], [.ref _], _)) rfl (u_ rfl) ?_
        refine w20r (pc := 23) (len_s := 3) (q_s := 124) rfl (krq hk rfl) ?_
        refine w_t (pc := 26) (e_s := (1, 1, 1, 0, 0, .null, [])) (y_s := (27, [some (.ref _), some (.int _), some (.int _)], [.int _, .ref _], _)) rfl (u_ rfl) ?_
        refine w_t (pc := 27) (e_s := (1, 1, 2, 0, 0, .null, [])) (y_s := (28, [some (.ref _), some (.int _), some (.int _)], [.int _, .int _, .ref _], _)) rfl (u_ rfl) ?_
        refine w25 (pc := 28) (len_s := 1) rfl (hk.1 124 0 6 rfl rfl) (fun c4_s => ?_)
        replace t_s := t_s c4_s
        refine w_t (pc := 29) (e_s := (3, 1, 0, 0, 0, .null, [])) (y_s := (30, [some (.ref _), some (.int _), some (.int _)], [.ref _], _)) rfl (u_ rfl) ?_
        refine w20r (pc := 30) (len_s := 3) (q_s := 125) rfl (krq hk rfl) ?_
        refine w_t (pc := 33) (e_s := (1, 1, 1, 0, 0, .null, [])) (y_s := (34, [some (.ref _), some (.int _), some (.int _)], [.int _, .ref _], _)) rfl (u_ rfl) ?_
        refine w_t (pc := 34) (e_s := (0, 1, 0, 0, 0, .int 0, [])) (y_s := (35, [some (.ref _), some (.int _), some (.int _)], [.int _, .int _, .ref _], _)) rfl (u_ rfl) ?_
        refine w25 (pc := 35) (len_s := 1) rfl (hk.1 125 0 6 rfl rfl) (fun c5_s => ?_)
        refine w_t (pc := 36) (e_s := (0, 1, 0, 0, 0, .int 1, [])) (y_s := (37, [some (.ref _), some (.int _), some (.int _)], [.int _], _)) rfl (u_ rfl) ?_
        exact wrI (pc := 37) (len_s := 1) rfl hk t_s
      · replace t_s := t_s.2 c3_s
        refine w_t (pc := 12) (e_s := (3, 1, 0, 0, 0, .null, [])) (y_s := (13, [some (.ref _), some (.int _), some (.int _)], [.ref _], _)) rfl (u_ rfl) ?_
        refine w_t (pc := 13) (e_s := (1, 1, 2, 0, 0, .null, [])) (y_s := (14, [some (.ref _), some (.int _), some (.int _)], [.int _, .ref _], _)) rfl (u_ rfl) ?_
        refine wcI (pc := 14) (len_s := 3) rfl rfl (l := [some (.ref _), some (.int _)]) rfl ?_
        refine w_t (pc := 0) (e_s := (1, 1, 1, 0, 0, .null, [])) (y_s := (1, [some (.ref _), some (.int _)], [.int _], _)) rfl (u_ rfl) ?_
        refine w_t (pc := 1) (e_s := (10, 1, 0, 0, 0, .null, [])) (y_s := (2, [some (.ref _), some (.int _)], [.long (Int32.toInt64 _)], _)) rfl (u_ rfl) ?_
        refine w_t (pc := 2) (e_s := (0, 1, 0, 0, 0, .long 0, [])) (y_s := (3, [some (.ref _), some (.int _)], [.long _, .long _], _)) rfl (u_ rfl) ?_
        refine w_t (pc := 3) (e_s := (3, 1, 0, 0, 0, .null, [])) (y_s := (4, [some (.ref _), some (.int _)], [.ref _, .long _, .long _], _)) rfl (u_ rfl) ?_
        refine w20 (pc := 4) (len_s := 3) rfl ?_
        refine w_t (pc := 7) (e_s := (0, 1, 0, 0, 0, .int 1, [])) (y_s := (8, [some (.ref _), some (.int _)], [.int _, .int _, .long _, .long _], _)) rfl (u_ rfl) ?_
        refine w_t (pc := 8) (e_s := (7, 1, 0, 1, 0, .null, [])) (y_s := (9, [some (.ref _), some (.int _)], [.int (_ - _), .long _, .long _], _)) rfl (u_ rfl) ?_
        refine w_t (pc := 9) (e_s := (10, 1, 0, 0, 0, .null, [])) (y_s := (10, [some (.ref _), some (.int _)], [.long (Int32.toInt64 _), .long _, .long _], _)) rfl (u_ rfl) ?_
        refine wcI (pc := 10) (len_s := 3) rfl rfl (l := [some (.long _), none, some (.long _), none, some (.long _), none]) rfl ?_
        refine w_t (pc := 0) (e_s := (2, 1, 0, 0, 0, .null, [])) (y_s := (1, [some (.long _), none, some (.long _), none, some (.long _), none], [.long _], _)) rfl (u_ rfl) ?_
        refine w_t (pc := 1) (e_s := (2, 1, 2, 0, 0, .null, [])) (y_s := (2, [some (.long _), none, some (.long _), none, some (.long _), none], [.long _, .long _], _)) rfl (u_ rfl) ?_
        refine w_t (pc := 2) (e_s := (14, 1, 0, 0, 0, .null, [])) (y_s := (3, [some (.long _), none, some (.long _), none, some (.long _), none], [.int (lg_cmp _ _)], _)) rfl (u_ rfl) ?_
        refine wl2 (pc := 3) (len_s := 3) (Y := 0) rfl (Int32.toInt_toInt64 _) (by decide) (fun c6_s => ?_) (fun c6_s => ?_)
        · replace t_s := t_s.1 c6_s
          refine w_t (pc := 17) (e_s := (0, 1, 0, 0, 0, .int 0, [])) (y_s := (18, [some (.long _), none, some (.long _), none, some (.long _), none], [.int _], _)) rfl (u_ rfl) ?_
          refine wrI (pc := 18) (len_s := 1) rfl hk ?_
          show wF _ 217 (13, [some (.ref _), some (.int _)], [.int _], _) _
          refine wrI (pc := 13) (len_s := 1) rfl hk ?_
          show wF _ 229 (17, [some (.ref _), some (.int _), some (.int _)], [.int _], _) _
          refine w_t (pc := 17) (e_s := (15, 3, 22, 1, 0, .null, [])) (y_s := (20, [some (.ref _), some (.int _), some (.int _)], [], _)) rfl (u_ rfl) ?_
          refine w_t (pc := 20) (e_s := (0, 1, 0, 0, 0, .int (-1), [])) (y_s := (21, [some (.ref _), some (.int _), some (.int _)], [.int _], _)) rfl (u_ rfl) ?_
          exact wrI (pc := 21) (len_s := 1) rfl hk t_s
        · replace t_s := t_s.2 c6_s
          refine w_t (pc := 6) (e_s := (2, 1, 0, 0, 0, .null, [])) (y_s := (7, [some (.long _), none, some (.long _), none, some (.long _), none], [.long _], _)) rfl (u_ rfl) ?_
          refine w_t (pc := 7) (e_s := (2, 2, 4, 0, 0, .null, [])) (y_s := (9, [some (.long _), none, some (.long _), none, some (.long _), none], [.long _, .long _], _)) rfl (u_ rfl) ?_
          refine w_t (pc := 9) (e_s := (14, 1, 0, 0, 0, .null, [])) (y_s := (10, [some (.long _), none, some (.long _), none, some (.long _), none], [.int (lg_cmp _ _)], _)) rfl (u_ rfl) ?_
          refine wl4 (pc := 10) (len_s := 3) rfl (Int32.toInt_toInt64 _) (Int32.toInt_toInt64 _) (fun c7_s => ?_) (fun c7_s => ?_)
          · replace t_s := t_s.1 c7_s
            refine w_t (pc := 17) (e_s := (0, 1, 0, 0, 0, .int 0, [])) (y_s := (18, [some (.long _), none, some (.long _), none, some (.long _), none], [.int _], _)) rfl (u_ rfl) ?_
            refine wrI (pc := 18) (len_s := 1) rfl hk ?_
            show wF _ 217 (13, [some (.ref _), some (.int _)], [.int _], _) _
            refine wrI (pc := 13) (len_s := 1) rfl hk ?_
            show wF _ 229 (17, [some (.ref _), some (.int _), some (.int _)], [.int _], _) _
            refine w_t (pc := 17) (e_s := (15, 3, 22, 1, 0, .null, [])) (y_s := (20, [some (.ref _), some (.int _), some (.int _)], [], _)) rfl (u_ rfl) ?_
            refine w_t (pc := 20) (e_s := (0, 1, 0, 0, 0, .int (-1), [])) (y_s := (21, [some (.ref _), some (.int _), some (.int _)], [.int _], _)) rfl (u_ rfl) ?_
            exact wrI (pc := 21) (len_s := 1) rfl hk t_s
          · replace t_s := t_s.2 c7_s
            refine w_t (pc := 13) (e_s := (0, 1, 0, 0, 0, .int 1, [])) (y_s := (14, [some (.long _), none, some (.long _), none, some (.long _), none], [.int _], _)) rfl (u_ rfl) ?_
            refine w_t (pc := 14) (e_s := (17, 3, 18, 0, 0, .null, [])) (y_s := (18, [some (.long _), none, some (.long _), none, some (.long _), none], [.int _], _)) rfl (u_ rfl) ?_
            refine wrI (pc := 18) (len_s := 1) rfl hk ?_
            show wF _ 217 (13, [some (.ref _), some (.int _)], [.int _], _) _
            refine wrI (pc := 13) (len_s := 1) rfl hk ?_
            show wF _ 229 (17, [some (.ref _), some (.int _), some (.int _)], [.int _], _) _
            refine w_t (pc := 17) (e_s := (15, 3, 22, 1, 0, .null, [])) (y_s := (22, [some (.ref _), some (.int _), some (.int _)], [], _)) rfl (u_ rfl) ?_
            refine w_t (pc := 22) (e_s := (3, 1, 0, 0, 0, .null, [])) (y_s := (23, [some (.ref _), some (.int _), some (.int _)], [.ref _], _)) rfl (u_ rfl) ?_
            refine w20r (pc := 23) (len_s := 3) (q_s := 124) rfl (krq hk rfl) ?_
            refine w_t (pc := 26) (e_s := (1, 1, 1, 0, 0, .null, [])) (y_s := (27, [some (.ref _), some (.int _), some (.int _)], [.int _, .ref _], _)) rfl (u_ rfl) ?_
            refine w_t (pc := 27) (e_s := (1, 1, 2, 0, 0, .null, [])) (y_s := (28, [some (.ref _), some (.int _), some (.int _)], [.int _, .int _, .ref _], _)) rfl (u_ rfl) ?_
            refine w25 (pc := 28) (len_s := 1) rfl (hk.1 124 0 6 rfl rfl) (fun c8_s => ?_)
            replace t_s := t_s c8_s
            refine w_t (pc := 29) (e_s := (3, 1, 0, 0, 0, .null, [])) (y_s := (30, [some (.ref _), some (.int _), some (.int _)], [.ref _], _)) rfl (u_ rfl) ?_
            refine w20r (pc := 30) (len_s := 3) (q_s := 125) rfl (krq hk rfl) ?_
            refine w_t (pc := 33) (e_s := (1, 1, 1, 0, 0, .null, [])) (y_s := (34, [some (.ref _), some (.int _), some (.int _)], [.int _, .ref _], _)) rfl (u_ rfl) ?_
            refine w_t (pc := 34) (e_s := (0, 1, 0, 0, 0, .int 0, [])) (y_s := (35, [some (.ref _), some (.int _), some (.int _)], [.int _, .int _, .ref _], _)) rfl (u_ rfl) ?_
            refine w25 (pc := 35) (len_s := 1) rfl (hk.1 125 0 6 rfl rfl) (fun c9_s => ?_)
            refine w_t (pc := 36) (e_s := (0, 1, 0, 0, 0, .int 1, [])) (y_s := (37, [some (.ref _), some (.int _), some (.int _)], [.int _], _)) rfl (u_ rfl) ?_
            exact wrI (pc := 37) (len_s := 1) rfl hk t_s
/-- ColdShod.element(II)J, from 0 on -/
theorem sg_131_0 {F_s : Nat} {x1_s : Int32} {x2_s : Int32} {h_s : zH} {K_s : Int64 → zH → Prop} (hk : hKn h_s) (t_s : (x1_s.toInt < 0 → K_s (-9223372036854775808) h_s) ∧ (¬ x1_s.toInt < 0 → ((x1_s.toInt < 6 → (zix x1_s < 6 → ((h_s.2.1 (76 + 2 * (zix x1_s)) 0).toInt = 0 → K_s (-9223372036854775808) h_s) ∧ (¬ (h_s.2.1 (76 + 2 * (zix x1_s)) 0).toInt = 0 → (((h_s.2.1 (76 + 2 * (zix x1_s)) 0).toInt = 2 → ((x2_s.toInt < 0 → K_s (-9223372036854775808) h_s) ∧ (¬ x2_s.toInt < 0 → ((x2_s.toInt < (h_s.2.1 (76 + 2 * (zix x1_s)) 3).toInt → (zix x2_s < 60 → K_s (h_s.2.2.1 (76 + 2 * (zix x1_s) + 1) (zix x2_s)) h_s)) ∧ (¬ x2_s.toInt < (h_s.2.1 (76 + 2 * (zix x1_s)) 3).toInt → K_s (-9223372036854775808) h_s))))) ∧ (¬ (h_s.2.1 (76 + 2 * (zix x1_s)) 0).toInt = 2 → K_s (-9223372036854775808) h_s))))) ∧ (¬ x1_s.toInt < 6 → K_s (-9223372036854775808) h_s)))) : wF (F_s + 1) 131 (0, [some (.ref 6), some (.int x1_s), some (.int x2_s)], [], h_s) (gJ K_s) := by
  refine w_0 (pc := 0) (e_s := (3, 1, 0, 0, 0, .null, [])) (y_s := (1, [some (.ref _), some (.int _), some (.int _)], [.ref _], _)) rfl (u_ rfl) ?_
  refine w_t (pc := 1) (e_s := (1, 1, 1, 0, 0, .null, [])) (y_s := (2, [some (.ref _), some (.int _), some (.int _)], [.int _, .ref _], _)) rfl (u_ rfl) ?_
  refine w_t (pc := 2) (e_s := (1, 1, 2, 0, 0, .null, [])) (y_s := (3, [some (.ref _), some (.int _), some (.int _)], [.int _, .int _, .ref _], _)) rfl (u_ rfl) ?_
  refine wcI (pc := 3) (len_s := 3) rfl rfl (l := [some (.ref _), some (.int _), some (.int _)]) rfl ?_
  refine w_t (pc := 0) (e_s := (1, 1, 1, 0, 0, .null, [])) (y_s := (1, [some (.ref _), some (.int _), some (.int _)], [.int _], _)) rfl (u_ rfl) ?_
  refine wcI (pc := 1) (len_s := 3) rfl rfl (l := [some (.int _)]) rfl ?_
  refine w_t (pc := 0) (e_s := (1, 1, 0, 0, 0, .null, [])) (y_s := (1, [some (.int _)], [.int _], _)) rfl (u_ rfl) ?_
  refine wq2 (pc := 1) (len_s := 3) rfl rfl (fun c1_s => ?_) (fun c1_s => ?_)
  · replace t_s := t_s.1 c1_s
    refine w_t (pc := 14) (e_s := (0, 1, 0, 0, 0, .int 0, [])) (y_s := (15, [some (.int _)], [.int _], _)) rfl (u_ rfl) ?_
    refine wrI (pc := 15) (len_s := 1) rfl hk ?_
    show wF _ 142 (4, [some (.ref _), some (.int _), some (.int _)], [.int _], _) _
    refine w_t (pc := 4) (e_s := (15, 3, 9, 1, 0, .null, [])) (y_s := (7, [some (.ref _), some (.int _), some (.int _)], [], _)) rfl (u_ rfl) ?_
    refine w_t (pc := 7) (e_s := (0, 1, 0, 0, 0, .int (-1), [])) (y_s := (8, [some (.ref _), some (.int _), some (.int _)], [.int _], _)) rfl (u_ rfl) ?_
    refine wrI (pc := 8) (len_s := 1) rfl hk ?_
    show wF _ 131 (6, [some (.ref _), some (.int _), some (.int _)], [.int _], _) _
    refine w_t (pc := 6) (e_s := (15, 3, 15, 0, 0, .null, [])) (y_s := (9, [some (.ref _), some (.int _), some (.int _)], [], _)) rfl (u_ rfl) ?_
    refine w_t (pc := 9) (e_s := (0, 3, 0, 0, 0, .long (-9223372036854775808), [(0, 1020)])) (y_s := (12, [some (.ref _), some (.int _), some (.int _)], [.long _], _)) rfl (u_ rfl) ?_
    refine w_t (pc := 12) (e_s := (17, 3, 26, 0, 0, .null, [])) (y_s := (26, [some (.ref _), some (.int _), some (.int _)], [.long _], _)) rfl (u_ rfl) ?_
    exact wrJ (pc := 26) (len_s := 1) rfl hk t_s
  · replace t_s := t_s.2 c1_s
    refine w_t (pc := 4) (e_s := (1, 1, 0, 0, 0, .null, [])) (y_s := (5, [some (.int _)], [.int _], _)) rfl (u_ rfl) ?_
    refine w_t (pc := 5) (e_s := (0, 2, 0, 0, 0, .int 6, [])) (y_s := (7, [some (.int _)], [.int _, .int _], _)) rfl (u_ rfl) ?_
    refine wi3 (pc := 7) (len_s := 3) (Y := 6) rfl rfl (by decide) (fun c2_s => ?_) (fun c2_s => ?_)
    · replace t_s := t_s.1 c2_s
      refine w_t (pc := 10) (e_s := (0, 1, 0, 0, 0, .int 1, [])) (y_s := (11, [some (.int _)], [.int _], _)) rfl (u_ rfl) ?_
      refine w_t (pc := 11) (e_s := (17, 3, 15, 0, 0, .null, [])) (y_s := (15, [some (.int _)], [.int _], _)) rfl (u_ rfl) ?_
      refine wrI (pc := 15) (len_s := 1) rfl hk ?_
      show wF _ 142 (4, [some (.ref _), some (.int _), some (.int _)], [.int _], _) _
      refine w_t (pc := 4) (e_s := (15, 3, 9, 1, 0, .null, [])) (y_s := (9, [some (.ref _), some (.int _), some (.int _)], [], _)) rfl (u_ rfl) ?_
      refine w_t (pc := 9) (e_s := (3, 1, 0, 0, 0, .null, [])) (y_s := (10, [some (.ref _), some (.int _), some (.int _)], [.ref _], _)) rfl (u_ rfl) ?_
      refine w20r (pc := 10) (len_s := 3) (q_s := 71) rfl (krq hk rfl) ?_
      refine w_t (pc := 13) (e_s := (1, 1, 1, 0, 0, .null, [])) (y_s := (14, [some (.ref _), some (.int _), some (.int _)], [.int _, .ref _], _)) rfl (u_ rfl) ?_
      refine w24 (g_s := fun j_ => 76 + 2 * j_) (pc := 14) (len_s := 1) hk rfl (hk.1 71 4 6 rfl rfl) kg71 (fun c3_s => ?_)
      replace t_s := t_s c3_s
      refine w20 (pc := 15) (len_s := 3) rfl ?_
      refine wq1 (pc := 18) (len_s := 3) rfl rfl (fun c4_s => ?_) (fun c4_s => ?_)
      · replace t_s := t_s.1 c4_s
        refine w_t (pc := 21) (e_s := (0, 2, 0, 0, 0, .int (-11), [])) (y_s := (23, [some (.ref _), some (.int _), some (.int _)], [.int _], _)) rfl (u_ rfl) ?_
        refine wrI (pc := 23) (len_s := 1) rfl hk ?_
        show wF _ 131 (6, [some (.ref _), some (.int _), some (.int _)], [.int _], _) _
        refine w_t (pc := 6) (e_s := (15, 3, 15, 0, 0, .null, [])) (y_s := (9, [some (.ref _), some (.int _), some (.int _)], [], _)) rfl (u_ rfl) ?_
        refine w_t (pc := 9) (e_s := (0, 3, 0, 0, 0, .long (-9223372036854775808), [(0, 1020)])) (y_s := (12, [some (.ref _), some (.int _), some (.int _)], [.long _], _)) rfl (u_ rfl) ?_
        refine w_t (pc := 12) (e_s := (17, 3, 26, 0, 0, .null, [])) (y_s := (26, [some (.ref _), some (.int _), some (.int _)], [.long _], _)) rfl (u_ rfl) ?_
        exact wrJ (pc := 26) (len_s := 1) rfl hk t_s
      · replace t_s := t_s.2 c4_s
        refine w_t (pc := 24) (e_s := (3, 1, 0, 0, 0, .null, [])) (y_s := (25, [some (.ref _), some (.int _), some (.int _)], [.ref _], _)) rfl (u_ rfl) ?_
        refine w20r (pc := 25) (len_s := 3) (q_s := 71) rfl (krq hk rfl) ?_
        refine w_t (pc := 28) (e_s := (1, 1, 1, 0, 0, .null, [])) (y_s := (29, [some (.ref _), some (.int _), some (.int _)], [.int _, .ref _], _)) rfl (u_ rfl) ?_
        refine w24 (g_s := fun j_ => 76 + 2 * j_) (pc := 29) (len_s := 1) hk rfl (hk.1 71 4 6 rfl rfl) kg71 (fun c5_s => ?_)
        refine w20 (pc := 30) (len_s := 3) rfl ?_
        refine w_t (pc := 33) (e_s := (0, 1, 0, 0, 0, .int 2, [])) (y_s := (34, [some (.ref _), some (.int _), some (.int _)], [.int _, .int _], _)) rfl (u_ rfl) ?_
        refine wi0 (pc := 34) (len_s := 3) (Y := 2) rfl rfl (by decide) (fun c6_s => ?_) (fun c6_s => ?_)
        · replace t_s := t_s.1 c6_s
          refine w_t (pc := 40) (e_s := (1, 1, 2, 0, 0, .null, [])) (y_s := (41, [some (.ref _), some (.int _), some (.int _)], [.int _], _)) rfl (u_ rfl) ?_
          refine wq2 (pc := 41) (len_s := 3) rfl rfl (fun c7_s => ?_) (fun c7_s => ?_)
          · replace t_s := t_s.1 c7_s
            refine w_t (pc := 57) (e_s := (0, 2, 0, 0, 0, .int (-13), [])) (y_s := (59, [some (.ref _), some (.int _), some (.int _)], [.int _], _)) rfl (u_ rfl) ?_
            refine w_t (pc := 59) (e_s := (17, 3, 63, 0, 0, .null, [])) (y_s := (63, [some (.ref _), some (.int _), some (.int _)], [.int _], _)) rfl (u_ rfl) ?_
            refine wrI (pc := 63) (len_s := 1) rfl hk ?_
            show wF _ 131 (6, [some (.ref _), some (.int _), some (.int _)], [.int _], _) _
            refine w_t (pc := 6) (e_s := (15, 3, 15, 0, 0, .null, [])) (y_s := (9, [some (.ref _), some (.int _), some (.int _)], [], _)) rfl (u_ rfl) ?_
            refine w_t (pc := 9) (e_s := (0, 3, 0, 0, 0, .long (-9223372036854775808), [(0, 1020)])) (y_s := (12, [some (.ref _), some (.int _), some (.int _)], [.long _], _)) rfl (u_ rfl) ?_
            refine w_t (pc := 12) (e_s := (17, 3, 26, 0, 0, .null, [])) (y_s := (26, [some (.ref _), some (.int _), some (.int _)], [.long _], _)) rfl (u_ rfl) ?_
            exact wrJ (pc := 26) (len_s := 1) rfl hk t_s
          · replace t_s := t_s.2 c7_s
            refine w_t (pc := 44) (e_s := (1, 1, 2, 0, 0, .null, [])) (y_s := (45, [some (.ref _), some (.int _), some (.int _)], [.int _], _)) rfl (u_ rfl) ?_
            refine w_t (pc := 45) (e_s := (3, 1, 0, 0, 0, .null, [])) (y_s := (46, [some (.ref _), some (.int _), some (.int _)], [.ref _, .int _], _)) rfl (u_ rfl) ?_
            refine w20r (pc := 46) (len_s := 3) (q_s := 71) rfl (krq hk rfl) ?_
            refine w_t (pc := 49) (e_s := (1, 1, 1, 0, 0, .null, [])) (y_s := (50, [some (.ref _), some (.int _), some (.int _)], [.int _, .ref _, .int _], _)) rfl (u_ rfl) ?_
            refine w24 (g_s := fun j_ => 76 + 2 * j_) (pc := 50) (len_s := 1) hk rfl (hk.1 71 4 6 rfl rfl) kg71 (fun c8_s => ?_)
            refine w20 (pc := 51) (len_s := 3) rfl ?_
            refine wi2 (pc := 54) (len_s := 3) rfl rfl rfl (fun c9_s => ?_) (fun c9_s => ?_)
            · replace t_s := t_s.1 c9_s
              refine w_t (pc := 62) (e_s := (0, 1, 0, 0, 0, .int 0, [])) (y_s := (63, [some (.ref _), some (.int _), some (.int _)], [.int _], _)) rfl (u_ rfl) ?_
              refine wrI (pc := 63) (len_s := 1) rfl hk ?_
              show wF _ 131 (6, [some (.ref _), some (.int _), some (.int _)], [.int _], _) _
              refine w_t (pc := 6) (e_s := (15, 3, 15, 0, 0, .null, [])) (y_s := (15, [some (.ref _), some (.int _), some (.int _)], [], _)) rfl (u_ rfl) ?_
              refine w_t (pc := 15) (e_s := (3, 1, 0, 0, 0, .null, [])) (y_s := (16, [some (.ref _), some (.int _), some (.int _)], [.ref _], _)) rfl (u_ rfl) ?_
              refine w20r (pc := 16) (len_s := 3) (q_s := 71) rfl (krq hk rfl) ?_
              refine w_t (pc := 19) (e_s := (1, 1, 1, 0, 0, .null, [])) (y_s := (20, [some (.ref _), some (.int _), some (.int _)], [.int _, .ref _], _)) rfl (u_ rfl) ?_
              refine w24 (g_s := fun j_ => 76 + 2 * j_) (pc := 20) (len_s := 1) hk rfl (hk.1 71 4 6 rfl rfl) kg71 (fun c10_s => ?_)
              refine w20r (pc := 21) (len_s := 3) (q_s := 76 + 2 * (zix x1_s) + 1) rfl (kshc hk c10_s) ?_
              refine w_t (pc := 24) (e_s := (1, 1, 2, 0, 0, .null, [])) (y_s := (25, [some (.ref _), some (.int _), some (.int _)], [.int _, .ref _], _)) rfl (u_ rfl) ?_
              refine w23 (pc := 25) (len_s := 1) rfl (kshz hk c10_s) (fun c11 => ?_)
              replace t_s := t_s c11
              exact wrJ (pc := 26) (len_s := 1) rfl hk t_s
            · replace t_s := t_s.2 c9_s
              refine w_t (pc := 57) (e_s := (0, 2, 0, 0, 0, .int (-13), [])) (y_s := (59, [some (.ref _), some (.int _), some (.int _)], [.int _], _)) rfl (u_ rfl) ?_
              refine w_t (pc := 59) (e_s := (17, 3, 63, 0, 0, .null, [])) (y_s := (63, [some (.ref _), some (.int _), some (.int _)], [.int _], _)) rfl (u_ rfl) ?_
              refine wrI (pc := 63) (len_s := 1) rfl hk ?_
              show wF _ 131 (6, [some (.ref _), some (.int _), some (.int _)], [.int _], _) _
              refine w_t (pc := 6) (e_s := (15, 3, 15, 0, 0, .null, [])) (y_s := (9, [some (.ref _), some (.int _), some (.int _)], [], _)) rfl (u_ rfl) ?_
              refine w_t (pc := 9) (e_s := (0, 3, 0, 0, 0, .long (-9223372036854775808), [(0, 1020)])) (y_s := (12, [some (.ref _), some (.int _), some (.int _)], [.long _], _)) rfl (u_ rfl) ?_
              refine w_t (pc := 12) (e_s := (17, 3, 26, 0, 0, .null, [])) (y_s := (26, [some (.ref _), some (.int _), some (.int _)], [.long _], _)) rfl (u_ rfl) ?_
              exact wrJ (pc := 26) (len_s := 1) rfl hk t_s
        · replace t_s := t_s.2 c6_s
          refine w_t (pc := 37) (e_s := (0, 2, 0, 0, 0, .int (-12), [])) (y_s := (39, [some (.ref _), some (.int _), some (.int _)], [.int _], _)) rfl (u_ rfl) ?_
          refine wrI (pc := 39) (len_s := 1) rfl hk ?_
          show wF _ 131 (6, [some (.ref _), some (.int _), some (.int _)], [.int _], _) _
          refine w_t (pc := 6) (e_s := (15, 3, 15, 0, 0, .null, [])) (y_s := (9, [some (.ref _), some (.int _), some (.int _)], [], _)) rfl (u_ rfl) ?_
          refine w_t (pc := 9) (e_s := (0, 3, 0, 0, 0, .long (-9223372036854775808), [(0, 1020)])) (y_s := (12, [some (.ref _), some (.int _), some (.int _)], [.long _], _)) rfl (u_ rfl) ?_
          refine w_t (pc := 12) (e_s := (17, 3, 26, 0, 0, .null, [])) (y_s := (26, [some (.ref _), some (.int _), some (.int _)], [.long _], _)) rfl (u_ rfl) ?_
          exact wrJ (pc := 26) (len_s := 1) rfl hk t_s
    · replace t_s := t_s.2 c2_s
      refine w_t (pc := 14) (e_s := (0, 1, 0, 0, 0, .int 0, [])) (y_s := (15, [some (.int _)], [.int _], _)) rfl (u_ rfl) ?_
      refine wrI (pc := 15) (len_s := 1) rfl hk ?_
      show wF _ 142 (4, [some (.ref _), some (.int _), some (.int _)], [.int _], _) _
      refine w_t (pc := 4) (e_s := (15, 3, 9, 1, 0, .null, [])) (y_s := (7, [some (.ref _), some (.int _), some (.int _)], [], _)) rfl (u_ rfl) ?_
      refine w_t (pc := 7) (e_s := (0, 1, 0, 0, 0, .int (-1), [])) (y_s := (8, [some (.ref _), some (.int _), some (.int _)], [.int _], _)) rfl (u_ rfl) ?_
      refine wrI (pc := 8) (len_s := 1) rfl hk ?_
      show wF _ 131 (6, [some (.ref _), some (.int _), some (.int _)], [.int _], _) _
      refine w_t (pc := 6) (e_s := (15, 3, 15, 0, 0, .null, [])) (y_s := (9, [some (.ref _), some (.int _), some (.int _)], [], _)) rfl (u_ rfl) ?_
      refine w_t (pc := 9) (e_s := (0, 3, 0, 0, 0, .long (-9223372036854775808), [(0, 1020)])) (y_s := (12, [some (.ref _), some (.int _), some (.int _)], [.long _], _)) rfl (u_ rfl) ?_
      refine w_t (pc := 12) (e_s := (17, 3, 26, 0, 0, .null, [])) (y_s := (26, [some (.ref _), some (.int _), some (.int _)], [.long _], _)) rfl (u_ rfl) ?_
      exact wrJ (pc := 26) (len_s := 1) rfl hk t_s
/-- ColdShodModel.element(II)J, from 0 on -/
theorem sg_234_0 {F_s : Nat} {x1_s : Int32} {x2_s : Int32} {h_s : zH} {K_s : Int64 → zH → Prop} (hk : hKn h_s) (t_s : (x1_s.toInt < 0 → K_s (-9223372036854775808) h_s) ∧ (¬ x1_s.toInt < 0 → ((5 < x1_s.toInt → K_s (-9223372036854775808) h_s) ∧ (¬ 5 < x1_s.toInt → (zix x1_s < 6 → ((h_s.2.1 124 (zix x1_s)).toInt < 0 → K_s (-9223372036854775808) h_s) ∧ (¬ (h_s.2.1 124 (zix x1_s)).toInt < 0 → (((h_s.2.1 124 (zix x1_s)).toInt < 50 → K_s (-9223372036854775808) h_s) ∧ (¬ (h_s.2.1 124 (zix x1_s)).toInt < 50 → ((x2_s.toInt < 0 → K_s (-9223372036854775808) h_s) ∧ (¬ x2_s.toInt < 0 → ((x2_s.toInt < (h_s.2.1 125 (zix x1_s)).toInt → (zix ((60 * x1_s) + x2_s) < 360 → K_s (h_s.2.2.1 126 (zix ((60 * x1_s) + x2_s))) h_s)) ∧ (¬ x2_s.toInt < (h_s.2.1 125 (zix x1_s)).toInt → K_s (-9223372036854775808) h_s)))))))))))) : wF (F_s + 1) 234 (0, [some (.ref 102), some (.int x1_s), some (.int x2_s)], [], h_s) (gJ K_s) := by
  refine w_0 (pc := 0) (e_s := (3, 1, 0, 0, 0, .null, [])) (y_s := (1, [some (.ref _), some (.int _), some (.int _)], [.ref _], _)) rfl (u_ rfl) ?_
  refine w_t (pc := 1) (e_s := (1, 1, 1, 0, 0, .null, [])) (y_s := (2, [some (.ref _), some (.int _), some (.int _)], [.int _, .ref _], _)) rfl (u_ rfl) ?_
  refine w_t (pc := 2) (e_s := (1, 1, 2, 0, 0, .null, [])) (y_s := (3, [some (.ref _), some (.int _), some (.int _)], [.int _, .int _, .ref _], _)) rfl (u_ rfl) ?_
  refine wcI (pc := 3) (len_s := 3) rfl rfl (l := [some (.ref _), some (.int _), some (.int _)]) rfl ?_
  refine w_t (pc := 0) (e_s := (1, 1, 1, 0, 0, .null, [])) (y_s := (1, [some (.ref _), some (.int _), some (.int _)], [.int _], _)) rfl (u_ rfl) ?_
  refine wcI (pc := 1) (len_s := 3) rfl rfl (l := [some (.int _)]) rfl ?_
  refine w_t (pc := 0) (e_s := (1, 1, 0, 0, 0, .null, [])) (y_s := (1, [some (.int _)], [.int _], _)) rfl (u_ rfl) ?_
  refine w_t (pc := 1) (e_s := (10, 1, 0, 0, 0, .null, [])) (y_s := (2, [some (.int _)], [.long (Int32.toInt64 _)], _)) rfl (u_ rfl) ?_
  refine w_t (pc := 2) (e_s := (0, 1, 0, 0, 0, .long 0, [])) (y_s := (3, [some (.int _)], [.long _, .long _], _)) rfl (u_ rfl) ?_
  refine w_t (pc := 3) (e_s := (0, 3, 0, 0, 0, .long 5, [(0, 1063)])) (y_s := (6, [some (.int _)], [.long _, .long _, .long _], _)) rfl (u_ rfl) ?_
  refine wcI (pc := 6) (len_s := 3) rfl rfl (l := [some (.long _), none, some (.long _), none, some (.long _), none]) rfl ?_
  refine w_t (pc := 0) (e_s := (2, 1, 0, 0, 0, .null, [])) (y_s := (1, [some (.long _), none, some (.long _), none, some (.long _), none], [.long _], _)) rfl (u_ rfl) ?_
  refine w_t (pc := 1) (e_s := (2, 1, 2, 0, 0, .null, [])) (y_s := (2, [some (.long _), none, some (.long _), none, some (.long _), none], [.long _, .long _], _)) rfl (u_ rfl) ?_
  refine w_t (pc := 2) (e_s := (14, 1, 0, 0, 0, .null, [])) (y_s := (3, [some (.long _), none, some (.long _), none, some (.long _), none], [.int (lg_cmp _ _)], _)) rfl (u_ rfl) ?_
  refine wl2 (pc := 3) (len_s := 3) (Y := 0) rfl (Int32.toInt_toInt64 _) (by decide) (fun c1_s => ?_) (fun c1_s => ?_)
  · replace t_s := t_s.1 c1_s
    refine w_t (pc := 17) (e_s := (0, 1, 0, 0, 0, .int 0, [])) (y_s := (18, [some (.long _), none, some (.long _), none, some (.long _), none], [.int _], _)) rfl (u_ rfl) ?_
    refine wrI (pc := 18) (len_s := 1) rfl hk ?_
    show wF _ 228 (9, [some (.int _)], [.int _], _) _
    refine wrI (pc := 9) (len_s := 1) rfl hk ?_
    show wF _ 231 (4, [some (.ref _), some (.int _), some (.int _)], [.int _], _) _
    refine w_t (pc := 4) (e_s := (15, 3, 9, 1, 0, .null, [])) (y_s := (7, [some (.ref _), some (.int _), some (.int _)], [], _)) rfl (u_ rfl) ?_
    refine w_t (pc := 7) (e_s := (0, 1, 0, 0, 0, .int (-1), [])) (y_s := (8, [some (.ref _), some (.int _), some (.int _)], [.int _], _)) rfl (u_ rfl) ?_
    refine wrI (pc := 8) (len_s := 1) rfl hk ?_
    show wF _ 234 (6, [some (.ref _), some (.int _), some (.int _)], [.int _], _) _
    refine w_t (pc := 6) (e_s := (15, 3, 15, 0, 0, .null, [])) (y_s := (9, [some (.ref _), some (.int _), some (.int _)], [], _)) rfl (u_ rfl) ?_
    refine w_t (pc := 9) (e_s := (0, 3, 0, 0, 0, .long (-9223372036854775808), [(0, 1149)])) (y_s := (12, [some (.ref _), some (.int _), some (.int _)], [.long _], _)) rfl (u_ rfl) ?_
    refine w_t (pc := 12) (e_s := (17, 3, 26, 0, 0, .null, [])) (y_s := (26, [some (.ref _), some (.int _), some (.int _)], [.long _], _)) rfl (u_ rfl) ?_
    exact wrJ (pc := 26) (len_s := 1) rfl hk t_s
  · replace t_s := t_s.2 c1_s
    refine w_t (pc := 6) (e_s := (2, 1, 0, 0, 0, .null, [])) (y_s := (7, [some (.long _), none, some (.long _), none, some (.long _), none], [.long _], _)) rfl (u_ rfl) ?_
    refine w_t (pc := 7) (e_s := (2, 2, 4, 0, 0, .null, [])) (y_s := (9, [some (.long _), none, some (.long _), none, some (.long _), none], [.long _, .long _], _)) rfl (u_ rfl) ?_
    refine w_t (pc := 9) (e_s := (14, 1, 0, 0, 0, .null, [])) (y_s := (10, [some (.long _), none, some (.long _), none, some (.long _), none], [.int (lg_cmp _ _)], _)) rfl (u_ rfl) ?_
    refine wl4 (pc := 10) (len_s := 3) (Y := 5) rfl (Int32.toInt_toInt64 _) (by decide) (fun c2_s => ?_) (fun c2_s => ?_)
    · replace t_s := t_s.1 c2_s
      refine w_t (pc := 17) (e_s := (0, 1, 0, 0, 0, .int 0, [])) (y_s := (18, [some (.long _), none, some (.long _), none, some (.long _), none], [.int _], _)) rfl (u_ rfl) ?_
      refine wrI (pc := 18) (len_s := 1) rfl hk ?_
      show wF _ 228 (9, [some (.int _)], [.int _], _) _
      refine wrI (pc := 9) (len_s := 1) rfl hk ?_
      show wF _ 231 (4, [some (.ref _), some (.int _), some (.int _)], [.int _], _) _
      refine w_t (pc := 4) (e_s := (15, 3, 9, 1, 0, .null, [])) (y_s := (7, [some (.ref _), some (.int _), some (.int _)], [], _)) rfl (u_ rfl) ?_
      refine w_t (pc := 7) (e_s := (0, 1, 0, 0, 0, .int (-1), [])) (y_s := (8, [some (.ref _), some (.int _), some (.int _)], [.int _], _)) rfl (u_ rfl) ?_
      refine wrI (pc := 8) (len_s := 1) rfl hk ?_
      show wF _ 234 (6, [some (.ref _), some (.int _), some (.int _)], [.int _], _) _
      refine w_t (pc := 6) (e_s := (15, 3, 15, 0, 0, .null, [])) (y_s := (9, [some (.ref _), some (.int _), some (.int _)], [], _)) rfl (u_ rfl) ?_
      refine w_t (pc := 9) (e_s := (0, 3, 0, 0, 0, .long (-9223372036854775808), [(0, 1149)])) (y_s := (12, [some (.ref _), some (.int _), some (.int _)], [.long _], _)) rfl (u_ rfl) ?_
      refine w_t (pc := 12) (e_s := (17, 3, 26, 0, 0, .null, [])) (y_s := (26, [some (.ref _), some (.int _), some (.int _)], [.long _], _)) rfl (u_ rfl) ?_
      exact wrJ (pc := 26) (len_s := 1) rfl hk t_s
    · replace t_s := t_s.2 c2_s
      refine w_t (pc := 13) (e_s := (0, 1, 0, 0, 0, .int 1, [])) (y_s := (14, [some (.long _), none, some (.long _), none, some (.long _), none], [.int _], _)) rfl (u_ rfl) ?_
      refine w_t (pc := 14) (e_s := (17, 3, 18, 0, 0, .null, [])) (y_s := (18, [some (.long _), none, some (.long _), none, some (.long _), none], [.int _], _)) rfl (u_ rfl) ?_
      refine wrI (pc := 18) (len_s := 1) rfl hk ?_
      show wF _ 228 (9, [some (.int _)], [.int _], _) _
      refine wrI (pc := 9) (len_s := 1) rfl hk ?_
      show wF _ 231 (4, [some (.ref _), some (.int _), some (.int _)], [.int _], _) _
      refine w_t (pc := 4) (e_s := (15, 3, 9, 1, 0, .null, [])) (y_s := (9, [some (.ref _), some (.int _), some (.int _)], [], _)) rfl (u_ rfl) ?_
      refine w_t (pc := 9) (e_s := (3, 1, 0, 0, 0, .null, [])) (y_s := (10, [some (.ref _), some (.int _), some (.int _)], [.ref _], _)) rfl (u_ rfl) ?_
      refine w20r (pc := 10) (len_s := 3) (q_s := 124) rfl (krq hk rfl) ?_
      refine w_t (pc := 13) (e_s := (1, 1, 1, 0, 0, .null, [])) (y_s := (14, [some (.ref _), some (.int _), some (.int _)], [.int _, .ref _], _)) rfl (u_ rfl) ?_
      refine w22 (pc := 14) (len_s := 1) rfl (hk.1 124 0 6 rfl rfl) (fun c3_s => ?_)
      replace t_s := t_s c3_s
      refine wq3 (pc := 15) (len_s := 3) rfl rfl (fun c4_s => ?_) (fun c4_s => ?_)
      · replace t_s := t_s.1 c4_s
        refine w_t (pc := 18) (e_s := (0, 2, 0, 0, 0, .int (-11), [])) (y_s := (20, [some (.ref _), some (.int _), some (.int _)], [.int _], _)) rfl (u_ rfl) ?_
        refine wrI (pc := 20) (len_s := 1) rfl hk ?_
        show wF _ 234 (6, [some (.ref _), some (.int _), some (.int _)], [.int _], _) _
        refine w_t (pc := 6) (e_s := (15, 3, 15, 0, 0, .null, [])) (y_s := (9, [some (.ref _), some (.int _), some (.int _)], [], _)) rfl (u_ rfl) ?_
        refine w_t (pc := 9) (e_s := (0, 3, 0, 0, 0, .long (-9223372036854775808), [(0, 1149)])) (y_s := (12, [some (.ref _), some (.int _), some (.int _)], [.long _], _)) rfl (u_ rfl) ?_
        refine w_t (pc := 12) (e_s := (17, 3, 26, 0, 0, .null, [])) (y_s := (26, [some (.ref _), some (.int _), some (.int _)], [.long _], _)) rfl (u_ rfl) ?_
        exact wrJ (pc := 26) (len_s := 1) rfl hk t_s
      · replace t_s := t_s.2 c4_s
        refine w_t (pc := 21) (e_s := (3, 1, 0, 0, 0, .null, [])) (y_s := (22, [some (.ref _), some (.int _), some (.int _)], [.ref _], _)) rfl (u_ rfl) ?_
        refine w20r (pc := 22) (len_s := 3) (q_s := 124) rfl (krq hk rfl) ?_
        refine w_t (pc := 25) (e_s := (1, 1, 1, 0, 0, .null, [])) (y_s := (26, [some (.ref _), some (.int _), some (.int _)], [.int _, .ref _], _)) rfl (u_ rfl) ?_
        refine w22 (pc := 26) (len_s := 1) rfl (hk.1 124 0 6 rfl rfl) (fun c5_s => ?_)
        refine w_t (pc := 27) (e_s := (0, 2, 0, 0, 0, .int 50, [])) (y_s := (29, [some (.ref _), some (.int _), some (.int _)], [.int _, .int _], _)) rfl (u_ rfl) ?_
        refine wi3 (pc := 29) (len_s := 3) (Y := 50) rfl rfl (by decide) (fun c6_s => ?_) (fun c6_s => ?_)
        · replace t_s := t_s.1 c6_s
          refine w_t (pc := 32) (e_s := (0, 2, 0, 0, 0, .int (-12), [])) (y_s := (34, [some (.ref _), some (.int _), some (.int _)], [.int _], _)) rfl (u_ rfl) ?_
          refine wrI (pc := 34) (len_s := 1) rfl hk ?_
          show wF _ 234 (6, [some (.ref _), some (.int _), some (.int _)], [.int _], _) _
          refine w_t (pc := 6) (e_s := (15, 3, 15, 0, 0, .null, [])) (y_s := (9, [some (.ref _), some (.int _), some (.int _)], [], _)) rfl (u_ rfl) ?_
          refine w_t (pc := 9) (e_s := (0, 3, 0, 0, 0, .long (-9223372036854775808), [(0, 1149)])) (y_s := (12, [some (.ref _), some (.int _), some (.int _)], [.long _], _)) rfl (u_ rfl) ?_
          refine w_t (pc := 12) (e_s := (17, 3, 26, 0, 0, .null, [])) (y_s := (26, [some (.ref _), some (.int _), some (.int _)], [.long _], _)) rfl (u_ rfl) ?_
          exact wrJ (pc := 26) (len_s := 1) rfl hk t_s
        · replace t_s := t_s.2 c6_s
          refine w_t (pc := 35) (e_s := (1, 1, 2, 0, 0, .null, [])) (y_s := (36, [some (.ref _), some (.int _), some (.int _)], [.int _], _)) rfl (u_ rfl) ?_
          refine wq2 (pc := 36) (len_s := 3) rfl rfl (fun c7_s => ?_) (fun c7_s => ?_)
          · replace t_s := t_s.1 c7_s
            refine w_t (pc := 53) (e_s := (0, 2, 0, 0, 0, .int (-13), [])) (y_s := (55, [some (.ref _), some (.int _), some (.int _)], [.int _], _)) rfl (u_ rfl) ?_
            refine wrI (pc := 55) (len_s := 1) rfl hk ?_
            show wF _ 234 (6, [some (.ref _), some (.int _), some (.int _)], [.int _], _) _
            refine w_t (pc := 6) (e_s := (15, 3, 15, 0, 0, .null, [])) (y_s := (9, [some (.ref _), some (.int _), some (.int _)], [], _)) rfl (u_ rfl) ?_
            refine w_t (pc := 9) (e_s := (0, 3, 0, 0, 0, .long (-9223372036854775808), [(0, 1149)])) (y_s := (12, [some (.ref _), some (.int _), some (.int _)], [.long _], _)) rfl (u_ rfl) ?_
            refine w_t (pc := 12) (e_s := (17, 3, 26, 0, 0, .null, [])) (y_s := (26, [some (.ref _), some (.int _), some (.int _)], [.long _], _)) rfl (u_ rfl) ?_
            exact wrJ (pc := 26) (len_s := 1) rfl hk t_s
          · replace t_s := t_s.2 c7_s
            refine w_t (pc := 39) (e_s := (1, 1, 2, 0, 0, .null, [])) (y_s := (40, [some (.ref _), some (.int _), some (.int _)], [.int _], _)) rfl (u_ rfl) ?_
            refine w_t (pc := 40) (e_s := (3, 1, 0, 0, 0, .null, [])) (y_s := (41, [some (.ref _), some (.int _), some (.int _)], [.ref _, .int _], _)) rfl (u_ rfl) ?_
            refine w20r (pc := 41) (len_s := 3) (q_s := 125) rfl (krq hk rfl) ?_
            refine w_t (pc := 44) (e_s := (1, 1, 1, 0, 0, .null, [])) (y_s := (45, [some (.ref _), some (.int _), some (.int _)], [.int _, .ref _, .int _], _)) rfl (u_ rfl) ?_
            refine w22 (pc := 45) (len_s := 1) rfl (hk.1 125 0 6 rfl rfl) (fun c8_s => ?_)
            refine wi3 (pc := 46) (len_s := 3) rfl rfl rfl (fun c9_s => ?_) (fun c9_s => ?_)
            · replace t_s := t_s.1 c9_s
              refine w_t (pc := 49) (e_s := (0, 1, 0, 0, 0, .int 0, [])) (y_s := (50, [some (.ref _), some (.int _), some (.int _)], [.int _], _)) rfl (u_ rfl) ?_
              refine w_t (pc := 50) (e_s := (17, 3, 55, 0, 0, .null, [])) (y_s := (55, [some (.ref _), some (.int _), some (.int _)], [.int _], _)) rfl (u_ rfl) ?_
              refine wrI (pc := 55) (len_s := 1) rfl hk ?_
              show wF _ 234 (6, [some (.ref _), some (.int _), some (.int _)], [.int _], _) _
              refine w_t (pc := 6) (e_s := (15, 3, 15, 0, 0, .null, [])) (y_s := (15, [some (.ref _), some (.int _), some (.int _)], [], _)) rfl (u_ rfl) ?_
              refine w_t (pc := 15) (e_s := (3, 1, 0, 0, 0, .null, [])) (y_s := (16, [some (.ref _), some (.int _), some (.int _)], [.ref _], _)) rfl (u_ rfl) ?_
              refine w20r (pc := 16) (len_s := 3) (q_s := 126) rfl (krq hk rfl) ?_
              refine w_t (pc := 19) (e_s := (0, 2, 0, 0, 0, .int 60, [])) (y_s := (21, [some (.ref _), some (.int _), some (.int _)], [.int _, .ref _], _)) rfl (u_ rfl) ?_
              refine w_t (pc := 21) (e_s := (1, 1, 1, 0, 0, .null, [])) (y_s := (22, [some (.ref _), some (.int _), some (.int _)], [.int _, .int _, .ref _], _)) rfl (u_ rfl) ?_
              refine w_t (pc := 22) (e_s := (7, 1, 0, 2, 0, .null, [])) (y_s := (23, [some (.ref _), some (.int _), some (.int _)], [.int (_ * _), .ref _], _)) rfl (u_ rfl) ?_
              refine w_t (pc := 23) (e_s := (1, 1, 2, 0, 0, .null, [])) (y_s := (24, [some (.ref _), some (.int _), some (.int _)], [.int _, .int _, .ref _], _)) rfl (u_ rfl) ?_
              refine w_t (pc := 24) (e_s := (7, 1, 0, 0, 0, .null, [])) (y_s := (25, [some (.ref _), some (.int _), some (.int _)], [.int (_ + _), .ref _], _)) rfl (u_ rfl) ?_
              refine w23 (pc := 25) (len_s := 1) rfl (hk.1 126 1 360 rfl rfl) (fun c10_s => ?_)
              replace t_s := t_s c10_s
              exact wrJ (pc := 26) (len_s := 1) rfl hk t_s
            · replace t_s := t_s.2 c9_s
              refine w_t (pc := 53) (e_s := (0, 2, 0, 0, 0, .int (-13), [])) (y_s := (55, [some (.ref _), some (.int _), some (.int _)], [.int _], _)) rfl (u_ rfl) ?_
              refine wrI (pc := 55) (len_s := 1) rfl hk ?_
              show wF _ 234 (6, [some (.ref _), some (.int _), some (.int _)], [.int _], _) _
              refine w_t (pc := 6) (e_s := (15, 3, 15, 0, 0, .null, [])) (y_s := (9, [some (.ref _), some (.int _), some (.int _)], [], _)) rfl (u_ rfl) ?_
              refine w_t (pc := 9) (e_s := (0, 3, 0, 0, 0, .long (-9223372036854775808), [(0, 1149)])) (y_s := (12, [some (.ref _), some (.int _), some (.int _)], [.long _], _)) rfl (u_ rfl) ?_
              refine w_t (pc := 12) (e_s := (17, 3, 26, 0, 0, .null, [])) (y_s := (26, [some (.ref _), some (.int _), some (.int _)], [.long _], _)) rfl (u_ rfl) ?_
              exact wrJ (pc := 26) (len_s := 1) rfl hk t_s
/-- ColdShod.put(IIJ)I, from 0 on -/
theorem sg_130_0 {F_s : Nat} {x1_s : Int32} {x2_s : Int32} {y3 : Int64} {h_s : zH} {K_s : Int32 → zH → Prop} (hk : hKn h_s) (t_s : (x1_s.toInt < 0 → K_s (-1) h_s) ∧ (¬ x1_s.toInt < 0 → ((x1_s.toInt < 6 → (zix x1_s < 6 → ((h_s.2.1 (76 + 2 * (zix x1_s)) 0).toInt = 0 → K_s (-11) h_s) ∧ (¬ (h_s.2.1 (76 + 2 * (zix x1_s)) 0).toInt = 0 → (((h_s.2.1 (76 + 2 * (zix x1_s)) 0).toInt = 2 → ((x2_s.toInt < 0 → K_s (-13) h_s) ∧ (¬ x2_s.toInt < 0 → ((x2_s.toInt < (h_s.2.1 (76 + 2 * (zix x1_s)) 3).toInt → (((h_s.2.1 (76 + 2 * (zix x1_s)) 2).toInt = 0 → (zix x2_s < 60 → K_s 1 (h_s.1, h_s.2.1, zup h_s.2.2.1 (76 + 2 * (zix x1_s) + 1) (zix x2_s) y3.toInt32.toInt8.toInt32.toInt64, h_s.2.2.2))) ∧ (¬ (h_s.2.1 (76 + 2 * (zix x1_s)) 2).toInt = 0 → ((h_s.2.1 (76 + 2 * (zix x1_s)) 2).toInt = 1 → (zix x2_s < 60 → K_s 1 (h_s.1, h_s.2.1, zup h_s.2.2.1 (76 + 2 * (zix x1_s) + 1) (zix x2_s) y3.toInt32.toInt16.toInt32.toInt64, h_s.2.2.2))) ∧ (¬ (h_s.2.1 (76 + 2 * (zix x1_s)) 2).toInt = 1 → ((h_s.2.1 (76 + 2 * (zix x1_s)) 2).toInt = 2 → (zix x2_s < 60 → K_s 1 (h_s.1, h_s.2.1, zup h_s.2.2.1 (76 + 2 * (zix x1_s) + 1) (zix x2_s) y3.toInt32.toInt64, h_s.2.2.2))) ∧ (¬ (h_s.2.1 (76 + 2 * (zix x1_s)) 2).toInt = 2 → ((h_s.2.1 (76 + 2 * (zix x1_s)) 2).toInt = 3 → (zix x2_s < 60 → K_s 1 (h_s.1, h_s.2.1, zup h_s.2.2.1 (76 + 2 * (zix x1_s) + 1) (zix x2_s) y3, h_s.2.2.2))) ∧ (¬ (h_s.2.1 (76 + 2 * (zix x1_s)) 2).toInt = 3 → ((h_s.2.1 (76 + 2 * (zix x1_s)) 2).toInt = 4 → ((y3.toInt = 0 → (zix x2_s < 60 → K_s 1 (h_s.1, h_s.2.1, zup h_s.2.2.1 (76 + 2 * (zix x1_s) + 1) (zix x2_s) 0, h_s.2.2.2))) ∧ (¬ y3.toInt = 0 → (zix x2_s < 60 → K_s 1 (h_s.1, h_s.2.1, zup h_s.2.2.1 (76 + 2 * (zix x1_s) + 1) (zix x2_s) 1, h_s.2.2.2))))) ∧ (¬ (h_s.2.1 (76 + 2 * (zix x1_s)) 2).toInt = 4 → (zix x2_s < 60 → K_s 1 (h_s.1, h_s.2.1, zup h_s.2.2.1 (76 + 2 * (zix x1_s) + 1) (zix x2_s) y3, h_s.2.2.2))))))))) ∧ (¬ x2_s.toInt < (h_s.2.1 (76 + 2 * (zix x1_s)) 3).toInt → K_s (-13) h_s))))) ∧ (¬ (h_s.2.1 (76 + 2 * (zix x1_s)) 0).toInt = 2 → K_s (-12) h_s))))) ∧ (¬ x1_s.toInt < 6 → K_s (-1) h_s)))) : wF (F_s + 1) 130 (0, [some (.ref 6), some (.int x1_s), some (.int x2_s), some (.long y3), none, none], [], h_s) (gI K_s) := by
  refine w_0 (pc := 0) (e_s := (3, 1, 0, 0, 0, .null, [])) (y_s := (1, [some (.ref _), some (.int _), some (.int _), some (.long _), none, none], [.ref _], _)) rfl (u_ rfl) ?_
  refine w_t (pc := 1) (e_s := (1, 1, 1, 0, 0, .null, [])) (y_s := (2, [some (.ref _), some (.int _), some (.int _), some (.long _), none, none], [.int _, .ref _], _)) rfl (u_ rfl) ?_
  refine w_t (pc := 2) (e_s := (1, 1, 2, 0, 0, .null, [])) (y_s := (3, [some (.ref _), some (.int _), some (.int _), some (.long _), none, none], [.int _, .int _, .ref _], _)) rfl (u_ rfl) ?_
  refine wcI (pc := 3) (len_s := 3) rfl rfl (l := [some (.ref _), some (.int _), some (.int _)]) rfl ?_
  refine w_t (pc := 0) (e_s := (1, 1, 1, 0, 0, .null, [])) (y_s := (1, [some (.ref _), some (.int _), some (.int _)], [.int _], _)) rfl (u_ rfl) ?_
  refine wcI (pc := 1) (len_s := 3) rfl rfl (l := [some (.int _)]) rfl ?_
  refine w_t (pc := 0) (e_s := (1, 1, 0, 0, 0, .null, [])) (y_s := (1, [some (.int _)], [.int _], _)) rfl (u_ rfl) ?_
  refine wq2 (pc := 1) (len_s := 3) rfl rfl (fun c1_s => ?_) (fun c1_s => ?_)
  · replace t_s := t_s.1 c1_s
    refine w_t (pc := 14) (e_s := (0, 1, 0, 0, 0, .int 0, [])) (y_s := (15, [some (.int _)], [.int _], _)) rfl (u_ rfl) ?_
    refine wrI (pc := 15) (len_s := 1) rfl hk ?_
    show wF _ 142 (4, [some (.ref _), some (.int _), some (.int _)], [.int _], _) _
    refine w_t (pc := 4) (e_s := (15, 3, 9, 1, 0, .null, [])) (y_s := (7, [some (.ref _), some (.int _), some (.int _)], [], _)) rfl (u_ rfl) ?_
    refine w_t (pc := 7) (e_s := (0, 1, 0, 0, 0, .int (-1), [])) (y_s := (8, [some (.ref _), some (.int _), some (.int _)], [.int _], _)) rfl (u_ rfl) ?_
    refine wrI (pc := 8) (len_s := 1) rfl hk ?_
    show wF _ 130 (6, [some (.ref _), some (.int _), some (.int _), some (.long _), none, none], [.int _], _) _
    refine w_t (pc := 6) (e_s := (4, 2, 5, 0, 0, .null, [])) (y_s := (8, [some (.ref _), some (.int _), some (.int _), some (.long _), none, some (.int _)], [], _)) rfl (u_ rfl) ?_
    refine w_t (pc := 8) (e_s := (1, 2, 5, 0, 0, .null, [])) (y_s := (10, [some (.ref _), some (.int _), some (.int _), some (.long _), none, some (.int _)], [.int _], _)) rfl (u_ rfl) ?_
    refine w_t (pc := 10) (e_s := (15, 3, 16, 0, 0, .null, [])) (y_s := (13, [some (.ref _), some (.int _), some (.int _), some (.long _), none, some (.int _)], [], _)) rfl (u_ rfl) ?_
    refine w_t (pc := 13) (e_s := (1, 2, 5, 0, 0, .null, [])) (y_s := (15, [some (.ref _), some (.int _), some (.int _), some (.long _), none, some (.int _)], [.int _], _)) rfl (u_ rfl) ?_
    exact wrI (pc := 15) (len_s := 1) rfl hk t_s
  · replace t_s := t_s.2 c1_s
    refine w_t (pc := 4) (e_s := (1, 1, 0, 0, 0, .null, [])) (y_s := (5, [some (.int _)], [.int _], _)) rfl (u_ rfl) ?_
    refine w_t (pc := 5) (e_s := (0, 2, 0, 0, 0, .int 6, [])) (y_s := (7, [some (.int _)], [.int _, .int _], _)) rfl (u_ rfl) ?_
    refine wi3 (pc := 7) (len_s := 3) (Y := 6) rfl rfl (by decide) (fun c2_s => ?_) (fun c2_s => ?_)
    · replace t_s := t_s.1 c2_s
      refine w_t (pc := 10) (e_s := (0, 1, 0, 0, 0, .int 1, [])) (y_s := (11, [some (.int _)], [.int _], _)) rfl (u_ rfl) ?_
      refine w_t (pc := 11) (e_s := (17, 3, 15, 0, 0, .null, [])) (y_s := (15, [some (.int _)], [.int _], _)) rfl (u_ rfl) ?_
      refine wrI (pc := 15) (len_s := 1) rfl hk ?_
      show wF _ 142 (4, [some (.ref _), some (.int _), some (.int _)], [.int _], _) _
      refine w_t (pc := 4) (e_s := (15, 3, 9, 1, 0, .null, [])) (y_s := (9, [some (.ref _), some (.int _), some (.int _)], [], _)) rfl (u_ rfl) ?_
      refine w_t (pc := 9) (e_s := (3, 1, 0, 0, 0, .null, [])) (y_s := (10, [some (.ref _), some (.int _), some (.int _)], [.ref _], _)) rfl (u_ rfl) ?_
      refine w20r (pc := 10) (len_s := 3) (q_s := 71) rfl (krq hk rfl) ?_
      refine w_t (pc := 13) (e_s := (1, 1, 1, 0, 0, .null, [])) (y_s := (14, [some (.ref _), some (.int _), some (.int _)], [.int _, .ref _], _)) rfl (u_ rfl) ?_
      refine w24 (g_s := fun j_ => 76 + 2 * j_) (pc := 14) (len_s := 1) hk rfl (hk.1 71 4 6 rfl rfl) kg71 (fun c3_s => ?_)
      replace t_s := t_s c3_s
      refine w20 (pc := 15) (len_s := 3) rfl ?_
      refine wq1 (pc := 18) (len_s := 3) rfl rfl (fun c4_s => ?_) (fun c4_s => ?_)
      · replace t_s := t_s.1 c4_s
        refine w_t (pc := 21) (e_s := (0, 2, 0, 0, 0, .int (-11), [])) (y_s := (23, [some (.ref _), some (.int _), some (.int _)], [.int _], _)) rfl (u_ rfl) ?_
        refine wrI (pc := 23) (len_s := 1) rfl hk ?_
        show wF _ 130 (6, [some (.ref _), some (.int _), some (.int _), some (.long _), none, none], [.int _], _) _
        refine w_t (pc := 6) (e_s := (4, 2, 5, 0, 0, .null, [])) (y_s := (8, [some (.ref _), some (.int _), some (.int _), some (.long _), none, some (.int _)], [], _)) rfl (u_ rfl) ?_
        refine w_t (pc := 8) (e_s := (1, 2, 5, 0, 0, .null, [])) (y_s := (10, [some (.ref _), some (.int _), some (.int _), some (.long _), none, some (.int _)], [.int _], _)) rfl (u_ rfl) ?_
        refine w_t (pc := 10) (e_s := (15, 3, 16, 0, 0, .null, [])) (y_s := (13, [some (.ref _), some (.int _), some (.int _), some (.long _), none, some (.int _)], [], _)) rfl (u_ rfl) ?_
        refine w_t (pc := 13) (e_s := (1, 2, 5, 0, 0, .null, [])) (y_s := (15, [some (.ref _), some (.int _), some (.int _), some (.long _), none, some (.int _)], [.int _], _)) rfl (u_ rfl) ?_
        exact wrI (pc := 15) (len_s := 1) rfl hk t_s
      · replace t_s := t_s.2 c4_s
        refine w_t (pc := 24) (e_s := (3, 1, 0, 0, 0, .null, [])) (y_s := (25, [some (.ref _), some (.int _), some (.int _)], [.ref _], _)) rfl (u_ rfl) ?_
        refine w20r (pc := 25) (len_s := 3) (q_s := 71) rfl (krq hk rfl) ?_
        refine w_t (pc := 28) (e_s := (1, 1, 1, 0, 0, .null, [])) (y_s := (29, [some (.ref _), some (.int _), some (.int _)], [.int _, .ref _], _)) rfl (u_ rfl) ?_
        refine w24 (g_s := fun j_ => 76 + 2 * j_) (pc := 29) (len_s := 1) hk rfl (hk.1 71 4 6 rfl rfl) kg71 (fun c5_s => ?_)
        refine w20 (pc := 30) (len_s := 3) rfl ?_
        refine w_t (pc := 33) (e_s := (0, 1, 0, 0, 0, .int 2, [])) (y_s := (34, [some (.ref _), some (.int _), some (.int _)], [.int _, .int _], _)) rfl (u_ rfl) ?_
        refine wi0 (pc := 34) (len_s := 3) (Y := 2) rfl rfl (by decide) (fun c6_s => ?_) (fun c6_s => ?_)
        · replace t_s := t_s.1 c6_s
          refine w_t (pc := 40) (e_s := (1, 1, 2, 0, 0, .null, [])) (y_s := (41, [some (.ref _), some (.int _), some (.int _)], [.int _], _)) rfl (u_ rfl) ?_
          refine wq2 (pc := 41) (len_s := 3) rfl rfl (fun c7_s => ?_) (fun c7_s => ?_)
          · replace t_s := t_s.1 c7_s
            refine w_t (pc := 57) (e_s := (0, 2, 0, 0, 0, .int (-13), [])) (y_s := (59, [some (.ref _), some (.int _), some (.int _)], [.int _], _)) rfl (u_ rfl) ?_
            refine w_t (pc := 59) (e_s := (17, 3, 63, 0, 0, .null, [])) (y_s := (63, [some (.ref _), some (.int _), some (.int _)], [.int _], _)) rfl (u_ rfl) ?_
            refine wrI (pc := 63) (len_s := 1) rfl hk ?_
            show wF _ 130 (6, [some (.ref _), some (.int _), some (.int _), some (.long _), none, none], [.int _], _) _
            refine w_t (pc := 6) (e_s := (4, 2, 5, 0, 0, .null, [])) (y_s := (8, [some (.ref _), some (.int _), some (.int _), some (.long _), none, some (.int _)], [], _)) rfl (u_ rfl) ?_
            refine w_t (pc := 8) (e_s := (1, 2, 5, 0, 0, .null, [])) (y_s := (10, [some (.ref _), some (.int _), some (.int _), some (.long _), none, some (.int _)], [.int _], _)) rfl (u_ rfl) ?_
            refine w_t (pc := 10) (e_s := (15, 3, 16, 0, 0, .null, [])) (y_s := (13, [some (.ref _), some (.int _), some (.int _), some (.long _), none, some (.int _)], [], _)) rfl (u_ rfl) ?_
            refine w_t (pc := 13) (e_s := (1, 2, 5, 0, 0, .null, [])) (y_s := (15, [some (.ref _), some (.int _), some (.int _), some (.long _), none, some (.int _)], [.int _], _)) rfl (u_ rfl) ?_
            exact wrI (pc := 15) (len_s := 1) rfl hk t_s
          · replace t_s := t_s.2 c7_s
            refine w_t (pc := 44) (e_s := (1, 1, 2, 0, 0, .null, [])) (y_s := (45, [some (.ref _), some (.int _), some (.int _)], [.int _], _)) rfl (u_ rfl) ?_
            refine w_t (pc := 45) (e_s := (3, 1, 0, 0, 0, .null, [])) (y_s := (46, [some (.ref _), some (.int _), some (.int _)], [.ref _, .int _], _)) rfl (u_ rfl) ?_
            refine w20r (pc := 46) (len_s := 3) (q_s := 71) rfl (krq hk rfl) ?_
            refine w_t (pc := 49) (e_s := (1, 1, 1, 0, 0, .null, [])) (y_s := (50, [some (.ref _), some (.int _), some (.int _)], [.int _, .ref _, .int _], _)) rfl (u_ rfl) ?_
            refine w24 (g_s := fun j_ => 76 + 2 * j_) (pc := 50) (len_s := 1) hk rfl (hk.1 71 4 6 rfl rfl) kg71 (fun c8_s => ?_)
            refine w20 (pc := 51) (len_s := 3) rfl ?_
            refine wi2 (pc := 54) (len_s := 3) rfl rfl rfl (fun c9_s => ?_) (fun c9_s => ?_)
            · replace t_s := t_s.1 c9_s
              refine w_t (pc := 62) (e_s := (0, 1, 0, 0, 0, .int 0, [])) (y_s := (63, [some (.ref _), some (.int _), some (.int _)], [.int _], _)) rfl (u_ rfl) ?_
              refine wrI (pc := 63) (len_s := 1) rfl hk ?_
              show wF _ 130 (6, [some (.ref _), some (.int _), some (.int _), some (.long _), none, none], [.int _], _) _
              refine w_t (pc := 6) (e_s := (4, 2, 5, 0, 0, .null, [])) (y_s := (8, [some (.ref _), some (.int _), some (.int _), some (.long _), none, some (.int _)], [], _)) rfl (u_ rfl) ?_
              refine w_t (pc := 8) (e_s := (1, 2, 5, 0, 0, .null, [])) (y_s := (10, [some (.ref _), some (.int _), some (.int _), some (.long _), none, some (.int _)], [.int _], _)) rfl (u_ rfl) ?_
              refine w_t (pc := 10) (e_s := (15, 3, 16, 0, 0, .null, [])) (y_s := (16, [some (.ref _), some (.int _), some (.int _), some (.long _), none, some (.int _)], [], _)) rfl (u_ rfl) ?_
              refine w_t (pc := 16) (e_s := (3, 1, 0, 0, 0, .null, [])) (y_s := (17, [some (.ref _), some (.int _), some (.int _), some (.long _), none, some (.int _)], [.ref _], _)) rfl (u_ rfl) ?_
              refine w20r (pc := 17) (len_s := 3) (q_s := 71) rfl (krq hk rfl) ?_
              refine w_t (pc := 20) (e_s := (1, 1, 1, 0, 0, .null, [])) (y_s := (21, [some (.ref _), some (.int _), some (.int _), some (.long _), none, some (.int _)], [.int _, .ref _], _)) rfl (u_ rfl) ?_
              refine w24 (g_s := fun j_ => 76 + 2 * j_) (pc := 21) (len_s := 1) hk rfl (hk.1 71 4 6 rfl rfl) kg71 (fun c10_s => ?_)
              refine w20r (pc := 22) (len_s := 3) (q_s := 76 + 2 * (zix x1_s) + 1) rfl (kshc hk c10_s) ?_
              refine w_t (pc := 25) (e_s := (1, 1, 2, 0, 0, .null, [])) (y_s := (26, [some (.ref _), some (.int _), some (.int _), some (.long _), none, some (.int _)], [.int _, .ref _], _)) rfl (u_ rfl) ?_
              refine w_t (pc := 26) (e_s := (3, 1, 0, 0, 0, .null, [])) (y_s := (27, [some (.ref _), some (.int _), some (.int _), some (.long _), none, some (.int _)], [.ref _, .int _, .ref _], _)) rfl (u_ rfl) ?_
              refine w20r (pc := 27) (len_s := 3) (q_s := 71) rfl (krq hk rfl) ?_
              refine w_t (pc := 30) (e_s := (1, 1, 1, 0, 0, .null, [])) (y_s := (31, [some (.ref _), some (.int _), some (.int _), some (.long _), none, some (.int _)], [.int _, .ref _, .int _, .ref _], _)) rfl (u_ rfl) ?_
              refine w24 (g_s := fun j_ => 76 + 2 * j_) (pc := 31) (len_s := 1) hk rfl (hk.1 71 4 6 rfl rfl) kg71 (fun c11 => ?_)
              refine w_t (pc := 32) (e_s := (2, 1, 3, 0, 0, .null, [])) (y_s := (33, [some (.ref _), some (.int _), some (.int _), some (.long _), none, some (.int _)], [.long _, .ref _, .int _, .ref _], _)) rfl (u_ rfl) ?_
              refine wcJ (pc := 33) (len_s := 3) rfl rfl (l := [some (.ref _), some (.long _), none]) rfl ?_
              refine w_t (pc := 0) (e_s := (3, 1, 0, 0, 0, .null, [])) (y_s := (1, [some (.ref _), some (.long _), none], [.ref _], _)) rfl (u_ rfl) ?_
              refine w20 (pc := 1) (len_s := 3) rfl ?_
              refine wsw (pc := 4) (len_s := 36) rfl ?_
              refine wsc (X_s := 0) rfl (by decide) (fun c12_s => ?_) (fun c12_s => ?_)
              · replace t_s := t_s.1 c12_s
                refine w_t (pc := 40) (e_s := (2, 1, 1, 0, 0, .null, [])) (y_s := (41, [some (.ref _), some (.long _), none], [.long _], _)) rfl (u_ rfl) ?_
                refine w_t (pc := 41) (e_s := (11, 1, 0, 0, 0, .null, [])) (y_s := (42, [some (.ref _), some (.long _), none], [.int (Int64.toInt32 _)], _)) rfl (u_ rfl) ?_
                refine w_t (pc := 42) (e_s := (9, 1, 0, 1, 0, .null, [])) (y_s := (43, [some (.ref _), some (.long _), none], [.int (Int8.toInt32 _)], _)) rfl (u_ rfl) ?_
                refine w_t (pc := 43) (e_s := (10, 1, 0, 0, 0, .null, [])) (y_s := (44, [some (.ref _), some (.long _), none], [.long (Int32.toInt64 _)], _)) rfl (u_ rfl) ?_
                refine wrJ (pc := 44) (len_s := 1) rfl hk ?_
                show wF _ 130 (36, [some (.ref _), some (.int _), some (.int _), some (.long _), none, some (.int _)], [.long _, .int _, .ref _], _) _
                refine w26 (pc := 36) (len_s := 1) rfl (kshz hk c10_s) (fun c13_s => ?_)
                replace t_s := t_s c13_s
                refine w_t (pc := 37) (e_s := (0, 1, 0, 0, 0, .int 1, [])) (y_s := (38, [some (.ref _), some (.int _), some (.int _), some (.long _), none, some (.int _)], [.int _], _)) rfl (u_ rfl) ?_
                exact wrI (pc := 38) (len_s := 1) rfl hk t_s
              · replace t_s := t_s.2 c12_s
                refine wsc (X_s := 1) rfl (by decide) (fun c14_s => ?_) (fun c14_s => ?_)
                · replace t_s := t_s.1 c14_s
                  refine w_t (pc := 45) (e_s := (2, 1, 1, 0, 0, .null, [])) (y_s := (46, [some (.ref _), some (.long _), none], [.long _], _)) rfl (u_ rfl) ?_
                  refine w_t (pc := 46) (e_s := (11, 1, 0, 0, 0, .null, [])) (y_s := (47, [some (.ref _), some (.long _), none], [.int (Int64.toInt32 _)], _)) rfl (u_ rfl) ?_
                  refine w_t (pc := 47) (e_s := (9, 1, 0, 2, 0, .null, [])) (y_s := (48, [some (.ref _), some (.long _), none], [.int (Int16.toInt32 _)], _)) rfl (u_ rfl) ?_
                  refine w_t (pc := 48) (e_s := (10, 1, 0, 0, 0, .null, [])) (y_s := (49, [some (.ref _), some (.long _), none], [.long (Int32.toInt64 _)], _)) rfl (u_ rfl) ?_
                  refine wrJ (pc := 49) (len_s := 1) rfl hk ?_
                  show wF _ 130 (36, [some (.ref _), some (.int _), some (.int _), some (.long _), none, some (.int _)], [.long _, .int _, .ref _], _) _
                  refine w26 (pc := 36) (len_s := 1) rfl (kshz hk c10_s) (fun c15_s => ?_)
                  replace t_s := t_s c15_s
                  refine w_t (pc := 37) (e_s := (0, 1, 0, 0, 0, .int 1, [])) (y_s := (38, [some (.ref _), some (.int _), some (.int _), some (.long _), none, some (.int _)], [.int _], _)) rfl (u_ rfl) ?_
                  exact wrI (pc := 38) (len_s := 1) rfl hk t_s
                · replace t_s := t_s.2 c14_s
                  refine wsc (X_s := 2) rfl (by decide) (fun c16 => ?_) (fun c16 => ?_)
                  · replace t_s := t_s.1 c16
                    refine w_t (pc := 50) (e_s := (2, 1, 1, 0, 0, .null, [])) (y_s := (51, [some (.ref _), some (.long _), none], [.long _], _)) rfl (u_ rfl) ?_
                    refine w_t (pc := 51) (e_s := (11, 1, 0, 0, 0, .null, [])) (y_s := (52, [some (.ref _), some (.long _), none], [.int (Int64.toInt32 _)], _)) rfl (u_ rfl) ?_
                    refine w_t (pc := 52) (e_s := (10, 1, 0, 0, 0, .null, [])) (y_s := (53, [some (.ref _), some (.long _), none], [.long (Int32.toInt64 _)], _)) rfl (u_ rfl) ?_
                    refine wrJ (pc := 53) (len_s := 1) rfl hk ?_
                    show wF _ 130 (36, [some (.ref _), some (.int _), some (.int _), some (.long _), none, some (.int _)], [.long _, .int _, .ref _], _) _
                    refine w26 (pc := 36) (len_s := 1) rfl (kshz hk c10_s) (fun c17 => ?_)
                    replace t_s := t_s c17
                    refine w_t (pc := 37) (e_s := (0, 1, 0, 0, 0, .int 1, [])) (y_s := (38, [some (.ref _), some (.int _), some (.int _), some (.long _), none, some (.int _)], [.int _], _)) rfl (u_ rfl) ?_
                    exact wrI (pc := 38) (len_s := 1) rfl hk t_s
                  · replace t_s := t_s.2 c16
                    refine wsc (X_s := 3) rfl (by decide) (fun c18_s => ?_) (fun c18_s => ?_)
                    · replace t_s := t_s.1 c18_s
                      refine w_t (pc := 66) (e_s := (2, 1, 1, 0, 0, .null, [])) (y_s := (67, [some (.ref _), some (.long _), none], [.long _], _)) rfl (u_ rfl) ?_
                      refine wrJ (pc := 67) (len_s := 1) rfl hk ?_
                      show wF _ 130 (36, [some (.ref _), some (.int _), some (.int _), some (.long _), none, some (.int _)], [.long _, .int _, .ref _], _) _
                      refine w26 (pc := 36) (len_s := 1) rfl (kshz hk c10_s) (fun c19_s => ?_)
                      replace t_s := t_s c19_s
                      refine w_t (pc := 37) (e_s := (0, 1, 0, 0, 0, .int 1, [])) (y_s := (38, [some (.ref _), some (.int _), some (.int _), some (.long _), none, some (.int _)], [.int _], _)) rfl (u_ rfl) ?_
                      exact wrI (pc := 38) (len_s := 1) rfl hk t_s
                    · replace t_s := t_s.2 c18_s
                      refine wsc (X_s := 4) rfl (by decide) (fun c20_s => ?_) (fun c20_s => ?_)
                      · replace t_s := t_s.1 c20_s
                        refine w_t (pc := 54) (e_s := (2, 1, 1, 0, 0, .null, [])) (y_s := (55, [some (.ref _), some (.long _), none], [.long _], _)) rfl (u_ rfl) ?_
                        refine w_t (pc := 55) (e_s := (0, 1, 0, 0, 0, .long 0, [])) (y_s := (56, [some (.ref _), some (.long _), none], [.long _, .long _], _)) rfl (u_ rfl) ?_
                        refine w_t (pc := 56) (e_s := (14, 1, 0, 0, 0, .null, [])) (y_s := (57, [some (.ref _), some (.long _), none], [.int (lg_cmp _ _)], _)) rfl (u_ rfl) ?_
                        refine wl0 (pc := 57) (len_s := 3) (Y := 0) rfl rfl (by decide) (fun c21 => ?_) (fun c21 => ?_)
                        · replace t_s := t_s.1 c21
                          refine w_t (pc := 64) (e_s := (0, 1, 0, 0, 0, .long 0, [])) (y_s := (65, [some (.ref _), some (.long _), none], [.long _], _)) rfl (u_ rfl) ?_
                          refine wrJ (pc := 65) (len_s := 1) rfl hk ?_
                          show wF _ 130 (36, [some (.ref _), some (.int _), some (.int _), some (.long _), none, some (.int _)], [.long _, .int _, .ref _], _) _
                          refine w26 (pc := 36) (len_s := 1) rfl (kshz hk c10_s) (fun c22 => ?_)
                          replace t_s := t_s c22
                          refine w_t (pc := 37) (e_s := (0, 1, 0, 0, 0, .int 1, [])) (y_s := (38, [some (.ref _), some (.int _), some (.int _), some (.long _), none, some (.int _)], [.int _], _)) rfl (u_ rfl) ?_
                          exact wrI (pc := 38) (len_s := 1) rfl hk t_s
                        · replace t_s := t_s.2 c21
                          refine w_t (pc := 60) (e_s := (0, 1, 0, 0, 0, .long 1, [])) (y_s := (61, [some (.ref _), some (.long _), none], [.long _], _)) rfl (u_ rfl) ?_
                          refine w_t (pc := 61) (e_s := (17, 3, 65, 0, 0, .null, [])) (y_s := (65, [some (.ref _), some (.long _), none], [.long _], _)) rfl (u_ rfl) ?_
                          refine wrJ (pc := 65) (len_s := 1) rfl hk ?_
                          show wF _ 130 (36, [some (.ref _), some (.int _), some (.int _), some (.long _), none, some (.int _)], [.long _, .int _, .ref _], _) _
                          refine w26 (pc := 36) (len_s := 1) rfl (kshz hk c10_s) (fun c23_s => ?_)
                          replace t_s := t_s c23_s
                          refine w_t (pc := 37) (e_s := (0, 1, 0, 0, 0, .int 1, [])) (y_s := (38, [some (.ref _), some (.int _), some (.int _), some (.long _), none, some (.int _)], [.int _], _)) rfl (u_ rfl) ?_
                          exact wrI (pc := 38) (len_s := 1) rfl hk t_s
                      · replace t_s := t_s.2 c20_s
                        show wF _ _ (66, _, _, _) _
                        refine w_t (pc := 66) (e_s := (2, 1, 1, 0, 0, .null, [])) (y_s := (67, [some (.ref _), some (.long _), none], [.long _], _)) rfl (u_ rfl) ?_
                        refine wrJ (pc := 67) (len_s := 1) rfl hk ?_
                        show wF _ 130 (36, [some (.ref _), some (.int _), some (.int _), some (.long _), none, some (.int _)], [.long _, .int _, .ref _], _) _
                        refine w26 (pc := 36) (len_s := 1) rfl (kshz hk c10_s) (fun c24_s => ?_)
                        replace t_s := t_s c24_s
                        refine w_t (pc := 37) (e_s := (0, 1, 0, 0, 0, .int 1, [])) (y_s := (38, [some (.ref _), some (.int _), some (.int _), some (.long _), none, some (.int _)], [.int _], _)) rfl (u_ rfl) ?_
                        exact wrI (pc := 38) (len_s := 1) rfl hk t_s
            · replace t_s := t_s.2 c9_s
              refine w_t (pc := 57) (e_s := (0, 2, 0, 0, 0, .int (-13), [])) (y_s := (59, [some (.ref _), some (.int _), some (.int _)], [.int _], _)) rfl (u_ rfl) ?_
              refine w_t (pc := 59) (e_s := (17, 3, 63, 0, 0, .null, [])) (y_s := (63, [some (.ref _), some (.int _), some (.int _)], [.int _], _)) rfl (u_ rfl) ?_
              refine wrI (pc := 63) (len_s := 1) rfl hk ?_
              show wF _ 130 (6, [some (.ref _), some (.int _), some (.int _), some (.long _), none, none], [.int _], _) _
              refine w_t (pc := 6) (e_s := (4, 2, 5, 0, 0, .null, [])) (y_s := (8, [some (.ref _), some (.int _), some (.int _), some (.long _), none, some (.int _)], [], _)) rfl (u_ rfl) ?_
              refine w_t (pc := 8) (e_s := (1, 2, 5, 0, 0, .null, [])) (y_s := (10, [some (.ref _), some (.int _), some (.int _), some (.long _), none, some (.int _)], [.int _], _)) rfl (u_ rfl) ?_
              refine w_t (pc := 10) (e_s := (15, 3, 16, 0, 0, .null, [])) (y_s := (13, [some (.ref _), some (.int _), some (.int _), some (.long _), none, some (.int _)], [], _)) rfl (u_ rfl) ?_
              refine w_t (pc := 13) (e_s := (1, 2, 5, 0, 0, .null, [])) (y_s := (15, [some (.ref _), some (.int _), some (.int _), some (.long _), none, some (.int _)], [.int _], _)) rfl (u_ rfl) ?_
              exact wrI (pc := 15) (len_s := 1) rfl hk t_s
        · replace t_s := t_s.2 c6_s
          refine w_t (pc := 37) (e_s := (0, 2, 0, 0, 0, .int (-12), [])) (y_s := (39, [some (.ref _), some (.int _), some (.int _)], [.int _], _)) rfl (u_ rfl) ?_
          refine wrI (pc := 39) (len_s := 1) rfl hk ?_
          show wF _ 130 (6, [some (.ref _), some (.int _), some (.int _), some (.long _), none, none], [.int _], _) _
          refine w_t (pc := 6) (e_s := (4, 2, 5, 0, 0, .null, [])) (y_s := (8, [some (.ref _), some (.int _), some (.int _), some (.long _), none, some (.int _)], [], _)) rfl (u_ rfl) ?_
          refine w_t (pc := 8) (e_s := (1, 2, 5, 0, 0, .null, [])) (y_s := (10, [some (.ref _), some (.int _), some (.int _), some (.long _), none, some (.int _)], [.int _], _)) rfl (u_ rfl) ?_
          refine w_t (pc := 10) (e_s := (15, 3, 16, 0, 0, .null, [])) (y_s := (13, [some (.ref _), some (.int _), some (.int _), some (.long _), none, some (.int _)], [], _)) rfl (u_ rfl) ?_
          refine w_t (pc := 13) (e_s := (1, 2, 5, 0, 0, .null, [])) (y_s := (15, [some (.ref _), some (.int _), some (.int _), some (.long _), none, some (.int _)], [.int _], _)) rfl (u_ rfl) ?_
          exact wrI (pc := 15) (len_s := 1) rfl hk t_s
    · replace t_s := t_s.2 c2_s
      refine w_t (pc := 14) (e_s := (0, 1, 0, 0, 0, .int 0, [])) (y_s := (15, [some (.int _)], [.int _], _)) rfl (u_ rfl) ?_
      refine wrI (pc := 15) (len_s := 1) rfl hk ?_
      show wF _ 142 (4, [some (.ref _), some (.int _), some (.int _)], [.int _], _) _
      refine w_t (pc := 4) (e_s := (15, 3, 9, 1, 0, .null, [])) (y_s := (7, [some (.ref _), some (.int _), some (.int _)], [], _)) rfl (u_ rfl) ?_
      refine w_t (pc := 7) (e_s := (0, 1, 0, 0, 0, .int (-1), [])) (y_s := (8, [some (.ref _), some (.int _), some (.int _)], [.int _], _)) rfl (u_ rfl) ?_
      refine wrI (pc := 8) (len_s := 1) rfl hk ?_
      show wF _ 130 (6, [some (.ref _), some (.int _), some (.int _), some (.long _), none, none], [.int _], _) _
      refine w_t (pc := 6) (e_s := (4, 2, 5, 0, 0, .null, [])) (y_s := (8, [some (.ref _), some (.int _), some (.int _), some (.long _), none, some (.int _)], [], _)) rfl (u_ rfl) ?_
      refine w_t (pc := 8) (e_s := (1, 2, 5, 0, 0, .null, [])) (y_s := (10, [some (.ref _), some (.int _), some (.int _), some (.long _), none, some (.int _)], [.int _], _)) rfl (u_ rfl) ?_
      refine w_t (pc := 10) (e_s := (15, 3, 16, 0, 0, .null, [])) (y_s := (13, [some (.ref _), some (.int _), some (.int _), some (.long _), none, some (.int _)], [], _)) rfl (u_ rfl) ?_
      refine w_t (pc := 13) (e_s := (1, 2, 5, 0, 0, .null, [])) (y_s := (15, [some (.ref _), some (.int _), some (.int _), some (.long _), none, some (.int _)], [.int _], _)) rfl (u_ rfl) ?_
      exact wrI (pc := 15) (len_s := 1) rfl hk t_s
/-- ColdShodModel.put(IIJ)I, from 0 on -/
theorem sg_233_0 {F_s : Nat} {x1_s : Int32} {x2_s : Int32} {y3 : Int64} {h_s : zH} {K_s : Int32 → zH → Prop} (hk : hKn h_s) (t_s : (x1_s.toInt < 0 → K_s (-1) h_s) ∧ (¬ x1_s.toInt < 0 → ((5 < x1_s.toInt → K_s (-1) h_s) ∧ (¬ 5 < x1_s.toInt → (zix x1_s < 6 → ((h_s.2.1 124 (zix x1_s)).toInt < 0 → K_s (-11) h_s) ∧ (¬ (h_s.2.1 124 (zix x1_s)).toInt < 0 → (((h_s.2.1 124 (zix x1_s)).toInt < 50 → K_s (-12) h_s) ∧ (¬ (h_s.2.1 124 (zix x1_s)).toInt < 50 → ((x2_s.toInt < 0 → K_s (-13) h_s) ∧ (¬ x2_s.toInt < 0 → ((x2_s.toInt < (h_s.2.1 125 (zix x1_s)).toInt → ((((h_s.2.1 124 (zix x1_s)) - 50).toInt = 0 → (zix ((60 * x1_s) + x2_s) < 360 → K_s 1 (h_s.1, h_s.2.1, zup h_s.2.2.1 126 (zix ((60 * x1_s) + x2_s)) y3.toInt32.toInt8.toInt32.toInt64, h_s.2.2.2))) ∧ (¬ ((h_s.2.1 124 (zix x1_s)) - 50).toInt = 0 → ((((h_s.2.1 124 (zix x1_s)) - 50).toInt = 1 → (zix ((60 * x1_s) + x2_s) < 360 → K_s 1 (h_s.1, h_s.2.1, zup h_s.2.2.1 126 (zix ((60 * x1_s) + x2_s)) y3.toInt32.toInt16.toInt32.toInt64, h_s.2.2.2))) ∧ (¬ ((h_s.2.1 124 (zix x1_s)) - 50).toInt = 1 → ((((h_s.2.1 124 (zix x1_s)) - 50).toInt = 2 → (zix ((60 * x1_s) + x2_s) < 360 → K_s 1 (h_s.1, h_s.2.1, zup h_s.2.2.1 126 (zix ((60 * x1_s) + x2_s)) y3.toInt32.toInt64, h_s.2.2.2))) ∧ (¬ ((h_s.2.1 124 (zix x1_s)) - 50).toInt = 2 → ((((h_s.2.1 124 (zix x1_s)) - 50).toInt = 4 → ((y3.toInt = 0 → (zix ((60 * x1_s) + x2_s) < 360 → K_s 1 (h_s.1, h_s.2.1, zup h_s.2.2.1 126 (zix ((60 * x1_s) + x2_s)) 0, h_s.2.2.2))) ∧ (¬ y3.toInt = 0 → (zix ((60 * x1_s) + x2_s) < 360 → K_s 1 (h_s.1, h_s.2.1, zup h_s.2.2.1 126 (zix ((60 * x1_s) + x2_s)) 1, h_s.2.2.2))))) ∧ (¬ ((h_s.2.1 124 (zix x1_s)) - 50).toInt = 4 → (zix ((60 * x1_s) + x2_s) < 360 → K_s 1 (h_s.1, h_s.2.1, zup h_s.2.2.1 126 (zix ((60 * x1_s) + x2_s)) y3, h_s.2.2.2))))))))))) ∧ (¬ x2_s.toInt < (h_s.2.1 125 (zix x1_s)).toInt → K_s (-13) h_s)))))))))))) : wF (F_s + 1) 233 (0, [some (.ref 102), some (.int x1_s), some (.int x2_s), some (.long y3), none, none], [], h_s) (gI K_s) := by
  refine w_0 (pc := 0) (e_s := (3, 1, 0, 0, 0, .null, [])) (y_s := (1, [some (.ref _), some (.int _), some (.int _), some (.long _), none, none], [.ref _], _)) rfl (u_ rfl) ?_
  refine w_t (pc := 1) (e_s := (1, 1, 1, 0, 0, .null, [])) (y_s := (2, [some (.ref _), some (.int _), some (.int _), some (.long _), none, none], [.int _, .ref _], _)) rfl (u_ rfl) ?_
  refine w_t (pc := 2) (e_s := (1, 1, 2, 0, 0, .null, [])) (y_s := (3, [some (.ref _), some (.int _), some (.int _), some (.long _), none, none], [.int _, .int _, .ref _], _)) rfl (u_ rfl) ?_
  refine wcI (pc := 3) (len_s := 3) rfl rfl (l := [some (.ref _), some (.int _), some (.int _)]) rfl ?_
  refine w_t (pc := 0) (e_s := (1, 1, 1, 0, 0, .null, [])) (y_s := (1, [some (.ref _), some (.int _), some (.int _)], [.int _], _)) rfl (u_ rfl) ?_
  refine wcI (pc := 1) (len_s := 3) rfl rfl (l := [some (.int _)]) rfl ?_
  refine w_t (pc := 0) (e_s := (1, 1, 0, 0, 0, .null, [])) (y_s := (1, [some (.int _)], [.int _], _)) rfl (u_ rfl) ?_
  refine w_t (pc := 1) (e_s := (10, 1, 0, 0, 0, .null, [])) (y_s := (2, [some (.int _)], [.long (Int32.toInt64 _)], _)) rfl (u_ rfl) ?_
  refine w_t (pc := 2) (e_s := (0, 1, 0, 0, 0, .long 0, [])) (y_s := (3, [some (.int _)], [.long _, .long _], _)) rfl (u_ rfl) ?_
  refine w_t (pc := 3) (e_s := (0, 3, 0, 0, 0, .long 5, [(0, 1063)])) (y_s := (6, [some (.int _)], [.long _, .long _, .long _], _)) rfl (u_ rfl) ?_
  refine wcI (pc := 6) (len_s := 3) rfl rfl (l := [some (.long _), none, some (.long _), none, some (.long _), none]) rfl ?_
  refine w_t (pc := 0) (e_s := (2, 1, 0, 0, 0, .null, [])) (y_s := (1, [some (.long _), none, some (.long _), none, some (.long _), none], [.long _], _)) rfl (u_ rfl) ?_
  refine w_t (pc := 1) (e_s := (2, 1, 2, 0, 0, .null, [])) (y_s := (2, [some (.long _), none, some (.long _), none, some (.long _), none], [.long _, .long _], _)) rfl (u_ rfl) ?_
  refine w_t (pc := 2) (e_s := (14, 1, 0, 0, 0, .null, [])) (y_s := (3, [some (.long _), none, some (.long _), none, some (.long _), none], [.int (lg_cmp _ _)], _)) rfl (u_ rfl) ?_
  refine wl2 (pc := 3) (len_s := 3) (Y := 0) rfl (Int32.toInt_toInt64 _) (by decide) (fun c1_s => ?_) (fun c1_s => ?_)
  · replace t_s := t_s.1 c1_s
    refine w_t (pc := 17) (e_s := (0, 1, 0, 0, 0, .int 0, [])) (y_s := (18, [some (.long _), none, some (.long _), none, some (.long _), none], [.int _], _)) rfl (u_ rfl) ?_
    refine wrI (pc := 18) (len_s := 1) rfl hk ?_
    show wF _ 228 (9, [some (.int _)], [.int _], _) _
    refine wrI (pc := 9) (len_s := 1) rfl hk ?_
    show wF _ 231 (4, [some (.ref _), some (.int _), some (.int _)], [.int _], _) _
    refine w_t (pc := 4) (e_s := (15, 3, 9, 1, 0, .null, [])) (y_s := (7, [some (.ref _), some (.int _), some (.int _)], [], _)) rfl (u_ rfl) ?_
    refine w_t (pc := 7) (e_s := (0, 1, 0, 0, 0, .int (-1), [])) (y_s := (8, [some (.ref _), some (.int _), some (.int _)], [.int _], _)) rfl (u_ rfl) ?_
    refine wrI (pc := 8) (len_s := 1) rfl hk ?_
    show wF _ 233 (6, [some (.ref _), some (.int _), some (.int _), some (.long _), none, none], [.int _], _) _
    refine w_t (pc := 6) (e_s := (4, 2, 5, 0, 0, .null, [])) (y_s := (8, [some (.ref _), some (.int _), some (.int _), some (.long _), none, some (.int _)], [], _)) rfl (u_ rfl) ?_
    refine w_t (pc := 8) (e_s := (1, 2, 5, 0, 0, .null, [])) (y_s := (10, [some (.ref _), some (.int _), some (.int _), some (.long _), none, some (.int _)], [.int _], _)) rfl (u_ rfl) ?_
    refine w_t (pc := 10) (e_s := (15, 3, 37, 1, 0, .null, [])) (y_s := (37, [some (.ref _), some (.int _), some (.int _), some (.long _), none, some (.int _)], [], _)) rfl (u_ rfl) ?_
    refine w_t (pc := 37) (e_s := (1, 2, 5, 0, 0, .null, [])) (y_s := (39, [some (.ref _), some (.int _), some (.int _), some (.long _), none, some (.int _)], [.int _], _)) rfl (u_ rfl) ?_
    refine w_t (pc := 39) (e_s := (15, 3, 46, 1, 0, .null, [])) (y_s := (46, [some (.ref _), some (.int _), some (.int _), some (.long _), none, some (.int _)], [], _)) rfl (u_ rfl) ?_
    refine w_t (pc := 46) (e_s := (1, 2, 5, 0, 0, .null, [])) (y_s := (48, [some (.ref _), some (.int _), some (.int _), some (.long _), none, some (.int _)], [.int _], _)) rfl (u_ rfl) ?_
    exact wrI (pc := 48) (len_s := 1) rfl hk t_s
  · replace t_s := t_s.2 c1_s
    refine w_t (pc := 6) (e_s := (2, 1, 0, 0, 0, .null, [])) (y_s := (7, [some (.long _), none, some (.long _), none, some (.long _), none], [.long _], _)) rfl (u_ rfl) ?_
    refine w_t (pc := 7) (e_s := (2, 2, 4, 0, 0, .null, [])) (y_s := (9, [some (.long _), none, some (.long _), none, some (.long _), none], [.long _, .long _], _)) rfl (u_ rfl) ?_
    refine w_t (pc := 9) (e_s := (14, 1, 0, 0, 0, .null, [])) (y_s := (10, [some (.long _), none, some (.long _), none, some (.long _), none], [.int (lg_cmp _ _)], _)) rfl (u_ rfl) ?_
    refine wl4 (pc := 10) (len_s := 3) (Y := 5) rfl (Int32.toInt_toInt64 _) (by decide) (fun c2_s => ?_) (fun c2_s => ?_)
    · replace t_s := t_s.1 c2_s
      refine w_t (pc := 17) (e_s := (0, 1, 0, 0, 0, .int 0, [])) (y_s := (18, [some (.long _), none, some (.long _), none, some (.long _), none], [.int _], _)) rfl (u_ rfl) ?_
      refine wrI (pc := 18) (len_s := 1) rfl hk ?_
      show wF _ 228 (9, [some (.int _)], [.int _], _) _
      refine wrI (pc := 9) (len_s := 1) rfl hk ?_
      show wF _ 231 (4, [some (.ref _), some (.int _), some (.int _)], [.int _], _) _
      refine w_t (pc := 4) (e_s := (15, 3, 9, 1, 0, .null, [])) (y_s := (7, [some (.ref _), some (.int _), some (.int _)], [], _)) rfl (u_ rfl) ?_
      refine w_t (pc := 7) (e_s := (0, 1, 0, 0, 0, .int (-1), [])) (y_s := (8, [some (.ref _), some (.int _), some (.int _)], [.int _], _)) rfl (u_ rfl) ?_
      refine wrI (pc := 8) (len_s := 1) rfl hk ?_
      show wF _ 233 (6, [some (.ref _), some (.int _), some (.int _), some (.long _), none, none], [.int _], _) _
      refine w_t (pc := 6) (e_s := (4, 2, 5, 0, 0, .null, [])) (y_s := (8, [some (.ref _), some (.int _), some (.int _), some (.long _), none, some (.int _)], [], _)) rfl (u_ rfl) ?_
      refine w_t (pc := 8) (e_s := (1, 2, 5, 0, 0, .null, [])) (y_s := (10, [some (.ref _), some (.int _), some (.int _), some (.long _), none, some (.int _)], [.int _], _)) rfl (u_ rfl) ?_
      refine w_t (pc := 10) (e_s := (15, 3, 37, 1, 0, .null, [])) (y_s := (37, [some (.ref _), some (.int _), some (.int _), some (.long _), none, some (.int _)], [], _)) rfl (u_ rfl) ?_
      refine w_t (pc := 37) (e_s := (1, 2, 5, 0, 0, .null, [])) (y_s := (39, [some (.ref _), some (.int _), some (.int _), some (.long _), none, some (.int _)], [.int _], _)) rfl (u_ rfl) ?_
      refine w_t (pc := 39) (e_s := (15, 3, 46, 1, 0, .null, [])) (y_s := (46, [some (.ref _), some (.int _), some (.int _), some (.long _), none, some (.int _)], [], _)) rfl (u_ rfl) ?_
      refine w_t (pc := 46) (e_s := (1, 2, 5, 0, 0, .null, [])) (y_s := (48, [some (.ref _), some (.int _), some (.int _), some (.long _), none, some (.int _)], [.int _], _)) rfl (u_ rfl) ?_
      exact wrI (pc := 48) (len_s := 1) rfl hk t_s
    · replace t_s := t_s.2 c2_s
      refine w_t (pc := 13) (e_s := (0, 1, 0, 0, 0, .int 1, [])) (y_s := (14, [some (.long _), none, some (.long _), none, some (.long _), none], [.int _], _)) rfl (u_ rfl) ?_
      refine w_t (pc := 14) (e_s := (17, 3, 18, 0, 0, .null, [])) (y_s := (18, [some (.long _), none, some (.long _), none, some (.long _), none], [.int _], _)) rfl (u_ rfl) ?_
      refine wrI (pc := 18) (len_s := 1) rfl hk ?_
      show wF _ 228 (9, [some (.int _)], [.int _], _) _
      refine wrI (pc := 9) (len_s := 1) rfl hk ?_
      show wF _ 231 (4, [some (.ref _), some (.int _), some (.int _)], [.int _], _) _
      refine w_t (pc := 4) (e_s := (15, 3, 9, 1, 0, .null, [])) (y_s := (9, [some (.ref _), some (.int _), some (.int _)], [], _)) rfl (u_ rfl) ?_
      refine w_t (pc := 9) (e_s := (3, 1, 0, 0, 0, .null, [])) (y_s := (10, [some (.ref _), some (.int _), some (.int _)], [.ref _], _)) rfl (u_ rfl) ?_
      refine w20r (pc := 10) (len_s := 3) (q_s := 124) rfl (krq hk rfl) ?_
      refine w_t (pc := 13) (e_s := (1, 1, 1, 0, 0, .null, [])) (y_s := (14, [some (.ref _), some (.int _), some (.int _)], [.int _, .ref _], _)) rfl (u_ rfl) ?_
      refine w22 (pc := 14) (len_s := 1) rfl (hk.1 124 0 6 rfl rfl) (fun c3_s => ?_)
      replace t_s := t_s c3_s
      refine wq3 (pc := 15) (len_s := 3) rfl rfl (fun c4_s => ?_) (fun c4_s => ?_)
      · replace t_s := t_s.1 c4_s
        refine w_t (pc := 18) (e_s := (0, 2, 0, 0, 0, .int (-11), [])) (y_s := (20, [some (.ref _), some (.int _), some (.int _)], [.int _], _)) rfl (u_ rfl) ?_
        refine wrI (pc := 20) (len_s := 1) rfl hk ?_
        show wF _ 233 (6, [some (.ref _), some (.int _), some (.int _), some (.long _), none, none], [.int _], _) _
        refine w_t (pc := 6) (e_s := (4, 2, 5, 0, 0, .null, [])) (y_s := (8, [some (.ref _), some (.int _), some (.int _), some (.long _), none, some (.int _)], [], _)) rfl (u_ rfl) ?_
        refine w_t (pc := 8) (e_s := (1, 2, 5, 0, 0, .null, [])) (y_s := (10, [some (.ref _), some (.int _), some (.int _), some (.long _), none, some (.int _)], [.int _], _)) rfl (u_ rfl) ?_
        refine w_t (pc := 10) (e_s := (15, 3, 37, 1, 0, .null, [])) (y_s := (37, [some (.ref _), some (.int _), some (.int _), some (.long _), none, some (.int _)], [], _)) rfl (u_ rfl) ?_
        refine w_t (pc := 37) (e_s := (1, 2, 5, 0, 0, .null, [])) (y_s := (39, [some (.ref _), some (.int _), some (.int _), some (.long _), none, some (.int _)], [.int _], _)) rfl (u_ rfl) ?_
        refine w_t (pc := 39) (e_s := (15, 3, 46, 1, 0, .null, [])) (y_s := (46, [some (.ref _), some (.int _), some (.int _), some (.long _), none, some (.int _)], [], _)) rfl (u_ rfl) ?_
        refine w_t (pc := 46) (e_s := (1, 2, 5, 0, 0, .null, [])) (y_s := (48, [some (.ref _), some (.int _), some (.int _), some (.long _), none, some (.int _)], [.int _], _)) rfl (u_ rfl) ?_
        exact wrI (pc := 48) (len_s := 1) rfl hk t_s
      · replace t_s := t_s.2 c4_s
        refine w_t (pc := 21) (e_s := (3, 1, 0, 0, 0, .null, [])) (y_s := (22, [some (.ref _), some (.int _), some (.int _)], [.ref _], _)) rfl (u_ rfl) ?_
        refine w20r (pc := 22) (len_s := 3) (q_s := 124) rfl (krq hk rfl) ?_
        refine w_t (pc := 25) (e_s := (1, 1, 1, 0, 0, .null, [])) (y_s := (26, [some (.ref _), some (.int _), some (.int _)], [.int _, .ref _], _)) rfl (u_ rfl) ?_
        refine w22 (pc := 26) (len_s := 1) rfl (hk.1 124 0 6 rfl rfl) (fun c5_s => ?_)
        refine w_t (pc := 27) (e_s := (0, 2, 0, 0, 0, .int 50, [])) (y_s := (29, [some (.ref _), some (.int _), some (.int _)], [.int _, .int _], _)) rfl (u_ rfl) ?_
        refine wi3 (pc := 29) (len_s := 3) (Y := 50) rfl rfl (by decide) (fun c6_s => ?_) (fun c6_s => ?_)
        · replace t_s := t_s.1 c6_s
          refine w_t (pc := 32) (e_s := (0, 2, 0, 0, 0, .int (-12), [])) (y_s := (34, [some (.ref _), some (.int _), some (.int _)], [.int _], _)) rfl (u_ rfl) ?_
          refine wrI (pc := 34) (len_s := 1) rfl hk ?_
          show wF _ 233 (6, [some (.ref _), some (.int _), some (.int _), some (.long _), none, none], [.int _], _) _
          refine w_t (pc := 6) (e_s := (4, 2, 5, 0, 0, .null, [])) (y_s := (8, [some (.ref _), some (.int _), some (.int _), some (.long _), none, some (.int _)], [], _)) rfl (u_ rfl) ?_
          refine w_t (pc := 8) (e_s := (1, 2, 5, 0, 0, .null, [])) (y_s := (10, [some (.ref _), some (.int _), some (.int _), some (.long _), none, some (.int _)], [.int _], _)) rfl (u_ rfl) ?_
          refine w_t (pc := 10) (e_s := (15, 3, 37, 1, 0, .null, [])) (y_s := (37, [some (.ref _), some (.int _), some (.int _), some (.long _), none, some (.int _)], [], _)) rfl (u_ rfl) ?_
          refine w_t (pc := 37) (e_s := (1, 2, 5, 0, 0, .null, [])) (y_s := (39, [some (.ref _), some (.int _), some (.int _), some (.long _), none, some (.int _)], [.int _], _)) rfl (u_ rfl) ?_
          refine w_t (pc := 39) (e_s := (15, 3, 46, 1, 0, .null, [])) (y_s := (46, [some (.ref _), some (.int _), some (.int _), some (.long _), none, some (.int _)], [], _)) rfl (u_ rfl) ?_
          refine w_t (pc := 46) (e_s := (1, 2, 5, 0, 0, .null, [])) (y_s := (48, [some (.ref _), some (.int _), some (.int _), some (.long _), none, some (.int _)], [.int _], _)) rfl (u_ rfl) ?_
          exact wrI (pc := 48) (len_s := 1) rfl hk t_s
        · replace t_s := t_s.2 c6_s
          refine w_t (pc := 35) (e_s := (1, 1, 2, 0, 0, .null, [])) (y_s := (36, [some (.ref _), some (.int _), some (.int _)], [.int _], _)) rfl (u_ rfl) ?_
          refine wq2 (pc := 36) (len_s := 3) rfl rfl (fun c7_s => ?_) (fun c7_s => ?_)
          · replace t_s := t_s.1 c7_s
            refine w_t (pc := 53) (e_s := (0, 2, 0, 0, 0, .int (-13), [])) (y_s := (55, [some (.ref _), some (.int _), some (.int _)], [.int _], _)) rfl (u_ rfl) ?_
            refine wrI (pc := 55) (len_s := 1) rfl hk ?_
            show wF _ 233 (6, [some (.ref _), some (.int _), some (.int _), some (.long _), none, none], [.int _], _) _
            refine w_t (pc := 6) (e_s := (4, 2, 5, 0, 0, .null, [])) (y_s := (8, [some (.ref _), some (.int _), some (.int _), some (.long _), none, some (.int _)], [], _)) rfl (u_ rfl) ?_
            refine w_t (pc := 8) (e_s := (1, 2, 5, 0, 0, .null, [])) (y_s := (10, [some (.ref _), some (.int _), some (.int _), some (.long _), none, some (.int _)], [.int _], _)) rfl (u_ rfl) ?_
            refine w_t (pc := 10) (e_s := (15, 3, 37, 1, 0, .null, [])) (y_s := (37, [some (.ref _), some (.int _), some (.int _), some (.long _), none, some (.int _)], [], _)) rfl (u_ rfl) ?_
            refine w_t (pc := 37) (e_s := (1, 2, 5, 0, 0, .null, [])) (y_s := (39, [some (.ref _), some (.int _), some (.int _), some (.long _), none, some (.int _)], [.int _], _)) rfl (u_ rfl) ?_
            refine w_t (pc := 39) (e_s := (15, 3, 46, 1, 0, .null, [])) (y_s := (46, [some (.ref _), some (.int _), some (.int _), some (.long _), none, some (.int _)], [], _)) rfl (u_ rfl) ?_
            refine w_t (pc := 46) (e_s := (1, 2, 5, 0, 0, .null, [])) (y_s := (48, [some (.ref _), some (.int _), some (.int _), some (.long _), none, some (.int _)], [.int _], _)) rfl (u_ rfl) ?_
            exact wrI (pc := 48) (len_s := 1) rfl hk t_s
          · replace t_s := t_s.2 c7_s
            refine w_t (pc := 39) (e_s := (1, 1, 2, 0, 0, .null, [])) (y_s := (40, [some (.ref _), some (.int _), some (.int _)], [.int _], _)) rfl (u_ rfl) ?_
            refine w_t (pc := 40) (e_s := (3, 1, 0, 0, 0, .null, [])) (y_s := (41, [some (.ref _), some (.int _), some (.int _)], [.ref _, .int _], _)) rfl (u_ rfl) ?_
            refine w20r (pc := 41) (len_s := 3) (q_s := 125) rfl (krq hk rfl) ?_
            refine w_t (pc := 44) (e_s := (1, 1, 1, 0, 0, .null, [])) (y_s := (45, [some (.ref _), some (.int _), some (.int _)], [.int _, .ref _, .int _], _)) rfl (u_ rfl) ?_
            refine w22 (pc := 45) (len_s := 1) rfl (hk.1 125 0 6 rfl rfl) (fun c8_s => ?_)
            refine wi3 (pc := 46) (len_s := 3) rfl rfl rfl (fun c9_s => ?_) (fun c9_s => ?_)
            · replace t_s := t_s.1 c9_s
              refine w_t (pc := 49) (e_s := (0, 1, 0, 0, 0, .int 0, [])) (y_s := (50, [some (.ref _), some (.int _), some (.int _)], [.int _], _)) rfl (u_ rfl) ?_
              refine w_t (pc := 50) (e_s := (17, 3, 55, 0, 0, .null, [])) (y_s := (55, [some (.ref _), some (.int _), some (.int _)], [.int _], _)) rfl (u_ rfl) ?_
              refine wrI (pc := 55) (len_s := 1) rfl hk ?_
              show wF _ 233 (6, [some (.ref _), some (.int _), some (.int _), some (.long _), none, none], [.int _], _) _
              refine w_t (pc := 6) (e_s := (4, 2, 5, 0, 0, .null, [])) (y_s := (8, [some (.ref _), some (.int _), some (.int _), some (.long _), none, some (.int _)], [], _)) rfl (u_ rfl) ?_
              refine w_t (pc := 8) (e_s := (1, 2, 5, 0, 0, .null, [])) (y_s := (10, [some (.ref _), some (.int _), some (.int _), some (.long _), none, some (.int _)], [.int _], _)) rfl (u_ rfl) ?_
              refine w_t (pc := 10) (e_s := (15, 3, 37, 1, 0, .null, [])) (y_s := (13, [some (.ref _), some (.int _), some (.int _), some (.long _), none, some (.int _)], [], _)) rfl (u_ rfl) ?_
              refine w_t (pc := 13) (e_s := (3, 1, 0, 0, 0, .null, [])) (y_s := (14, [some (.ref _), some (.int _), some (.int _), some (.long _), none, some (.int _)], [.ref _], _)) rfl (u_ rfl) ?_
              refine w20r (pc := 14) (len_s := 3) (q_s := 126) rfl (krq hk rfl) ?_
              refine w_t (pc := 17) (e_s := (0, 2, 0, 0, 0, .int 60, [])) (y_s := (19, [some (.ref _), some (.int _), some (.int _), some (.long _), none, some (.int _)], [.int _, .ref _], _)) rfl (u_ rfl) ?_
              refine w_t (pc := 19) (e_s := (1, 1, 1, 0, 0, .null, [])) (y_s := (20, [some (.ref _), some (.int _), some (.int _), some (.long _), none, some (.int _)], [.int _, .int _, .ref _], _)) rfl (u_ rfl) ?_
              refine w_t (pc := 20) (e_s := (7, 1, 0, 2, 0, .null, [])) (y_s := (21, [some (.ref _), some (.int _), some (.int _), some (.long _), none, some (.int _)], [.int (_ * _), .ref _], _)) rfl (u_ rfl) ?_
              refine w_t (pc := 21) (e_s := (1, 1, 2, 0, 0, .null, [])) (y_s := (22, [some (.ref _), some (.int _), some (.int _), some (.long _), none, some (.int _)], [.int _, .int _, .ref _], _)) rfl (u_ rfl) ?_
              refine w_t (pc := 22) (e_s := (7, 1, 0, 0, 0, .null, [])) (y_s := (23, [some (.ref _), some (.int _), some (.int _), some (.long _), none, some (.int _)], [.int (_ + _), .ref _], _)) rfl (u_ rfl) ?_
              refine w_t (pc := 23) (e_s := (3, 1, 0, 0, 0, .null, [])) (y_s := (24, [some (.ref _), some (.int _), some (.int _), some (.long _), none, some (.int _)], [.ref _, .int _, .ref _], _)) rfl (u_ rfl) ?_
              refine w20r (pc := 24) (len_s := 3) (q_s := 124) rfl (krq hk rfl) ?_
              refine w_t (pc := 27) (e_s := (1, 1, 1, 0, 0, .null, [])) (y_s := (28, [some (.ref _), some (.int _), some (.int _), some (.long _), none, some (.int _)], [.int _, .ref _, .int _, .ref _], _)) rfl (u_ rfl) ?_
              refine w22 (pc := 28) (len_s := 1) rfl (hk.1 124 0 6 rfl rfl) (fun c10_s => ?_)
              refine w_t (pc := 29) (e_s := (0, 2, 0, 0, 0, .int 50, [])) (y_s := (31, [some (.ref _), some (.int _), some (.int _), some (.long _), none, some (.int _)], [.int _, .int _, .int _, .ref _], _)) rfl (u_ rfl) ?_
              refine w_t (pc := 31) (e_s := (7, 1, 0, 1, 0, .null, [])) (y_s := (32, [some (.ref _), some (.int _), some (.int _), some (.long _), none, some (.int _)], [.int (_ - _), .int _, .ref _], _)) rfl (u_ rfl) ?_
              refine w_t (pc := 32) (e_s := (2, 1, 3, 0, 0, .null, [])) (y_s := (33, [some (.ref _), some (.int _), some (.int _), some (.long _), none, some (.int _)], [.long _, .int _, .int _, .ref _], _)) rfl (u_ rfl) ?_
              refine wcJ (pc := 33) (len_s := 3) rfl rfl (l := [some (.int _), some (.long _), none]) rfl ?_
              refine w_t (pc := 0) (e_s := (1, 1, 0, 0, 0, .null, [])) (y_s := (1, [some (.int _), some (.long _), none], [.int _], _)) rfl (u_ rfl) ?_
              refine wq1 (pc := 1) (len_s := 3) rfl rfl (fun c11 => ?_) (fun c11 => ?_)
              · replace t_s := t_s.1 c11
                refine w_t (pc := 4) (e_s := (2, 1, 1, 0, 0, .null, [])) (y_s := (5, [some (.int _), some (.long _), none], [.long _], _)) rfl (u_ rfl) ?_
                refine w_t (pc := 5) (e_s := (11, 1, 0, 0, 0, .null, [])) (y_s := (6, [some (.int _), some (.long _), none], [.int (Int64.toInt32 _)], _)) rfl (u_ rfl) ?_
                refine w_t (pc := 6) (e_s := (9, 1, 0, 1, 0, .null, [])) (y_s := (7, [some (.int _), some (.long _), none], [.int (Int8.toInt32 _)], _)) rfl (u_ rfl) ?_
                refine w_t (pc := 7) (e_s := (10, 1, 0, 0, 0, .null, [])) (y_s := (8, [some (.int _), some (.long _), none], [.long (Int32.toInt64 _)], _)) rfl (u_ rfl) ?_
                refine w_t (pc := 8) (e_s := (17, 3, 54, 0, 0, .null, [])) (y_s := (54, [some (.int _), some (.long _), none], [.long _], _)) rfl (u_ rfl) ?_
                refine wrJ (pc := 54) (len_s := 1) rfl hk ?_
                show wF _ 233 (36, [some (.ref _), some (.int _), some (.int _), some (.long _), none, some (.int _)], [.long _, .int _, .ref _], _) _
                refine w26 (pc := 36) (len_s := 1) rfl (hk.1 126 1 360 rfl rfl) (fun c12_s => ?_)
                replace t_s := t_s c12_s
                refine w_t (pc := 37) (e_s := (1, 2, 5, 0, 0, .null, [])) (y_s := (39, [some (.ref _), some (.int _), some (.int _), some (.long _), none, some (.int _)], [.int _], _)) rfl (u_ rfl) ?_
                refine w_t (pc := 39) (e_s := (15, 3, 46, 1, 0, .null, [])) (y_s := (42, [some (.ref _), some (.int _), some (.int _), some (.long _), none, some (.int _)], [], _)) rfl (u_ rfl) ?_
                refine w_t (pc := 42) (e_s := (0, 1, 0, 0, 0, .int 1, [])) (y_s := (43, [some (.ref _), some (.int _), some (.int _), some (.long _), none, some (.int _)], [.int _], _)) rfl (u_ rfl) ?_
                refine w_t (pc := 43) (e_s := (17, 3, 48, 0, 0, .null, [])) (y_s := (48, [some (.ref _), some (.int _), some (.int _), some (.long _), none, some (.int _)], [.int _], _)) rfl (u_ rfl) ?_
                exact wrI (pc := 48) (len_s := 1) rfl hk t_s
              · replace t_s := t_s.2 c11
                refine w_t (pc := 11) (e_s := (1, 1, 0, 0, 0, .null, [])) (y_s := (12, [some (.int _), some (.long _), none], [.int _], _)) rfl (u_ rfl) ?_
                refine w_t (pc := 12) (e_s := (0, 1, 0, 0, 0, .int 1, [])) (y_s := (13, [some (.int _), some (.long _), none], [.int _, .int _], _)) rfl (u_ rfl) ?_
                refine wi1 (pc := 13) (len_s := 3) (Y := 1) rfl rfl (by decide) (fun c13_s => ?_) (fun c13_s => ?_)
                · replace t_s := t_s.1 c13_s
                  refine w_t (pc := 16) (e_s := (2, 1, 1, 0, 0, .null, [])) (y_s := (17, [some (.int _), some (.long _), none], [.long _], _)) rfl (u_ rfl) ?_
                  refine w_t (pc := 17) (e_s := (11, 1, 0, 0, 0, .null, [])) (y_s := (18, [some (.int _), some (.long _), none], [.int (Int64.toInt32 _)], _)) rfl (u_ rfl) ?_
                  refine w_t (pc := 18) (e_s := (9, 1, 0, 2, 0, .null, [])) (y_s := (19, [some (.int _), some (.long _), none], [.int (Int16.toInt32 _)], _)) rfl (u_ rfl) ?_
                  refine w_t (pc := 19) (e_s := (10, 1, 0, 0, 0, .null, [])) (y_s := (20, [some (.int _), some (.long _), none], [.long (Int32.toInt64 _)], _)) rfl (u_ rfl) ?_
                  refine w_t (pc := 20) (e_s := (17, 3, 54, 0, 0, .null, [])) (y_s := (54, [some (.int _), some (.long _), none], [.long _], _)) rfl (u_ rfl) ?_
                  refine wrJ (pc := 54) (len_s := 1) rfl hk ?_
                  show wF _ 233 (36, [some (.ref _), some (.int _), some (.int _), some (.long _), none, some (.int _)], [.long _, .int _, .ref _], _) _
                  refine w26 (pc := 36) (len_s := 1) rfl (hk.1 126 1 360 rfl rfl) (fun c14_s => ?_)
                  replace t_s := t_s c14_s
                  refine w_t (pc := 37) (e_s := (1, 2, 5, 0, 0, .null, [])) (y_s := (39, [some (.ref _), some (.int _), some (.int _), some (.long _), none, some (.int _)], [.int _], _)) rfl (u_ rfl) ?_
                  refine w_t (pc := 39) (e_s := (15, 3, 46, 1, 0, .null, [])) (y_s := (42, [some (.ref _), some (.int _), some (.int _), some (.long _), none, some (.int _)], [], _)) rfl (u_ rfl) ?_
                  refine w_t (pc := 42) (e_s := (0, 1, 0, 0, 0, .int 1, [])) (y_s := (43, [some (.ref _), some (.int _), some (.int _), some (.long _), none, some (.int _)], [.int _], _)) rfl (u_ rfl) ?_
                  refine w_t (pc := 43) (e_s := (17, 3, 48, 0, 0, .null, [])) (y_s := (48, [some (.ref _), some (.int _), some (.int _), some (.long _), none, some (.int _)], [.int _], _)) rfl (u_ rfl) ?_
                  exact wrI (pc := 48) (len_s := 1) rfl hk t_s
                · replace t_s := t_s.2 c13_s
                  refine w_t (pc := 23) (e_s := (1, 1, 0, 0, 0, .null, [])) (y_s := (24, [some (.int _), some (.long _), none], [.int _], _)) rfl (u_ rfl) ?_
                  refine w_t (pc := 24) (e_s := (0, 1, 0, 0, 0, .int 2, [])) (y_s := (25, [some (.int _), some (.long _), none], [.int _, .int _], _)) rfl (u_ rfl) ?_
                  refine wi1 (pc := 25) (len_s := 3) (Y := 2) rfl rfl (by decide) (fun c15_s => ?_) (fun c15_s => ?_)
                  · replace t_s := t_s.1 c15_s
                    refine w_t (pc := 28) (e_s := (2, 1, 1, 0, 0, .null, [])) (y_s := (29, [some (.int _), some (.long _), none], [.long _], _)) rfl (u_ rfl) ?_
                    refine w_t (pc := 29) (e_s := (11, 1, 0, 0, 0, .null, [])) (y_s := (30, [some (.int _), some (.long _), none], [.int (Int64.toInt32 _)], _)) rfl (u_ rfl) ?_
                    refine w_t (pc := 30) (e_s := (10, 1, 0, 0, 0, .null, [])) (y_s := (31, [some (.int _), some (.long _), none], [.long (Int32.toInt64 _)], _)) rfl (u_ rfl) ?_
                    refine w_t (pc := 31) (e_s := (17, 3, 54, 0, 0, .null, [])) (y_s := (54, [some (.int _), some (.long _), none], [.long _], _)) rfl (u_ rfl) ?_
                    refine wrJ (pc := 54) (len_s := 1) rfl hk ?_
                    show wF _ 233 (36, [some (.ref _), some (.int _), some (.int _), some (.long _), none, some (.int _)], [.long _, .int _, .ref _], _) _
                    refine w26 (pc := 36) (len_s := 1) rfl (hk.1 126 1 360 rfl rfl) (fun c16 => ?_)
                    replace t_s := t_s c16
                    refine w_t (pc := 37) (e_s := (1, 2, 5, 0, 0, .null, [])) (y_s := (39, [some (.ref _), some (.int _), some (.int _), some (.long _), none, some (.int _)], [.int _], _)) rfl (u_ rfl) ?_
                    refine w_t (pc := 39) (e_s := (15, 3, 46, 1, 0, .null, [])) (y_s := (42, [some (.ref _), some (.int _), some (.int _), some (.long _), none, some (.int _)], [], _)) rfl (u_ rfl) ?_
                    refine w_t (pc := 42) (e_s := (0, 1, 0, 0, 0, .int 1, [])) (y_s := (43, [some (.ref _), some (.int _), some (.int _), some (.long _), none, some (.int _)], [.int _], _)) rfl (u_ rfl) ?_
                    refine w_t (pc := 43) (e_s := (17, 3, 48, 0, 0, .null, [])) (y_s := (48, [some (.ref _), some (.int _), some (.int _), some (.long _), none, some (.int _)], [.int _], _)) rfl (u_ rfl) ?_
                    exact wrI (pc := 48) (len_s := 1) rfl hk t_s
                  · replace t_s := t_s.2 c15_s
                    refine w_t (pc := 34) (e_s := (1, 1, 0, 0, 0, .null, [])) (y_s := (35, [some (.int _), some (.long _), none], [.int _], _)) rfl (u_ rfl) ?_
                    refine w_t (pc := 35) (e_s := (0, 1, 0, 0, 0, .int 4, [])) (y_s := (36, [some (.int _), some (.long _), none], [.int _, .int _], _)) rfl (u_ rfl) ?_
                    refine wi1 (pc := 36) (len_s := 3) (Y := 4) rfl rfl (by decide) (fun c17 => ?_) (fun c17 => ?_)
                    · replace t_s := t_s.1 c17
                      refine w_t (pc := 39) (e_s := (2, 1, 1, 0, 0, .null, [])) (y_s := (40, [some (.int _), some (.long _), none], [.long _], _)) rfl (u_ rfl) ?_
                      refine w_t (pc := 40) (e_s := (0, 1, 0, 0, 0, .long 0, [])) (y_s := (41, [some (.int _), some (.long _), none], [.long _, .long _], _)) rfl (u_ rfl) ?_
                      refine w_t (pc := 41) (e_s := (14, 1, 0, 0, 0, .null, [])) (y_s := (42, [some (.int _), some (.long _), none], [.int (lg_cmp _ _)], _)) rfl (u_ rfl) ?_
                      refine wl0 (pc := 42) (len_s := 3) (Y := 0) rfl rfl (by decide) (fun c18_s => ?_) (fun c18_s => ?_)
                      · replace t_s := t_s.1 c18_s
                        refine w_t (pc := 49) (e_s := (0, 1, 0, 0, 0, .long 0, [])) (y_s := (50, [some (.int _), some (.long _), none], [.long _], _)) rfl (u_ rfl) ?_
                        refine w_t (pc := 50) (e_s := (17, 3, 54, 0, 0, .null, [])) (y_s := (54, [some (.int _), some (.long _), none], [.long _], _)) rfl (u_ rfl) ?_
                        refine wrJ (pc := 54) (len_s := 1) rfl hk ?_
                        show wF _ 233 (36, [some (.ref _), some (.int _), some (.int _), some (.long _), none, some (.int _)], [.long _, .int _, .ref _], _) _
                        refine w26 (pc := 36) (len_s := 1) rfl (hk.1 126 1 360 rfl rfl) (fun c19_s => ?_)
                        replace t_s := t_s c19_s
                        refine w_t (pc := 37) (e_s := (1, 2, 5, 0, 0, .null, [])) (y_s := (39, [some (.ref _), some (.int _), some (.int _), some (.long _), none, some (.int _)], [.int _], _)) rfl (u_ rfl) ?_
                        refine w_t (pc := 39) (e_s := (15, 3, 46, 1, 0, .null, [])) (y_s := (42, [some (.ref _), some (.int _), some (.int _), some (.long _), none, some (.int _)], [], _)) rfl (u_ rfl) ?_
                        refine w_t (pc := 42) (e_s := (0, 1, 0, 0, 0, .int 1, [])) (y_s := (43, [some (.ref _), some (.int _), some (.int _), some (.long _), none, some (.int _)], [.int _], _)) rfl (u_ rfl) ?_
                        refine w_t (pc := 43) (e_s := (17, 3, 48, 0, 0, .null, [])) (y_s := (48, [some (.ref _), some (.int _), some (.int _), some (.long _), none, some (.int _)], [.int _], _)) rfl (u_ rfl) ?_
                        exact wrI (pc := 48) (len_s := 1) rfl hk t_s
                      · replace t_s := t_s.2 c18_s
                        refine w_t (pc := 45) (e_s := (0, 1, 0, 0, 0, .long 1, [])) (y_s := (46, [some (.int _), some (.long _), none], [.long _], _)) rfl (u_ rfl) ?_
                        refine w_t (pc := 46) (e_s := (17, 3, 54, 0, 0, .null, [])) (y_s := (54, [some (.int _), some (.long _), none], [.long _], _)) rfl (u_ rfl) ?_
                        refine wrJ (pc := 54) (len_s := 1) rfl hk ?_
                        show wF _ 233 (36, [some (.ref _), some (.int _), some (.int _), some (.long _), none, some (.int _)], [.long _, .int _, .ref _], _) _
                        refine w26 (pc := 36) (len_s := 1) rfl (hk.1 126 1 360 rfl rfl) (fun c20_s => ?_)
                        replace t_s := t_s c20_s
                        refine w_t (pc := 37) (e_s := (1, 2, 5, 0, 0, .null, [])) (y_s := (39, [some (.ref _), some (.int _), some (.int _), some (.long _), none, some (.int _)], [.int _], _)) rfl (u_ rfl) ?_
                        refine w_t (pc := 39) (e_s := (15, 3, 46, 1, 0, .null, [])) (y_s := (42, [some (.ref _), some (.int _), some (.int _), some (.long _), none, some (.int _)], [], _)) rfl (u_ rfl) ?_
                        refine w_t (pc := 42) (e_s := (0, 1, 0, 0, 0, .int 1, [])) (y_s := (43, [some (.ref _), some (.int _), some (.int _), some (.long _), none, some (.int _)], [.int _], _)) rfl (u_ rfl) ?_
                        refine w_t (pc := 43) (e_s := (17, 3, 48, 0, 0, .null, [])) (y_s := (48, [some (.ref _), some (.int _), some (.int _), some (.long _), none, some (.int _)], [.int _], _)) rfl (u_ rfl) ?_
                        exact wrI (pc := 48) (len_s := 1) rfl hk t_s
                    · replace t_s := t_s.2 c17
                      refine w_t (pc := 53) (e_s := (2, 1, 1, 0, 0, .null, [])) (y_s := (54, [some (.int _), some (.long _), none], [.long _], _)) rfl (u_ rfl) ?_
                      refine wrJ (pc := 54) (len_s := 1) rfl hk ?_
                      show wF _ 233 (36, [some (.ref _), some (.int _), some (.int _), some (.long _), none, some (.int _)], [.long _, .int _, .ref _], _) _
                      refine w26 (pc := 36) (len_s := 1) rfl (hk.1 126 1 360 rfl rfl) (fun c21 => ?_)
                      replace t_s := t_s c21
                      refine w_t (pc := 37) (e_s := (1, 2, 5, 0, 0, .null, [])) (y_s := (39, [some (.ref _), some (.int _), some (.int _), some (.long _), none, some (.int _)], [.int _], _)) rfl (u_ rfl) ?_
                      refine w_t (pc := 39) (e_s := (15, 3, 46, 1, 0, .null, [])) (y_s := (42, [some (.ref _), some (.int _), some (.int _), some (.long _), none, some (.int _)], [], _)) rfl (u_ rfl) ?_
                      refine w_t (pc := 42) (e_s := (0, 1, 0, 0, 0, .int 1, [])) (y_s := (43, [some (.ref _), some (.int _), some (.int _), some (.long _), none, some (.int _)], [.int _], _)) rfl (u_ rfl) ?_
                      refine w_t (pc := 43) (e_s := (17, 3, 48, 0, 0, .null, [])) (y_s := (48, [some (.ref _), some (.int _), some (.int _), some (.long _), none, some (.int _)], [.int _], _)) rfl (u_ rfl) ?_
                      exact wrI (pc := 48) (len_s := 1) rfl hk t_s
            · replace t_s := t_s.2 c9_s
              refine w_t (pc := 53) (e_s := (0, 2, 0, 0, 0, .int (-13), [])) (y_s := (55, [some (.ref _), some (.int _), some (.int _)], [.int _], _)) rfl (u_ rfl) ?_
              refine wrI (pc := 55) (len_s := 1) rfl hk ?_
              show wF _ 233 (6, [some (.ref _), some (.int _), some (.int _), some (.long _), none, none], [.int _], _) _
              refine w_t (pc := 6) (e_s := (4, 2, 5, 0, 0, .null, [])) (y_s := (8, [some (.ref _), some (.int _), some (.int _), some (.long _), none, some (.int _)], [], _)) rfl (u_ rfl) ?_
              refine w_t (pc := 8) (e_s := (1, 2, 5, 0, 0, .null, [])) (y_s := (10, [some (.ref _), some (.int _), some (.int _), some (.long _), none, some (.int _)], [.int _], _)) rfl (u_ rfl) ?_
              refine w_t (pc := 10) (e_s := (15, 3, 37, 1, 0, .null, [])) (y_s := (37, [some (.ref _), some (.int _), some (.int _), some (.long _), none, some (.int _)], [], _)) rfl (u_ rfl) ?_
              refine w_t (pc := 37) (e_s := (1, 2, 5, 0, 0, .null, [])) (y_s := (39, [some (.ref _), some (.int _), some (.int _), some (.long _), none, some (.int _)], [.int _], _)) rfl (u_ rfl) ?_
              refine w_t (pc := 39) (e_s := (15, 3, 46, 1, 0, .null, [])) (y_s := (46, [some (.ref _), some (.int _), some (.int _), some (.long _), none, some (.int _)], [], _)) rfl (u_ rfl) ?_
              refine w_t (pc := 46) (e_s := (1, 2, 5, 0, 0, .null, [])) (y_s := (48, [some (.ref _), some (.int _), some (.int _), some (.long _), none, some (.int _)], [.int _], _)) rfl (u_ rfl) ?_
              exact wrI (pc := 48) (len_s := 1) rfl hk t_s
/-- ColdShod.shift(IIIII)I, from 0 on -/
theorem sg_132_0 {F_s : Nat} {x1_s : Int32} {x2_s : Int32} {x3 : Int32} {x4_s : Int32} {x5_s : Int32} {h_s : zH} {K_s : Int32 → zH → Prop} (hk : hKn h_s) (t_s : (x1_s.toInt < 0 → K_s (-1) h_s) ∧ (¬ x1_s.toInt < 0 → ((x1_s.toInt < 6 → ((x3.toInt < 0 → K_s (-1) h_s) ∧ (¬ x3.toInt < 0 → ((x3.toInt < 6 → (zix x1_s < 6 → (zix x3 < 6 → ((h_s.2.1 (76 + 2 * (zix x1_s)) 0).toInt = 0 → K_s (-11) h_s) ∧ (¬ (h_s.2.1 (76 + 2 * (zix x1_s)) 0).toInt = 0 → (((h_s.2.1 (76 + 2 * (zix x3)) 0).toInt = 0 → K_s (-11) h_s) ∧ (¬ (h_s.2.1 (76 + 2 * (zix x3)) 0).toInt = 0 → (((h_s.2.1 (76 + 2 * (zix x1_s)) 0).toInt = 2 → (((h_s.2.1 (76 + 2 * (zix x3)) 0).toInt = 2 → (((h_s.2.1 (76 + 2 * (zix x1_s)) 2).toInt = (h_s.2.1 (76 + 2 * (zix x3)) 2).toInt → ((x5_s.toInt < 0 → K_s (-13) h_s) ∧ (¬ x5_s.toInt < 0 → ((x2_s.toInt < 0 → K_s (-13) h_s) ∧ (¬ x2_s.toInt < 0 → (((h_s.2.1 (76 + 2 * (zix x1_s)) 3).toInt < x2_s.toInt → K_s (-13) h_s) ∧ (¬ (h_s.2.1 (76 + 2 * (zix x1_s)) 3).toInt < x2_s.toInt → ((((h_s.2.1 (76 + 2 * (zix x1_s)) 3) - x2_s).toInt < x5_s.toInt → K_s (-13) h_s) ∧ (¬ ((h_s.2.1 (76 + 2 * (zix x1_s)) 3) - x2_s).toInt < x5_s.toInt → ((x4_s.toInt < 0 → K_s (-13) h_s) ∧ (¬ x4_s.toInt < 0 → (((h_s.2.1 (76 + 2 * (zix x3)) 3).toInt < x4_s.toInt → K_s (-13) h_s) ∧ (¬ (h_s.2.1 (76 + 2 * (zix x3)) 3).toInt < x4_s.toInt → ((((h_s.2.1 (76 + 2 * (zix x3)) 3) - x4_s).toInt < x5_s.toInt → K_s (-13) h_s) ∧ (¬ ((h_s.2.1 (76 + 2 * (zix x3)) 3) - x4_s).toInt < x5_s.toInt → (zix x2_s + zix x5_s ≤ 60 ∧ zix x4_s + zix x5_s ≤ 60 → K_s x5_s (h_s.1, h_s.2.1, zrow h_s.2.2.1 (76 + 2 * (zix x3) + 1) (zcpy (h_s.2.2.1 (76 + 2 * (zix x1_s) + 1)) (h_s.2.2.1 (76 + 2 * (zix x3) + 1)) (zix x2_s) (zix x4_s) (zix x5_s)), h_s.2.2.2))))))))))))))))) ∧ (¬ (h_s.2.1 (76 + 2 * (zix x1_s)) 2).toInt = (h_s.2.1 (76 + 2 * (zix x3)) 2).toInt → K_s (-12) h_s))) ∧ (¬ (h_s.2.1 (76 + 2 * (zix x3)) 0).toInt = 2 → K_s (-12) h_s))) ∧ (¬ (h_s.2.1 (76 + 2 * (zix x1_s)) 0).toInt = 2 → K_s (-12) h_s)))))))) ∧ (¬ x3.toInt < 6 → K_s (-1) h_s))))) ∧ (¬ x1_s.toInt < 6 → K_s (-1) h_s)))) : wF (F_s + 1) 132 (0, [some (.ref 6), some (.int x1_s), some (.int x2_s), some (.int x3), some (.int x4_s), some (.int x5_s), none, none], [], h_s) (gI K_s) := by
  refine w_0 (pc := 0) (e_s := (1, 1, 1, 0, 0, .null, [])) (y_s := (1, [some (.ref _), some (.int _), some (.int _), some (.int _), some (.int _), some (.int _), none, none], [.int _], _)) rfl (u_ rfl) ?_
  refine wcI (pc := 1) (len_s := 3) rfl rfl (l := [some (.int _)]) rfl ?_
  refine w_t (pc := 0) (e_s := (1, 1, 0, 0, 0, .null, [])) (y_s := (1, [some (.int _)], [.int _], _)) rfl (u_ rfl) ?_
  refine wq2 (pc := 1) (len_s := 3) rfl rfl (fun c1_s => ?_) (fun c1_s => ?_)
  · replace t_s := t_s.1 c1_s
    refine w_t (pc := 14) (e_s := (0, 1, 0, 0, 0, .int 0, [])) (y_s := (15, [some (.int _)], [.int _], _)) rfl (u_ rfl) ?_
    refine wrI (pc := 15) (len_s := 1) rfl hk ?_
    show wF _ 132 (4, [some (.ref _), some (.int _), some (.int _), some (.int _), some (.int _), some (.int _), none, none], [.int _], _) _
    refine w_t (pc := 4) (e_s := (15, 3, 14, 0, 0, .null, [])) (y_s := (14, [some (.ref _), some (.int _), some (.int _), some (.int _), some (.int _), some (.int _), none, none], [], _)) rfl (u_ rfl) ?_
    refine w_t (pc := 14) (e_s := (0, 1, 0, 0, 0, .int (-1), [])) (y_s := (15, [some (.ref _), some (.int _), some (.int _), some (.int _), some (.int _), some (.int _), none, none], [.int _], _)) rfl (u_ rfl) ?_
    exact wrI (pc := 15) (len_s := 1) rfl hk t_s
  · replace t_s := t_s.2 c1_s
    refine w_t (pc := 4) (e_s := (1, 1, 0, 0, 0, .null, [])) (y_s := (5, [some (.int _)], [.int _], _)) rfl (u_ rfl) ?_
    refine w_t (pc := 5) (e_s := (0, 2, 0, 0, 0, .int 6, [])) (y_s := (7, [some (.int _)], [.int _, .int _], _)) rfl (u_ rfl) ?_
    refine wi3 (pc := 7) (len_s := 3) (Y := 6) rfl rfl (by decide) (fun c2_s => ?_) (fun c2_s => ?_)
    · replace t_s := t_s.1 c2_s
      refine w_t (pc := 10) (e_s := (0, 1, 0, 0, 0, .int 1, [])) (y_s := (11, [some (.int _)], [.int _], _)) rfl (u_ rfl) ?_
      refine w_t (pc := 11) (e_s := (17, 3, 15, 0, 0, .null, [])) (y_s := (15, [some (.int _)], [.int _], _)) rfl (u_ rfl) ?_
      refine wrI (pc := 15) (len_s := 1) rfl hk ?_
      show wF _ 132 (4, [some (.ref _), some (.int _), some (.int _), some (.int _), some (.int _), some (.int _), none, none], [.int _], _) _
      refine w_t (pc := 4) (e_s := (15, 3, 14, 0, 0, .null, [])) (y_s := (7, [some (.ref _), some (.int _), some (.int _), some (.int _), some (.int _), some (.int _), none, none], [], _)) rfl (u_ rfl) ?_
      refine w_t (pc := 7) (e_s := (1, 1, 3, 0, 0, .null, [])) (y_s := (8, [some (.ref _), some (.int _), some (.int _), some (.int _), some (.int _), some (.int _), none, none], [.int _], _)) rfl (u_ rfl) ?_
      refine wcI (pc := 8) (len_s := 3) rfl rfl (l := [some (.int _)]) rfl ?_
      refine w_t (pc := 0) (e_s := (1, 1, 0, 0, 0, .null, [])) (y_s := (1, [some (.int _)], [.int _], _)) rfl (u_ rfl) ?_
      refine wq2 (pc := 1) (len_s := 3) rfl rfl (fun c3_s => ?_) (fun c3_s => ?_)
      · replace t_s := t_s.1 c3_s
        refine w_t (pc := 14) (e_s := (0, 1, 0, 0, 0, .int 0, [])) (y_s := (15, [some (.int _)], [.int _], _)) rfl (u_ rfl) ?_
        refine wrI (pc := 15) (len_s := 1) rfl hk ?_
        show wF _ 132 (11, [some (.ref _), some (.int _), some (.int _), some (.int _), some (.int _), some (.int _), none, none], [.int _], _) _
        refine w_t (pc := 11) (e_s := (15, 3, 16, 1, 0, .null, [])) (y_s := (14, [some (.ref _), some (.int _), some (.int _), some (.int _), some (.int _), some (.int _), none, none], [], _)) rfl (u_ rfl) ?_
        refine w_t (pc := 14) (e_s := (0, 1, 0, 0, 0, .int (-1), [])) (y_s := (15, [some (.ref _), some (.int _), some (.int _), some (.int _), some (.int _), some (.int _), none, none], [.int _], _)) rfl (u_ rfl) ?_
        exact wrI (pc := 15) (len_s := 1) rfl hk t_s
      · replace t_s := t_s.2 c3_s
        refine w_t (pc := 4) (e_s := (1, 1, 0, 0, 0, .null, [])) (y_s := (5, [some (.int _)], [.int _], _)) rfl (u_ rfl) ?_
        refine w_t (pc := 5) (e_s := (0, 2, 0, 0, 0, .int 6, [])) (y_s := (7, [some (.int _)], [.int _, .int _], _)) rfl (u_ rfl) ?_
        refine wi3 (pc := 7) (len_s := 3) (Y := 6) rfl rfl (by decide) (fun c4_s => ?_) (fun c4_s => ?_)
        · replace t_s := t_s.1 c4_s
          refine w_t (pc := 10) (e_s := (0, 1, 0, 0, 0, .int 1, [])) (y_s := (11, [some (.int _)], [.int _], _)) rfl (u_ rfl) ?_
          refine w_t (pc := 11) (e_s := (17, 3, 15, 0, 0, .null, [])) (y_s := (15, [some (.int _)], [.int _], _)) rfl (u_ rfl) ?_
          refine wrI (pc := 15) (len_s := 1) rfl hk ?_
          show wF _ 132 (11, [some (.ref _), some (.int _), some (.int _), some (.int _), some (.int _), some (.int _), none, none], [.int _], _) _
          refine w_t (pc := 11) (e_s := (15, 3, 16, 1, 0, .null, [])) (y_s := (16, [some (.ref _), some (.int _), some (.int _), some (.int _), some (.int _), some (.int _), none, none], [], _)) rfl (u_ rfl) ?_
          refine w_t (pc := 16) (e_s := (3, 1, 0, 0, 0, .null, [])) (y_s := (17, [some (.ref _), some (.int _), some (.int _), some (.int _), some (.int _), some (.int _), none, none], [.ref _], _)) rfl (u_ rfl) ?_
          refine w20r (pc := 17) (len_s := 3) (q_s := 71) rfl (krq hk rfl) ?_
          refine w_t (pc := 20) (e_s := (1, 1, 1, 0, 0, .null, [])) (y_s := (21, [some (.ref _), some (.int _), some (.int _), some (.int _), some (.int _), some (.int _), none, none], [.int _, .ref _], _)) rfl (u_ rfl) ?_
          refine w24 (g_s := fun j_ => 76 + 2 * j_) (pc := 21) (len_s := 1) hk rfl (hk.1 71 4 6 rfl rfl) kg71 (fun c5_s => ?_)
          replace t_s := t_s c5_s
          refine w_t (pc := 22) (e_s := (6, 2, 6, 0, 0, .null, [])) (y_s := (24, [some (.ref _), some (.int _), some (.int _), some (.int _), some (.int _), some (.int _), some (.ref _), none], [], _)) rfl (u_ rfl) ?_
          refine w_t (pc := 24) (e_s := (3, 1, 0, 0, 0, .null, [])) (y_s := (25, [some (.ref _), some (.int _), some (.int _), some (.int _), some (.int _), some (.int _), some (.ref _), none], [.ref _], _)) rfl (u_ rfl) ?_
          refine w20r (pc := 25) (len_s := 3) (q_s := 71) rfl (krq hk rfl) ?_
          refine w_t (pc := 28) (e_s := (1, 1, 3, 0, 0, .null, [])) (y_s := (29, [some (.ref _), some (.int _), some (.int _), some (.int _), some (.int _), some (.int _), some (.ref _), none], [.int _, .ref _], _)) rfl (u_ rfl) ?_
          refine w24 (g_s := fun j_ => 76 + 2 * j_) (pc := 29) (len_s := 1) hk rfl (hk.1 71 4 6 rfl rfl) kg71 (fun c6_s => ?_)
          replace t_s := t_s c6_s
          refine w_t (pc := 30) (e_s := (6, 2, 7, 0, 0, .null, [])) (y_s := (32, [some (.ref _), some (.int _), some (.int _), some (.int _), some (.int _), some (.int _), some (.ref _), some (.ref _)], [], _)) rfl (u_ rfl) ?_
          refine w_t (pc := 32) (e_s := (3, 2, 6, 0, 0, .null, [])) (y_s := (34, [some (.ref _), some (.int _), some (.int _), some (.int _), some (.int _), some (.int _), some (.ref _), some (.ref _)], [.ref _], _)) rfl (u_ rfl) ?_
          refine w20 (pc := 34) (len_s := 3) rfl ?_
          refine wq0 (pc := 37) (len_s := 3) rfl rfl (fun c7_s => ?_) (fun c7_s => ?_)
          · replace t_s := t_s.1 c7_s
            refine w_t (pc := 48) (e_s := (0, 2, 0, 0, 0, .int (-11), [])) (y_s := (50, [some (.ref _), some (.int _), some (.int _), some (.int _), some (.int _), some (.int _), some (.ref _), some (.ref _)], [.int _], _)) rfl (u_ rfl) ?_
            exact wrI (pc := 50) (len_s := 1) rfl hk t_s
          · replace t_s := t_s.2 c7_s
            refine w_t (pc := 40) (e_s := (3, 2, 7, 0, 0, .null, [])) (y_s := (42, [some (.ref _), some (.int _), some (.int _), some (.int _), some (.int _), some (.int _), some (.ref _), some (.ref _)], [.ref _], _)) rfl (u_ rfl) ?_
            refine w20 (pc := 42) (len_s := 3) rfl ?_
            refine wq1 (pc := 45) (len_s := 3) rfl rfl (fun c8_s => ?_) (fun c8_s => ?_)
            · replace t_s := t_s.1 c8_s
              refine w_t (pc := 48) (e_s := (0, 2, 0, 0, 0, .int (-11), [])) (y_s := (50, [some (.ref _), some (.int _), some (.int _), some (.int _), some (.int _), some (.int _), some (.ref _), some (.ref _)], [.int _], _)) rfl (u_ rfl) ?_
              exact wrI (pc := 50) (len_s := 1) rfl hk t_s
            · replace t_s := t_s.2 c8_s
              refine w_t (pc := 51) (e_s := (3, 2, 6, 0, 0, .null, [])) (y_s := (53, [some (.ref _), some (.int _), some (.int _), some (.int _), some (.int _), some (.int _), some (.ref _), some (.ref _)], [.ref _], _)) rfl (u_ rfl) ?_
              refine w20 (pc := 53) (len_s := 3) rfl ?_
              refine w_t (pc := 56) (e_s := (0, 1, 0, 0, 0, .int 2, [])) (y_s := (57, [some (.ref _), some (.int _), some (.int _), some (.int _), some (.int _), some (.int _), some (.ref _), some (.ref _)], [.int _, .int _], _)) rfl (u_ rfl) ?_
              refine wi1 (pc := 57) (len_s := 3) (Y := 2) rfl rfl (by decide) (fun c9_s => ?_) (fun c9_s => ?_)
              · replace t_s := t_s.1 c9_s
                refine w_t (pc := 60) (e_s := (3, 2, 7, 0, 0, .null, [])) (y_s := (62, [some (.ref _), some (.int _), some (.int _), some (.int _), some (.int _), some (.int _), some (.ref _), some (.ref _)], [.ref _], _)) rfl (u_ rfl) ?_
                refine w20 (pc := 62) (len_s := 3) rfl ?_
                refine w_t (pc := 65) (e_s := (0, 1, 0, 0, 0, .int 2, [])) (y_s := (66, [some (.ref _), some (.int _), some (.int _), some (.int _), some (.int _), some (.int _), some (.ref _), some (.ref _)], [.int _, .int _], _)) rfl (u_ rfl) ?_
                refine wi1 (pc := 66) (len_s := 3) (Y := 2) rfl rfl (by decide) (fun c10_s => ?_) (fun c10_s => ?_)
                · replace t_s := t_s.1 c10_s
                  refine w_t (pc := 69) (e_s := (3, 2, 6, 0, 0, .null, [])) (y_s := (71, [some (.ref _), some (.int _), some (.int _), some (.int _), some (.int _), some (.int _), some (.ref _), some (.ref _)], [.ref _], _)) rfl (u_ rfl) ?_
                  refine w20 (pc := 71) (len_s := 3) rfl ?_
                  refine w_t (pc := 74) (e_s := (3, 2, 7, 0, 0, .null, [])) (y_s := (76, [some (.ref _), some (.int _), some (.int _), some (.int _), some (.int _), some (.int _), some (.ref _), some (.ref _)], [.ref _, .int _], _)) rfl (u_ rfl) ?_
                  refine w20 (pc := 76) (len_s := 3) rfl ?_
                  refine wi0 (pc := 79) (len_s := 3) rfl rfl rfl (fun c11 => ?_) (fun c11 => ?_)
                  · replace t_s := t_s.1 c11
                    refine w_t (pc := 85) (e_s := (1, 2, 5, 0, 0, .null, [])) (y_s := (87, [some (.ref _), some (.int _), some (.int _), some (.int _), some (.int _), some (.int _), some (.ref _), some (.ref _)], [.int _], _)) rfl (u_ rfl) ?_
                    refine wq2 (pc := 87) (len_s := 3) rfl rfl (fun c12_s => ?_) (fun c12_s => ?_)
                    · replace t_s := t_s.1 c12_s
                      refine w_t (pc := 113) (e_s := (0, 2, 0, 0, 0, .int (-13), [])) (y_s := (115, [some (.ref _), some (.int _), some (.int _), some (.int _), some (.int _), some (.int _), some (.ref _), some (.ref _)], [.int _], _)) rfl (u_ rfl) ?_
                      exact wrI (pc := 115) (len_s := 1) rfl hk t_s
                    · replace t_s := t_s.2 c12_s
                      refine w_t (pc := 90) (e_s := (3, 2, 6, 0, 0, .null, [])) (y_s := (92, [some (.ref _), some (.int _), some (.int _), some (.int _), some (.int _), some (.int _), some (.ref _), some (.ref _)], [.ref _], _)) rfl (u_ rfl) ?_
                      refine w_t (pc := 92) (e_s := (1, 1, 2, 0, 0, .null, [])) (y_s := (93, [some (.ref _), some (.int _), some (.int _), some (.int _), some (.int _), some (.int _), some (.ref _), some (.ref _)], [.int _, .ref _], _)) rfl (u_ rfl) ?_
                      refine w_t (pc := 93) (e_s := (1, 2, 5, 0, 0, .null, [])) (y_s := (95, [some (.ref _), some (.int _), some (.int _), some (.int _), some (.int _), some (.int _), some (.ref _), some (.ref _)], [.int _, .int _, .ref _], _)) rfl (u_ rfl) ?_
                      refine wcI (pc := 95) (len_s := 3) rfl rfl (l := [some (.ref _), some (.int _), some (.int _)]) rfl ?_
                      refine w_t (pc := 0) (e_s := (1, 1, 1, 0, 0, .null, [])) (y_s := (1, [some (.ref _), some (.int _), some (.int _)], [.int _], _)) rfl (u_ rfl) ?_
                      refine wq2 (pc := 1) (len_s := 3) rfl rfl (fun c13_s => ?_) (fun c13_s => ?_)
                      · replace t_s := t_s.1 c13_s
                        refine w_t (pc := 26) (e_s := (0, 1, 0, 0, 0, .int 0, [])) (y_s := (27, [some (.ref _), some (.int _), some (.int _)], [.int _], _)) rfl (u_ rfl) ?_
                        refine wrI (pc := 27) (len_s := 1) rfl hk ?_
                        show wF _ 132 (98, [some (.ref _), some (.int _), some (.int _), some (.int _), some (.int _), some (.int _), some (.ref _), some (.ref _)], [.int _], _) _
                        refine w_t (pc := 98) (e_s := (15, 3, 113, 0, 0, .null, [])) (y_s := (113, [some (.ref _), some (.int _), some (.int _), some (.int _), some (.int _), some (.int _), some (.ref _), some (.ref _)], [], _)) rfl (u_ rfl) ?_
                        refine w_t (pc := 113) (e_s := (0, 2, 0, 0, 0, .int (-13), [])) (y_s := (115, [some (.ref _), some (.int _), some (.int _), some (.int _), some (.int _), some (.int _), some (.ref _), some (.ref _)], [.int _], _)) rfl (u_ rfl) ?_
                        exact wrI (pc := 115) (len_s := 1) rfl hk t_s
                      · replace t_s := t_s.2 c13_s
                        refine w_t (pc := 4) (e_s := (1, 1, 1, 0, 0, .null, [])) (y_s := (5, [some (.ref _), some (.int _), some (.int _)], [.int _], _)) rfl (u_ rfl) ?_
                        refine w_t (pc := 5) (e_s := (3, 1, 0, 0, 0, .null, [])) (y_s := (6, [some (.ref _), some (.int _), some (.int _)], [.ref _, .int _], _)) rfl (u_ rfl) ?_
                        refine w20 (pc := 6) (len_s := 3) rfl ?_
                        refine wi4 (pc := 9) (len_s := 3) rfl rfl rfl (fun c14_s => ?_) (fun c14_s => ?_)
                        · replace t_s := t_s.1 c14_s
                          refine w_t (pc := 26) (e_s := (0, 1, 0, 0, 0, .int 0, [])) (y_s := (27, [some (.ref _), some (.int _), some (.int _)], [.int _], _)) rfl (u_ rfl) ?_
                          refine wrI (pc := 27) (len_s := 1) rfl hk ?_
                          show wF _ 132 (98, [some (.ref _), some (.int _), some (.int _), some (.int _), some (.int _), some (.int _), some (.ref _), some (.ref _)], [.int _], _) _
                          refine w_t (pc := 98) (e_s := (15, 3, 113, 0, 0, .null, [])) (y_s := (113, [some (.ref _), some (.int _), some (.int _), some (.int _), some (.int _), some (.int _), some (.ref _), some (.ref _)], [], _)) rfl (u_ rfl) ?_
                          refine w_t (pc := 113) (e_s := (0, 2, 0, 0, 0, .int (-13), [])) (y_s := (115, [some (.ref _), some (.int _), some (.int _), some (.int _), some (.int _), some (.int _), some (.ref _), some (.ref _)], [.int _], _)) rfl (u_ rfl) ?_
                          exact wrI (pc := 115) (len_s := 1) rfl hk t_s
                        · replace t_s := t_s.2 c14_s
                          refine w_t (pc := 12) (e_s := (1, 1, 2, 0, 0, .null, [])) (y_s := (13, [some (.ref _), some (.int _), some (.int _)], [.int _], _)) rfl (u_ rfl) ?_
                          refine w_t (pc := 13) (e_s := (3, 1, 0, 0, 0, .null, [])) (y_s := (14, [some (.ref _), some (.int _), some (.int _)], [.ref _, .int _], _)) rfl (u_ rfl) ?_
                          refine w20 (pc := 14) (len_s := 3) rfl ?_
                          refine w_t (pc := 17) (e_s := (1, 1, 1, 0, 0, .null, [])) (y_s := (18, [some (.ref _), some (.int _), some (.int _)], [.int _, .int _, .int _], _)) rfl (u_ rfl) ?_
                          refine w_t (pc := 18) (e_s := (7, 1, 0, 1, 0, .null, [])) (y_s := (19, [some (.ref _), some (.int _), some (.int _)], [.int (_ - _), .int _], _)) rfl (u_ rfl) ?_
                          refine wi4 (pc := 19) (len_s := 3) rfl rfl rfl (fun c15_s => ?_) (fun c15_s => ?_)
                          · replace t_s := t_s.1 c15_s
                            refine w_t (pc := 26) (e_s := (0, 1, 0, 0, 0, .int 0, [])) (y_s := (27, [some (.ref _), some (.int _), some (.int _)], [.int _], _)) rfl (u_ rfl) ?_
                            refine wrI (pc := 27) (len_s := 1) rfl hk ?_
                            show wF _ 132 (98, [some (.ref _), some (.int _), some (.int _), some (.int _), some (.int _), some (.int _), some (.ref _), some (.ref _)], [.int _], _) _
                            refine w_t (pc := 98) (e_s := (15, 3, 113, 0, 0, .null, [])) (y_s := (113, [some (.ref _), some (.int _), some (.int _), some (.int _), some (.int _), some (.int _), some (.ref _), some (.ref _)], [], _)) rfl (u_ rfl) ?_
                            refine w_t (pc := 113) (e_s := (0, 2, 0, 0, 0, .int (-13), [])) (y_s := (115, [some (.ref _), some (.int _), some (.int _), some (.int _), some (.int _), some (.int _), some (.ref _), some (.ref _)], [.int _], _)) rfl (u_ rfl) ?_
                            exact wrI (pc := 115) (len_s := 1) rfl hk t_s
                          · replace t_s := t_s.2 c15_s
                            refine w_t (pc := 22) (e_s := (0, 1, 0, 0, 0, .int 1, [])) (y_s := (23, [some (.ref _), some (.int _), some (.int _)], [.int _], _)) rfl (u_ rfl) ?_
                            refine w_t (pc := 23) (e_s := (17, 3, 27, 0, 0, .null, [])) (y_s := (27, [some (.ref _), some (.int _), some (.int _)], [.int _], _)) rfl (u_ rfl) ?_
                            refine wrI (pc := 27) (len_s := 1) rfl hk ?_
                            show wF _ 132 (98, [some (.ref _), some (.int _), some (.int _), some (.int _), some (.int _), some (.int _), some (.ref _), some (.ref _)], [.int _], _) _
                            refine w_t (pc := 98) (e_s := (15, 3, 113, 0, 0, .null, [])) (y_s := (101, [some (.ref _), some (.int _), some (.int _), some (.int _), some (.int _), some (.int _), some (.ref _), some (.ref _)], [], _)) rfl (u_ rfl) ?_
                            refine w_t (pc := 101) (e_s := (3, 2, 7, 0, 0, .null, [])) (y_s := (103, [some (.ref _), some (.int _), some (.int _), some (.int _), some (.int _), some (.int _), some (.ref _), some (.ref _)], [.ref _], _)) rfl (u_ rfl) ?_
                            refine w_t (pc := 103) (e_s := (1, 2, 4, 0, 0, .null, [])) (y_s := (105, [some (.ref _), some (.int _), some (.int _), some (.int _), some (.int _), some (.int _), some (.ref _), some (.ref _)], [.int _, .ref _], _)) rfl (u_ rfl) ?_
                            refine w_t (pc := 105) (e_s := (1, 2, 5, 0, 0, .null, [])) (y_s := (107, [some (.ref _), some (.int _), some (.int _), some (.int _), some (.int _), some (.int _), some (.ref _), some (.ref _)], [.int _, .int _, .ref _], _)) rfl (u_ rfl) ?_
                            refine wcI (pc := 107) (len_s := 3) rfl rfl (l := [some (.ref _), some (.int _), some (.int _)]) rfl ?_
                            refine w_t (pc := 0) (e_s := (1, 1, 1, 0, 0, .null, [])) (y_s := (1, [some (.ref _), some (.int _), some (.int _)], [.int _], _)) rfl (u_ rfl) ?_
                            refine wq2 (pc := 1) (len_s := 3) rfl rfl (fun c16 => ?_) (fun c16 => ?_)
                            · replace t_s := t_s.1 c16
                              refine w_t (pc := 26) (e_s := (0, 1, 0, 0, 0, .int 0, [])) (y_s := (27, [some (.ref _), some (.int _), some (.int _)], [.int _], _)) rfl (u_ rfl) ?_
                              refine wrI (pc := 27) (len_s := 1) rfl hk ?_
                              show wF _ 132 (110, [some (.ref _), some (.int _), some (.int _), some (.int _), some (.int _), some (.int _), some (.ref _), some (.ref _)], [.int _], _) _
                              refine w_t (pc := 110) (e_s := (15, 3, 116, 1, 0, .null, [])) (y_s := (113, [some (.ref _), some (.int _), some (.int _), some (.int _), some (.int _), some (.int _), some (.ref _), some (.ref _)], [], _)) rfl (u_ rfl) ?_
                              refine w_t (pc := 113) (e_s := (0, 2, 0, 0, 0, .int (-13), [])) (y_s := (115, [some (.ref _), some (.int _), some (.int _), some (.int _), some (.int _), some (.int _), some (.ref _), some (.ref _)], [.int _], _)) rfl (u_ rfl) ?_
                              exact wrI (pc := 115) (len_s := 1) rfl hk t_s
                            · replace t_s := t_s.2 c16
                              refine w_t (pc := 4) (e_s := (1, 1, 1, 0, 0, .null, [])) (y_s := (5, [some (.ref _), some (.int _), some (.int _)], [.int _], _)) rfl (u_ rfl) ?_
                              refine w_t (pc := 5) (e_s := (3, 1, 0, 0, 0, .null, [])) (y_s := (6, [some (.ref _), some (.int _), some (.int _)], [.ref _, .int _], _)) rfl (u_ rfl) ?_
                              refine w20 (pc := 6) (len_s := 3) rfl ?_
                              refine wi4 (pc := 9) (len_s := 3) rfl rfl rfl (fun c17 => ?_) (fun c17 => ?_)
                              · replace t_s := t_s.1 c17
                                refine w_t (pc := 26) (e_s := (0, 1, 0, 0, 0, .int 0, [])) (y_s := (27, [some (.ref _), some (.int _), some (.int _)], [.int _], _)) rfl (u_ rfl) ?_
                                refine wrI (pc := 27) (len_s := 1) rfl hk ?_
                                show wF _ 132 (110, [some (.ref _), some (.int _), some (.int _), some (.int _), some (.int _), some (.int _), some (.ref _), some (.ref _)], [.int _], _) _
                                refine w_t (pc := 110) (e_s := (15, 3, 116, 1, 0, .null, [])) (y_s := (113, [some (.ref _), some (.int _), some (.int _), some (.int _), some (.int _), some (.int _), some (.ref _), some (.ref _)], [], _)) rfl (u_ rfl) ?_
                                refine w_t (pc := 113) (e_s := (0, 2, 0, 0, 0, .int (-13), [])) (y_s := (115, [some (.ref _), some (.int _), some (.int _), some (.int _), some (.int _), some (.int _), some (.ref _), some (.ref _)], [.int _], _)) rfl (u_ rfl) ?_
                                exact wrI (pc := 115) (len_s := 1) rfl hk t_s
                              · replace t_s := t_s.2 c17
                                refine w_t (pc := 12) (e_s := (1, 1, 2, 0, 0, .null, [])) (y_s := (13, [some (.ref _), some (.int _), some (.int _)], [.int _], _)) rfl (u_ rfl) ?_
                                refine w_t (pc := 13) (e_s := (3, 1, 0, 0, 0, .null, [])) (y_s := (14, [some (.ref _), some (.int _), some (.int _)], [.ref _, .int _], _)) rfl (u_ rfl) ?_
                                refine w20 (pc := 14) (len_s := 3) rfl ?_
                                refine w_t (pc := 17) (e_s := (1, 1, 1, 0, 0, .null, [])) (y_s := (18, [some (.ref _), some (.int _), some (.int _)], [.int _, .int _, .int _], _)) rfl (u_ rfl) ?_
                                refine w_t (pc := 18) (e_s := (7, 1, 0, 1, 0, .null, [])) (y_s := (19, [some (.ref _), some (.int _), some (.int _)], [.int (_ - _), .int _], _)) rfl (u_ rfl) ?_
                                refine wi4 (pc := 19) (len_s := 3) rfl rfl rfl (fun c18_s => ?_) (fun c18_s => ?_)
                                · replace t_s := t_s.1 c18_s
                                  refine w_t (pc := 26) (e_s := (0, 1, 0, 0, 0, .int 0, [])) (y_s := (27, [some (.ref _), some (.int _), some (.int _)], [.int _], _)) rfl (u_ rfl) ?_
                                  refine wrI (pc := 27) (len_s := 1) rfl hk ?_
                                  show wF _ 132 (110, [some (.ref _), some (.int _), some (.int _), some (.int _), some (.int _), some (.int _), some (.ref _), some (.ref _)], [.int _], _) _
                                  refine w_t (pc := 110) (e_s := (15, 3, 116, 1, 0, .null, [])) (y_s := (113, [some (.ref _), some (.int _), some (.int _), some (.int _), some (.int _), some (.int _), some (.ref _), some (.ref _)], [], _)) rfl (u_ rfl) ?_
                                  refine w_t (pc := 113) (e_s := (0, 2, 0, 0, 0, .int (-13), [])) (y_s := (115, [some (.ref _), some (.int _), some (.int _), some (.int _), some (.int _), some (.int _), some (.ref _), some (.ref _)], [.int _], _)) rfl (u_ rfl) ?_
                                  exact wrI (pc := 115) (len_s := 1) rfl hk t_s
                                · replace t_s := t_s.2 c18_s
                                  refine w_t (pc := 22) (e_s := (0, 1, 0, 0, 0, .int 1, [])) (y_s := (23, [some (.ref _), some (.int _), some (.int _)], [.int _], _)) rfl (u_ rfl) ?_
                                  refine w_t (pc := 23) (e_s := (17, 3, 27, 0, 0, .null, [])) (y_s := (27, [some (.ref _), some (.int _), some (.int _)], [.int _], _)) rfl (u_ rfl) ?_
                                  refine wrI (pc := 27) (len_s := 1) rfl hk ?_
                                  show wF _ 132 (110, [some (.ref _), some (.int _), some (.int _), some (.int _), some (.int _), some (.int _), some (.ref _), some (.ref _)], [.int _], _) _
                                  refine w_t (pc := 110) (e_s := (15, 3, 116, 1, 0, .null, [])) (y_s := (116, [some (.ref _), some (.int _), some (.int _), some (.int _), some (.int _), some (.int _), some (.ref _), some (.ref _)], [], _)) rfl (u_ rfl) ?_
                                  refine w_t (pc := 116) (e_s := (3, 2, 6, 0, 0, .null, [])) (y_s := (118, [some (.ref _), some (.int _), some (.int _), some (.int _), some (.int _), some (.int _), some (.ref _), some (.ref _)], [.ref _], _)) rfl (u_ rfl) ?_
                                  refine w20r (pc := 118) (len_s := 3) (q_s := 76 + 2 * (zix x1_s) + 1) rfl (kshc hk c5_s) ?_
                                  refine w_t (pc := 121) (e_s := (1, 1, 2, 0, 0, .null, [])) (y_s := (122, [some (.ref _), some (.int _), some (.int _), some (.int _), some (.int _), some (.int _), some (.ref _), some (.ref _)], [.int _, .ref _], _)) rfl (u_ rfl) ?_
                                  refine w_t (pc := 122) (e_s := (3, 2, 7, 0, 0, .null, [])) (y_s := (124, [some (.ref _), some (.int _), some (.int _), some (.int _), some (.int _), some (.int _), some (.ref _), some (.ref _)], [.ref _, .int _, .ref _], _)) rfl (u_ rfl) ?_
                                  refine w20r (pc := 124) (len_s := 3) (q_s := 76 + 2 * (zix x3) + 1) rfl (kshc hk c6_s) ?_
                                  refine w_t (pc := 127) (e_s := (1, 2, 4, 0, 0, .null, [])) (y_s := (129, [some (.ref _), some (.int _), some (.int _), some (.int _), some (.int _), some (.int _), some (.ref _), some (.ref _)], [.int _, .ref _, .int _, .ref _], _)) rfl (u_ rfl) ?_
                                  refine w_t (pc := 129) (e_s := (1, 2, 5, 0, 0, .null, [])) (y_s := (131, [some (.ref _), some (.int _), some (.int _), some (.int _), some (.int _), some (.int _), some (.ref _), some (.ref _)], [.int _, .int _, .ref _, .int _, .ref _], _)) rfl (u_ rfl) ?_
                                  refine w34l (pc := 131) (len_s := 3) rfl (kshz hk c5_s) (kshz hk c6_s) (fun c19_s => ?_)
                                  replace t_s := t_s c19_s
                                  refine w_t (pc := 134) (e_s := (1, 2, 5, 0, 0, .null, [])) (y_s := (136, [some (.ref _), some (.int _), some (.int _), some (.int _), some (.int _), some (.int _), some (.ref _), some (.ref _)], [.int _], _)) rfl (u_ rfl) ?_
                                  exact wrI (pc := 136) (len_s := 1) rfl hk t_s
                  · replace t_s := t_s.2 c11
                    refine w_t (pc := 82) (e_s := (0, 2, 0, 0, 0, .int (-12), [])) (y_s := (84, [some (.ref _), some (.int _), some (.int _), some (.int _), some (.int _), some (.int _), some (.ref _), some (.ref _)], [.int _], _)) rfl (u_ rfl) ?_
                    exact wrI (pc := 84) (len_s := 1) rfl hk t_s
                · replace t_s := t_s.2 c10_s
                  refine w_t (pc := 82) (e_s := (0, 2, 0, 0, 0, .int (-12), [])) (y_s := (84, [some (.ref _), some (.int _), some (.int _), some (.int _), some (.int _), some (.int _), some (.ref _), some (.ref _)], [.int _], _)) rfl (u_ rfl) ?_
                  exact wrI (pc := 84) (len_s := 1) rfl hk t_s
              · replace t_s := t_s.2 c9_s
                refine w_t (pc := 82) (e_s := (0, 2, 0, 0, 0, .int (-12), [])) (y_s := (84, [some (.ref _), some (.int _), some (.int _), some (.int _), some (.int _), some (.int _), some (.ref _), some (.ref _)], [.int _], _)) rfl (u_ rfl) ?_
                exact wrI (pc := 84) (len_s := 1) rfl hk t_s
        · replace t_s := t_s.2 c4_s
          refine w_t (pc := 14) (e_s := (0, 1, 0, 0, 0, .int 0, [])) (y_s := (15, [some (.int _)], [.int _], _)) rfl (u_ rfl) ?_
          refine wrI (pc := 15) (len_s := 1) rfl hk ?_
          show wF _ 132 (11, [some (.ref _), some (.int _), some (.int _), some (.int _), some (.int _), some (.int _), none, none], [.int _], _) _
          refine w_t (pc := 11) (e_s := (15, 3, 16, 1, 0, .null, [])) (y_s := (14, [some (.ref _), some (.int _), some (.int _), some (.int _), some (.int _), some (.int _), none, none], [], _)) rfl (u_ rfl) ?_
          refine w_t (pc := 14) (e_s := (0, 1, 0, 0, 0, .int (-1), [])) (y_s := (15, [some (.ref _), some (.int _), some (.int _), some (.int _), some (.int _), some (.int _), none, none], [.int _], _)) rfl (u_ rfl) ?_
          exact wrI (pc := 15) (len_s := 1) rfl hk t_s
    · replace t_s := t_s.2 c2_s
      refine w_t (pc := 14) (e_s := (0, 1, 0, 0, 0, .int 0, [])) (y_s := (15, [some (.int _)], [.int _], _)) rfl (u_ rfl) ?_
      refine wrI (pc := 15) (len_s := 1) rfl hk ?_
      show wF _ 132 (4, [some (.ref _), some (.int _), some (.int _), some (.int _), some (.int _), some (.int _), none, none], [.int _], _) _
      refine w_t (pc := 4) (e_s := (15, 3, 14, 0, 0, .null, [])) (y_s := (14, [some (.ref _), some (.int _), some (.int _), some (.int _), some (.int _), some (.int _), none, none], [], _)) rfl (u_ rfl) ?_
      refine w_t (pc := 14) (e_s := (0, 1, 0, 0, 0, .int (-1), [])) (y_s := (15, [some (.ref _), some (.int _), some (.int _), some (.int _), some (.int _), some (.int _), none, none], [.int _], _)) rfl (u_ rfl) ?_
      exact wrI (pc := 15) (len_s := 1) rfl hk t_s
/-- java/util/Arrays.fill([JJ)V, from 0 on -/
theorem sg_239_0 {F_s : Nat} {o m_s : Nat} {y1 : Int64} {h_s : zH} {K_s : zH → Prop} (hz : zget h_s.1 o = some (1, m_s)) (hk : hKn h_s) (t_s : wF F_s 239 (6, [some (.ref o), some (.long y1), none, some (.int 0), some (.int (Int32.ofNat m_s))], [], h_s) (gV K_s)) : wF (F_s + 1) 239 (0, [some (.ref o), some (.long y1), none, none, none], [], h_s) (gV K_s) := by
  refine w_0 (pc := 0) (e_s := (0, 1, 0, 0, 0, .int 0, [])) (y_s := (1, [some (.ref _), some (.long _), none, none, none], [.int _], _)) rfl (u_ rfl) ?_
  refine w_t (pc := 1) (e_s := (4, 1, 3, 0, 0, .null, [])) (y_s := (2, [some (.ref _), some (.long _), none, some (.int _), none], [], _)) rfl (u_ rfl) ?_
  refine w_t (pc := 2) (e_s := (3, 1, 0, 0, 0, .null, [])) (y_s := (3, [some (.ref _), some (.long _), none, some (.int _), none], [.ref _], _)) rfl (u_ rfl) ?_
  refine w28 (pc := 3) (len_s := 1) rfl hz ?_
  refine w_t (pc := 4) (e_s := (4, 2, 4, 0, 0, .null, [])) (y_s := (6, [some (.ref _), some (.long _), none, some (.int _), some (.int _)], [], _)) rfl (u_ rfl) ?_
  exact t_s
/-- java/util/Arrays.fill([JJ)V, from 6 on -/
theorem sg_239_6 {F_s : Nat} {o m_s : Nat} {y1 : Int64} {x3 x4_s : Int32} {h_s : zH} {K_s : zH → Prop} (hz : zget h_s.1 o = some (1, m_s)) (hk : hKn h_s) (t_s : (x3.toInt < x4_s.toInt → (zix x3 < m_s → wF F_s 239 (6, [some (.ref o), some (.long y1), none, some (.int (x3 + 1)), some (.int x4_s)], [], (h_s.1, h_s.2.1, zup h_s.2.2.1 o (zix x3) y1, h_s.2.2.2)) (gV K_s))) ∧ (¬ x3.toInt < x4_s.toInt → K_s h_s)) : wF (F_s + 1) 239 (6, [some (.ref o), some (.long y1), none, some (.int x3), some (.int x4_s)], [], h_s) (gV K_s) := by
  refine w_0 (pc := 6) (e_s := (1, 1, 3, 0, 0, .null, [])) (y_s := (7, [some (.ref _), some (.long _), none, some (.int _), some (.int _)], [.int _], _)) rfl (u_ rfl) ?_
  refine w_t (pc := 7) (e_s := (1, 2, 4, 0, 0, .null, [])) (y_s := (9, [some (.ref _), some (.long _), none, some (.int _), some (.int _)], [.int _, .int _], _)) rfl (u_ rfl) ?_
  refine wi3 (pc := 9) (len_s := 3) rfl rfl rfl (fun c1_s => ?_) (fun c1_s => ?_)
  · replace t_s := t_s.1 c1_s
    refine w_t (pc := 12) (e_s := (3, 1, 0, 0, 0, .null, [])) (y_s := (13, [some (.ref _), some (.long _), none, some (.int _), some (.int _)], [.ref _], _)) rfl (u_ rfl) ?_
    refine w_t (pc := 13) (e_s := (1, 1, 3, 0, 0, .null, [])) (y_s := (14, [some (.ref _), some (.long _), none, some (.int _), some (.int _)], [.int _, .ref _], _)) rfl (u_ rfl) ?_
    refine w_t (pc := 14) (e_s := (2, 1, 1, 0, 0, .null, [])) (y_s := (15, [some (.ref _), some (.long _), none, some (.int _), some (.int _)], [.long _, .int _, .ref _], _)) rfl (u_ rfl) ?_
    refine w26 (pc := 15) (len_s := 1) rfl hz (fun c2_s => ?_)
    replace t_s := t_s c2_s
    refine w_t (pc := 16) (e_s := (19, 3, 3, 0, 0, .int 1, [])) (y_s := (19, [some (.ref _), some (.long _), none, some (.int _), some (.int _)], [], _)) rfl (u_ rfl) ?_
    refine w_t (pc := 19) (e_s := (17, 3, 6, 0, 0, .null, [])) (y_s := (6, [some (.ref _), some (.long _), none, some (.int _), some (.int _)], [], _)) rfl (u_ rfl) ?_
    exact t_s
  · replace t_s := t_s.2 c1_s
    exact wrV (pc := 22) (len_s := 1) rfl hk t_s
/-- ColdShod.row(III)I, from 0 on -/
theorem sg_129_0 {F_s : Nat} {x1_s : Int32} {x2_s : Int32} {x3 : Int32} {h_s : zH} {K_s : Int32 → zH → Prop} (hk : hKn h_s) (t_s : (x1_s.toInt < 0 → K_s (-1) h_s) ∧ (¬ x1_s.toInt < 0 → ((x1_s.toInt < 6 → ((x2_s.toInt < 0 → K_s (-1) h_s) ∧ (¬ x2_s.toInt < 0 → ((4 < x2_s.toInt → K_s (-1) h_s) ∧ (¬ 4 < x2_s.toInt → ((60 < x3.toInt → K_s (-1) h_s) ∧ (¬ 60 < x3.toInt → ((x3.toInt < 0 → K_s (-14) h_s) ∧ (¬ x3.toInt < 0 → (zix x1_s < 6 → wF F_s 239 (0, [some (.ref (76 + 2 * (zix x1_s) + 1)), some (.long 0), none, none, none], [], (h_s.1, zup (zup (zup h_s.2.1 (76 + 2 * (zix x1_s)) 0 2) (76 + 2 * (zix x1_s)) 2 x2_s) (76 + 2 * (zix x1_s)) 3 x3, h_s.2.2.1, h_s.2.2.2)) (gV (fun h8 => hKn h8 → K_s 1 h8)))))))))))) ∧ (¬ x1_s.toInt < 6 → K_s (-1) h_s)))) : wF (F_s + 1) 129 (0, [some (.ref 6), some (.int x1_s), some (.int x2_s), some (.int x3)], [], h_s) (gI K_s) := by
  refine w_0 (pc := 0) (e_s := (1, 1, 1, 0, 0, .null, [])) (y_s := (1, [some (.ref _), some (.int _), some (.int _), some (.int _)], [.int _], _)) rfl (u_ rfl) ?_
  refine wcI (pc := 1) (len_s := 3) rfl rfl (l := [some (.int _)]) rfl ?_
  refine w_t (pc := 0) (e_s := (1, 1, 0, 0, 0, .null, [])) (y_s := (1, [some (.int _)], [.int _], _)) rfl (u_ rfl) ?_
  refine wq2 (pc := 1) (len_s := 3) rfl rfl (fun c1_s => ?_) (fun c1_s => ?_)
  · replace t_s := t_s.1 c1_s
    refine w_t (pc := 14) (e_s := (0, 1, 0, 0, 0, .int 0, [])) (y_s := (15, [some (.int _)], [.int _], _)) rfl (u_ rfl) ?_
    refine wrI (pc := 15) (len_s := 1) rfl hk ?_
    show wF _ 129 (4, [some (.ref _), some (.int _), some (.int _), some (.int _)], [.int _], _) _
    refine w_t (pc := 4) (e_s := (15, 3, 22, 0, 0, .null, [])) (y_s := (22, [some (.ref _), some (.int _), some (.int _), some (.int _)], [], _)) rfl (u_ rfl) ?_
    refine w_t (pc := 22) (e_s := (0, 1, 0, 0, 0, .int (-1), [])) (y_s := (23, [some (.ref _), some (.int _), some (.int _), some (.int _)], [.int _], _)) rfl (u_ rfl) ?_
    exact wrI (pc := 23) (len_s := 1) rfl hk t_s
  · replace t_s := t_s.2 c1_s
    refine w_t (pc := 4) (e_s := (1, 1, 0, 0, 0, .null, [])) (y_s := (5, [some (.int _)], [.int _], _)) rfl (u_ rfl) ?_
    refine w_t (pc := 5) (e_s := (0, 2, 0, 0, 0, .int 6, [])) (y_s := (7, [some (.int _)], [.int _, .int _], _)) rfl (u_ rfl) ?_
    refine wi3 (pc := 7) (len_s := 3) (Y := 6) rfl rfl (by decide) (fun c2_s => ?_) (fun c2_s => ?_)
    · replace t_s := t_s.1 c2_s
      refine w_t (pc := 10) (e_s := (0, 1, 0, 0, 0, .int 1, [])) (y_s := (11, [some (.int _)], [.int _], _)) rfl (u_ rfl) ?_
      refine w_t (pc := 11) (e_s := (17, 3, 15, 0, 0, .null, [])) (y_s := (15, [some (.int _)], [.int _], _)) rfl (u_ rfl) ?_
      refine wrI (pc := 15) (len_s := 1) rfl hk ?_
      show wF _ 129 (4, [some (.ref _), some (.int _), some (.int _), some (.int _)], [.int _], _) _
      refine w_t (pc := 4) (e_s := (15, 3, 22, 0, 0, .null, [])) (y_s := (7, [some (.ref _), some (.int _), some (.int _), some (.int _)], [], _)) rfl (u_ rfl) ?_
      refine w_t (pc := 7) (e_s := (1, 1, 2, 0, 0, .null, [])) (y_s := (8, [some (.ref _), some (.int _), some (.int _), some (.int _)], [.int _], _)) rfl (u_ rfl) ?_
      refine wq2 (pc := 8) (len_s := 3) rfl rfl (fun c3_s => ?_) (fun c3_s => ?_)
      · replace t_s := t_s.1 c3_s
        refine w_t (pc := 22) (e_s := (0, 1, 0, 0, 0, .int (-1), [])) (y_s := (23, [some (.ref _), some (.int _), some (.int _), some (.int _)], [.int _], _)) rfl (u_ rfl) ?_
        exact wrI (pc := 23) (len_s := 1) rfl hk t_s
      · replace t_s := t_s.2 c3_s
        refine w_t (pc := 11) (e_s := (1, 1, 2, 0, 0, .null, [])) (y_s := (12, [some (.ref _), some (.int _), some (.int _), some (.int _)], [.int _], _)) rfl (u_ rfl) ?_
        refine w_t (pc := 12) (e_s := (0, 1, 0, 0, 0, .int 4, [])) (y_s := (13, [some (.ref _), some (.int _), some (.int _), some (.int _)], [.int _, .int _], _)) rfl (u_ rfl) ?_
        refine wi4 (pc := 13) (len_s := 3) (Y := 4) rfl rfl (by decide) (fun c4_s => ?_) (fun c4_s => ?_)
        · replace t_s := t_s.1 c4_s
          refine w_t (pc := 22) (e_s := (0, 1, 0, 0, 0, .int (-1), [])) (y_s := (23, [some (.ref _), some (.int _), some (.int _), some (.int _)], [.int _], _)) rfl (u_ rfl) ?_
          exact wrI (pc := 23) (len_s := 1) rfl hk t_s
        · replace t_s := t_s.2 c4_s
          refine w_t (pc := 16) (e_s := (1, 1, 3, 0, 0, .null, [])) (y_s := (17, [some (.ref _), some (.int _), some (.int _), some (.int _)], [.int _], _)) rfl (u_ rfl) ?_
          refine w_t (pc := 17) (e_s := (0, 2, 0, 0, 0, .int 60, [])) (y_s := (19, [some (.ref _), some (.int _), some (.int _), some (.int _)], [.int _, .int _], _)) rfl (u_ rfl) ?_
          refine wi5 (pc := 19) (len_s := 3) (Y := 60) rfl rfl (by decide) (fun c5_s => ?_) (fun c5_s => ?_)
          · replace t_s := t_s.1 c5_s
            refine w_t (pc := 22) (e_s := (0, 1, 0, 0, 0, .int (-1), [])) (y_s := (23, [some (.ref _), some (.int _), some (.int _), some (.int _)], [.int _], _)) rfl (u_ rfl) ?_
            exact wrI (pc := 23) (len_s := 1) rfl hk t_s
          · replace t_s := t_s.2 c5_s
            refine w_t (pc := 24) (e_s := (1, 1, 3, 0, 0, .null, [])) (y_s := (25, [some (.ref _), some (.int _), some (.int _), some (.int _)], [.int _], _)) rfl (u_ rfl) ?_
            refine wq3 (pc := 25) (len_s := 3) rfl rfl (fun c6_s => ?_) (fun c6_s => ?_)
            · replace t_s := t_s.1 c6_s
              refine w_t (pc := 28) (e_s := (0, 2, 0, 0, 0, .int (-14), [])) (y_s := (30, [some (.ref _), some (.int _), some (.int _), some (.int _)], [.int _], _)) rfl (u_ rfl) ?_
              exact wrI (pc := 30) (len_s := 1) rfl hk t_s
            · replace t_s := t_s.2 c6_s
              refine w_t (pc := 31) (e_s := (3, 1, 0, 0, 0, .null, [])) (y_s := (32, [some (.ref _), some (.int _), some (.int _), some (.int _)], [.ref _], _)) rfl (u_ rfl) ?_
              refine w20r (pc := 32) (len_s := 3) (q_s := 71) rfl (krq hk rfl) ?_
              refine w_t (pc := 35) (e_s := (1, 1, 1, 0, 0, .null, [])) (y_s := (36, [some (.ref _), some (.int _), some (.int _), some (.int _)], [.int _, .ref _], _)) rfl (u_ rfl) ?_
              refine w24 (g_s := fun j_ => 76 + 2 * j_) (pc := 36) (len_s := 1) hk rfl (hk.1 71 4 6 rfl rfl) kg71 (fun c7_s => ?_)
              replace t_s := t_s c7_s
              refine w_t (pc := 37) (e_s := (1, 1, 2, 0, 0, .null, [])) (y_s := (38, [some (.ref _), some (.int _), some (.int _), some (.int _)], [.int _, .ref _], _)) rfl (u_ rfl) ?_
              refine w_t (pc := 38) (e_s := (1, 1, 3, 0, 0, .null, [])) (y_s := (39, [some (.ref _), some (.int _), some (.int _), some (.int _)], [.int _, .int _, .ref _], _)) rfl (u_ rfl) ?_
              refine wcV (pc := 39) (len_s := 3) rfl rfl (l := [some (.ref _), some (.int _), some (.int _)]) rfl ?_
              refine w_t (pc := 0) (e_s := (3, 1, 0, 0, 0, .null, [])) (y_s := (1, [some (.ref _), some (.int _), some (.int _)], [.ref _], _)) rfl (u_ rfl) ?_
              refine w_t (pc := 1) (e_s := (0, 1, 0, 0, 0, .int 2, [])) (y_s := (2, [some (.ref _), some (.int _), some (.int _)], [.int _, .ref _], _)) rfl (u_ rfl) ?_
              refine w21 (pc := 2) (len_s := 3) rfl ?_
              refine w_t (pc := 5) (e_s := (3, 1, 0, 0, 0, .null, [])) (y_s := (6, [some (.ref _), some (.int _), some (.int _)], [.ref _], _)) rfl (u_ rfl) ?_
              refine w_t (pc := 6) (e_s := (1, 1, 1, 0, 0, .null, [])) (y_s := (7, [some (.ref _), some (.int _), some (.int _)], [.int _, .ref _], _)) rfl (u_ rfl) ?_
              refine w21 (pc := 7) (len_s := 3) rfl ?_
              refine w_t (pc := 10) (e_s := (3, 1, 0, 0, 0, .null, [])) (y_s := (11, [some (.ref _), some (.int _), some (.int _)], [.ref _], _)) rfl (u_ rfl) ?_
              refine w_t (pc := 11) (e_s := (1, 1, 2, 0, 0, .null, [])) (y_s := (12, [some (.ref _), some (.int _), some (.int _)], [.int _, .ref _], _)) rfl (u_ rfl) ?_
              refine w21 (pc := 12) (len_s := 3) rfl ?_
              refine w_t (pc := 15) (e_s := (3, 1, 0, 0, 0, .null, [])) (y_s := (16, [some (.ref _), some (.int _), some (.int _)], [.ref _], _)) rfl (u_ rfl) ?_
              refine w20r (pc := 16) (len_s := 3) (q_s := 76 + 2 * (zix x1_s) + 1) rfl (kshc hk c7_s) ?_
              refine w_t (pc := 19) (e_s := (0, 1, 0, 0, 0, .long 0, [])) (y_s := (20, [some (.ref _), some (.int _), some (.int _)], [.long _, .ref _], _)) rfl (u_ rfl) ?_
              refine wcV (pc := 20) (len_s := 3) rfl rfl (l := [some (.ref _), some (.long _), none, none, none]) rfl (wmV t_s (fun h8 hk t_s => ?_))
              replace t_s := t_s hk
              refine wrV (pc := 23) (len_s := 1) rfl hk ?_
              show wF _ 129 (42, [some (.ref _), some (.int _), some (.int _), some (.int _)], [], _) _
              refine w_t (pc := 42) (e_s := (0, 1, 0, 0, 0, .int 1, [])) (y_s := (43, [some (.ref _), some (.int _), some (.int _), some (.int _)], [.int _], _)) rfl (u_ rfl) ?_
              exact wrI (pc := 43) (len_s := 1) rfl hk t_s
    · replace t_s := t_s.2 c2_s
      refine w_t (pc := 14) (e_s := (0, 1, 0, 0, 0, .int 0, [])) (y_s := (15, [some (.int _)], [.int _], _)) rfl (u_ rfl) ?_
      refine wrI (pc := 15) (len_s := 1) rfl hk ?_
      show wF _ 129 (4, [some (.ref _), some (.int _), some (.int _), some (.int _)], [.int _], _) _
      refine w_t (pc := 4) (e_s := (15, 3, 22, 0, 0, .null, [])) (y_s := (22, [some (.ref _), some (.int _), some (.int _), some (.int _)], [], _)) rfl (u_ rfl) ?_
      refine w_t (pc := 22) (e_s := (0, 1, 0, 0, 0, .int (-1), [])) (y_s := (23, [some (.ref _), some (.int _), some (.int _), some (.int _)], [.int _], _)) rfl (u_ rfl) ?_
      exact wrI (pc := 23) (len_s := 1) rfl hk t_s
/-- ColdShodModel.row(III)I, from 0 on -/
theorem sg_230_0 {F_s : Nat} {x1_s : Int32} {x2_s : Int32} {x3 : Int32} {h_s : zH} {K_s : Int32 → zH → Prop} (hk : hKn h_s) (t_s : (x1_s.toInt < 0 → K_s (-1) h_s) ∧ (¬ x1_s.toInt < 0 → ((5 < x1_s.toInt → K_s (-1) h_s) ∧ (¬ 5 < x1_s.toInt → ((x2_s.toInt < 0 → K_s (-1) h_s) ∧ (¬ x2_s.toInt < 0 → ((4 < x2_s.toInt → K_s (-1) h_s) ∧ (¬ 4 < x2_s.toInt → ((60 < x3.toInt → K_s (-1) h_s) ∧ (¬ 60 < x3.toInt → ((x3.toInt < 0 → K_s (-14) h_s) ∧ (¬ x3.toInt < 0 → (zix x1_s < 6 → wF F_s 230 (57, [some (.ref 102), some (.int x1_s), some (.int x2_s), some (.int x3), some (.int (60 * x1_s))], [], (h_s.1, zup (zup h_s.2.1 124 (zix x1_s) (50 + x2_s)) 125 (zix x1_s) x3, h_s.2.2.1, h_s.2.2.2)) (gI K_s)))))))))))))) : wF (F_s + 1) 230 (0, [some (.ref 102), some (.int x1_s), some (.int x2_s), some (.int x3), none], [], h_s) (gI K_s) := by
  refine w_0 (pc := 0) (e_s := (1, 1, 1, 0, 0, .null, [])) (y_s := (1, [some (.ref _), some (.int _), some (.int _), some (.int _), none], [.int _], _)) rfl (u_ rfl) ?_
  refine wcI (pc := 1) (len_s := 3) rfl rfl (l := [some (.int _)]) rfl ?_
  refine w_t (pc := 0) (e_s := (1, 1, 0, 0, 0, .null, [])) (y_s := (1, [some (.int _)], [.int _], _)) rfl (u_ rfl) ?_
  refine w_t (pc := 1) (e_s := (10, 1, 0, 0, 0, .null, [])) (y_s := (2, [some (.int _)], [.long (Int32.toInt64 _)], _)) rfl (u_ rfl) ?_
  refine w_t (pc := 2) (e_s := (0, 1, 0, 0, 0, .long 0, [])) (y_s := (3, [some (.int _)], [.long _, .long _], _)) rfl (u_ rfl) ?_
  refine w_t (pc := 3) (e_s := (0, 3, 0, 0, 0, .long 5, [(0, 1063)])) (y_s := (6, [some (.int _)], [.long _, .long _, .long _], _)) rfl (u_ rfl) ?_
  refine wcI (pc := 6) (len_s := 3) rfl rfl (l := [some (.long _), none, some (.long _), none, some (.long _), none]) rfl ?_
  refine w_t (pc := 0) (e_s := (2, 1, 0, 0, 0, .null, [])) (y_s := (1, [some (.long _), none, some (.long _), none, some (.long _), none], [.long _], _)) rfl (u_ rfl) ?_
  refine w_t (pc := 1) (e_s := (2, 1, 2, 0, 0, .null, [])) (y_s := (2, [some (.long _), none, some (.long _), none, some (.long _), none], [.long _, .long _], _)) rfl (u_ rfl) ?_
  refine w_t (pc := 2) (e_s := (14, 1, 0, 0, 0, .null, [])) (y_s := (3, [some (.long _), none, some (.long _), none, some (.long _), none], [.int (lg_cmp _ _)], _)) rfl (u_ rfl) ?_
  refine wl2 (pc := 3) (len_s := 3) (Y := 0) rfl (Int32.toInt_toInt64 _) (by decide) (fun c1_s => ?_) (fun c1_s => ?_)
  · replace t_s := t_s.1 c1_s
    refine w_t (pc := 17) (e_s := (0, 1, 0, 0, 0, .int 0, [])) (y_s := (18, [some (.long _), none, some (.long _), none, some (.long _), none], [.int _], _)) rfl (u_ rfl) ?_
    refine wrI (pc := 18) (len_s := 1) rfl hk ?_
    show wF _ 228 (9, [some (.int _)], [.int _], _) _
    refine wrI (pc := 9) (len_s := 1) rfl hk ?_
    show wF _ 230 (4, [some (.ref _), some (.int _), some (.int _), some (.int _), none], [.int _], _) _
    refine w_t (pc := 4) (e_s := (15, 3, 25, 0, 0, .null, [])) (y_s := (25, [some (.ref _), some (.int _), some (.int _), some (.int _), none], [], _)) rfl (u_ rfl) ?_
    refine w_t (pc := 25) (e_s := (0, 1, 0, 0, 0, .int (-1), [])) (y_s := (26, [some (.ref _), some (.int _), some (.int _), some (.int _), none], [.int _], _)) rfl (u_ rfl) ?_
    exact wrI (pc := 26) (len_s := 1) rfl hk t_s
  · replace t_s := t_s.2 c1_s
    refine w_t (pc := 6) (e_s := (2, 1, 0, 0, 0, .null, [])) (y_s := (7, [some (.long _), none, some (.long _), none, some (.long _), none], [.long _], _)) rfl (u_ rfl) ?_
    refine w_t (pc := 7) (e_s := (2, 2, 4, 0, 0, .null, [])) (y_s := (9, [some (.long _), none, some (.long _), none, some (.long _), none], [.long _, .long _], _)) rfl (u_ rfl) ?_
    refine w_t (pc := 9) (e_s := (14, 1, 0, 0, 0, .null, [])) (y_s := (10, [some (.long _), none, some (.long _), none, some (.long _), none], [.int (lg_cmp _ _)], _)) rfl (u_ rfl) ?_
    refine wl4 (pc := 10) (len_s := 3) (Y := 5) rfl (Int32.toInt_toInt64 _) (by decide) (fun c2_s => ?_) (fun c2_s => ?_)
    · replace t_s := t_s.1 c2_s
      refine w_t (pc := 17) (e_s := (0, 1, 0, 0, 0, .int 0, [])) (y_s := (18, [some (.long _), none, some (.long _), none, some (.long _), none], [.int _], _)) rfl (u_ rfl) ?_
      refine wrI (pc := 18) (len_s := 1) rfl hk ?_
      show wF _ 228 (9, [some (.int _)], [.int _], _) _
      refine wrI (pc := 9) (len_s := 1) rfl hk ?_
      show wF _ 230 (4, [some (.ref _), some (.int _), some (.int _), some (.int _), none], [.int _], _) _
      refine w_t (pc := 4) (e_s := (15, 3, 25, 0, 0, .null, [])) (y_s := (25, [some (.ref _), some (.int _), some (.int _), some (.int _), none], [], _)) rfl (u_ rfl) ?_
      refine w_t (pc := 25) (e_s := (0, 1, 0, 0, 0, .int (-1), [])) (y_s := (26, [some (.ref _), some (.int _), some (.int _), some (.int _), none], [.int _], _)) rfl (u_ rfl) ?_
      exact wrI (pc := 26) (len_s := 1) rfl hk t_s
    · replace t_s := t_s.2 c2_s
      refine w_t (pc := 13) (e_s := (0, 1, 0, 0, 0, .int 1, [])) (y_s := (14, [some (.long _), none, some (.long _), none, some (.long _), none], [.int _], _)) rfl (u_ rfl) ?_
      refine w_t (pc := 14) (e_s := (17, 3, 18, 0, 0, .null, [])) (y_s := (18, [some (.long _), none, some (.long _), none, some (.long _), none], [.int _], _)) rfl (u_ rfl) ?_
      refine wrI (pc := 18) (len_s := 1) rfl hk ?_
      show wF _ 228 (9, [some (.int _)], [.int _], _) _
      refine wrI (pc := 9) (len_s := 1) rfl hk ?_
      show wF _ 230 (4, [some (.ref _), some (.int _), some (.int _), some (.int _), none], [.int _], _) _
      refine w_t (pc := 4) (e_s := (15, 3, 25, 0, 0, .null, [])) (y_s := (7, [some (.ref _), some (.int _), some (.int _), some (.int _), none], [], _)) rfl (u_ rfl) ?_
      refine w_t (pc := 7) (e_s := (1, 1, 2, 0, 0, .null, [])) (y_s := (8, [some (.ref _), some (.int _), some (.int _), some (.int _), none], [.int _], _)) rfl (u_ rfl) ?_
      refine w_t (pc := 8) (e_s := (10, 1, 0, 0, 0, .null, [])) (y_s := (9, [some (.ref _), some (.int _), some (.int _), some (.int _), none], [.long (Int32.toInt64 _)], _)) rfl (u_ rfl) ?_
      refine w_t (pc := 9) (e_s := (0, 1, 0, 0, 0, .long 0, [])) (y_s := (10, [some (.ref _), some (.int _), some (.int _), some (.int _), none], [.long _, .long _], _)) rfl (u_ rfl) ?_
      refine w_t (pc := 10) (e_s := (0, 3, 0, 0, 0, .long 4, [(0, 1113)])) (y_s := (13, [some (.ref _), some (.int _), some (.int _), some (.int _), none], [.long _, .long _, .long _], _)) rfl (u_ rfl) ?_
      refine wcI (pc := 13) (len_s := 3) rfl rfl (l := [some (.long _), none, some (.long _), none, some (.long _), none]) rfl ?_
      refine w_t (pc := 0) (e_s := (2, 1, 0, 0, 0, .null, [])) (y_s := (1, [some (.long _), none, some (.long _), none, some (.long _), none], [.long _], _)) rfl (u_ rfl) ?_
      refine w_t (pc := 1) (e_s := (2, 1, 2, 0, 0, .null, [])) (y_s := (2, [some (.long _), none, some (.long _), none, some (.long _), none], [.long _, .long _], _)) rfl (u_ rfl) ?_
      refine w_t (pc := 2) (e_s := (14, 1, 0, 0, 0, .null, [])) (y_s := (3, [some (.long _), none, some (.long _), none, some (.long _), none], [.int (lg_cmp _ _)], _)) rfl (u_ rfl) ?_
      refine wl2 (pc := 3) (len_s := 3) (Y := 0) rfl (Int32.toInt_toInt64 _) (by decide) (fun c3_s => ?_) (fun c3_s => ?_)
      · replace t_s := t_s.1 c3_s
        refine w_t (pc := 17) (e_s := (0, 1, 0, 0, 0, .int 0, [])) (y_s := (18, [some (.long _), none, some (.long _), none, some (.long _), none], [.int _], _)) rfl (u_ rfl) ?_
        refine wrI (pc := 18) (len_s := 1) rfl hk ?_
        show wF _ 230 (16, [some (.ref _), some (.int _), some (.int _), some (.int _), none], [.int _], _) _
        refine w_t (pc := 16) (e_s := (15, 3, 25, 0, 0, .null, [])) (y_s := (25, [some (.ref _), some (.int _), some (.int _), some (.int _), none], [], _)) rfl (u_ rfl) ?_
        refine w_t (pc := 25) (e_s := (0, 1, 0, 0, 0, .int (-1), [])) (y_s := (26, [some (.ref _), some (.int _), some (.int _), some (.int _), none], [.int _], _)) rfl (u_ rfl) ?_
        exact wrI (pc := 26) (len_s := 1) rfl hk t_s
      · replace t_s := t_s.2 c3_s
        refine w_t (pc := 6) (e_s := (2, 1, 0, 0, 0, .null, [])) (y_s := (7, [some (.long _), none, some (.long _), none, some (.long _), none], [.long _], _)) rfl (u_ rfl) ?_
        refine w_t (pc := 7) (e_s := (2, 2, 4, 0, 0, .null, [])) (y_s := (9, [some (.long _), none, some (.long _), none, some (.long _), none], [.long _, .long _], _)) rfl (u_ rfl) ?_
        refine w_t (pc := 9) (e_s := (14, 1, 0, 0, 0, .null, [])) (y_s := (10, [some (.long _), none, some (.long _), none, some (.long _), none], [.int (lg_cmp _ _)], _)) rfl (u_ rfl) ?_
        refine wl4 (pc := 10) (len_s := 3) (Y := 4) rfl (Int32.toInt_toInt64 _) (by decide) (fun c4_s => ?_) (fun c4_s => ?_)
        · replace t_s := t_s.1 c4_s
          refine w_t (pc := 17) (e_s := (0, 1, 0, 0, 0, .int 0, [])) (y_s := (18, [some (.long _), none, some (.long _), none, some (.long _), none], [.int _], _)) rfl (u_ rfl) ?_
          refine wrI (pc := 18) (len_s := 1) rfl hk ?_
          show wF _ 230 (16, [some (.ref _), some (.int _), some (.int _), some (.int _), none], [.int _], _) _
          refine w_t (pc := 16) (e_s := (15, 3, 25, 0, 0, .null, [])) (y_s := (25, [some (.ref _), some (.int _), some (.int _), some (.int _), none], [], _)) rfl (u_ rfl) ?_
          refine w_t (pc := 25) (e_s := (0, 1, 0, 0, 0, .int (-1), [])) (y_s := (26, [some (.ref _), some (.int _), some (.int _), some (.int _), none], [.int _], _)) rfl (u_ rfl) ?_
          exact wrI (pc := 26) (len_s := 1) rfl hk t_s
        · replace t_s := t_s.2 c4_s
          refine w_t (pc := 13) (e_s := (0, 1, 0, 0, 0, .int 1, [])) (y_s := (14, [some (.long _), none, some (.long _), none, some (.long _), none], [.int _], _)) rfl (u_ rfl) ?_
          refine w_t (pc := 14) (e_s := (17, 3, 18, 0, 0, .null, [])) (y_s := (18, [some (.long _), none, some (.long _), none, some (.long _), none], [.int _], _)) rfl (u_ rfl) ?_
          refine wrI (pc := 18) (len_s := 1) rfl hk ?_
          show wF _ 230 (16, [some (.ref _), some (.int _), some (.int _), some (.int _), none], [.int _], _) _
          refine w_t (pc := 16) (e_s := (15, 3, 25, 0, 0, .null, [])) (y_s := (19, [some (.ref _), some (.int _), some (.int _), some (.int _), none], [], _)) rfl (u_ rfl) ?_
          refine w_t (pc := 19) (e_s := (1, 1, 3, 0, 0, .null, [])) (y_s := (20, [some (.ref _), some (.int _), some (.int _), some (.int _), none], [.int _], _)) rfl (u_ rfl) ?_
          refine w_t (pc := 20) (e_s := (0, 2, 0, 0, 0, .int 60, [])) (y_s := (22, [some (.ref _), some (.int _), some (.int _), some (.int _), none], [.int _, .int _], _)) rfl (u_ rfl) ?_
          refine wi5 (pc := 22) (len_s := 3) (Y := 60) rfl rfl (by decide) (fun c5_s => ?_) (fun c5_s => ?_)
          · replace t_s := t_s.1 c5_s
            refine w_t (pc := 25) (e_s := (0, 1, 0, 0, 0, .int (-1), [])) (y_s := (26, [some (.ref _), some (.int _), some (.int _), some (.int _), none], [.int _], _)) rfl (u_ rfl) ?_
            exact wrI (pc := 26) (len_s := 1) rfl hk t_s
          · replace t_s := t_s.2 c5_s
            refine w_t (pc := 27) (e_s := (1, 1, 3, 0, 0, .null, [])) (y_s := (28, [some (.ref _), some (.int _), some (.int _), some (.int _), none], [.int _], _)) rfl (u_ rfl) ?_
            refine wq3 (pc := 28) (len_s := 3) rfl rfl (fun c6_s => ?_) (fun c6_s => ?_)
            · replace t_s := t_s.1 c6_s
              refine w_t (pc := 31) (e_s := (0, 2, 0, 0, 0, .int (-14), [])) (y_s := (33, [some (.ref _), some (.int _), some (.int _), some (.int _), none], [.int _], _)) rfl (u_ rfl) ?_
              exact wrI (pc := 33) (len_s := 1) rfl hk t_s
            · replace t_s := t_s.2 c6_s
              refine w_t (pc := 34) (e_s := (3, 1, 0, 0, 0, .null, [])) (y_s := (35, [some (.ref _), some (.int _), some (.int _), some (.int _), none], [.ref _], _)) rfl (u_ rfl) ?_
              refine w20r (pc := 35) (len_s := 3) (q_s := 124) rfl (krq hk rfl) ?_
              refine w_t (pc := 38) (e_s := (1, 1, 1, 0, 0, .null, [])) (y_s := (39, [some (.ref _), some (.int _), some (.int _), some (.int _), none], [.int _, .ref _], _)) rfl (u_ rfl) ?_
              refine w_t (pc := 39) (e_s := (0, 2, 0, 0, 0, .int 50, [])) (y_s := (41, [some (.ref _), some (.int _), some (.int _), some (.int _), none], [.int _, .int _, .ref _], _)) rfl (u_ rfl) ?_
              refine w_t (pc := 41) (e_s := (1, 1, 2, 0, 0, .null, [])) (y_s := (42, [some (.ref _), some (.int _), some (.int _), some (.int _), none], [.int _, .int _, .int _, .ref _], _)) rfl (u_ rfl) ?_
              refine w_t (pc := 42) (e_s := (7, 1, 0, 0, 0, .null, [])) (y_s := (43, [some (.ref _), some (.int _), some (.int _), some (.int _), none], [.int (_ + _), .int _, .ref _], _)) rfl (u_ rfl) ?_
              refine w25 (pc := 43) (len_s := 1) rfl (hk.1 124 0 6 rfl rfl) (fun c7_s => ?_)
              replace t_s := t_s c7_s
              refine w_t (pc := 44) (e_s := (3, 1, 0, 0, 0, .null, [])) (y_s := (45, [some (.ref _), some (.int _), some (.int _), some (.int _), none], [.ref _], _)) rfl (u_ rfl) ?_
              refine w20r (pc := 45) (len_s := 3) (q_s := 125) rfl (krq hk rfl) ?_
              refine w_t (pc := 48) (e_s := (1, 1, 1, 0, 0, .null, [])) (y_s := (49, [some (.ref _), some (.int _), some (.int _), some (.int _), none], [.int _, .ref _], _)) rfl (u_ rfl) ?_
              refine w_t (pc := 49) (e_s := (1, 1, 3, 0, 0, .null, [])) (y_s := (50, [some (.ref _), some (.int _), some (.int _), some (.int _), none], [.int _, .int _, .ref _], _)) rfl (u_ rfl) ?_
              refine w25 (pc := 50) (len_s := 1) rfl (hk.1 125 0 6 rfl rfl) (fun c8_s => ?_)
              refine w_t (pc := 51) (e_s := (0, 2, 0, 0, 0, .int 60, [])) (y_s := (53, [some (.ref _), some (.int _), some (.int _), some (.int _), none], [.int _], _)) rfl (u_ rfl) ?_
              refine w_t (pc := 53) (e_s := (1, 1, 1, 0, 0, .null, [])) (y_s := (54, [some (.ref _), some (.int _), some (.int _), some (.int _), none], [.int _, .int _], _)) rfl (u_ rfl) ?_
              refine w_t (pc := 54) (e_s := (7, 1, 0, 2, 0, .null, [])) (y_s := (55, [some (.ref _), some (.int _), some (.int _), some (.int _), none], [.int (_ * _)], _)) rfl (u_ rfl) ?_
              refine w_t (pc := 55) (e_s := (4, 2, 4, 0, 0, .null, [])) (y_s := (57, [some (.ref _), some (.int _), some (.int _), some (.int _), some (.int _)], [], _)) rfl (u_ rfl) ?_
              exact t_s
/-- ColdShodModel.row(III)I, from 57 on -/
theorem sg_230_57 {F_s : Nat} {x1_s x2_s x3 x4_s : Int32} {h_s : zH} {K_s : Int32 → zH → Prop} (hk : hKn h_s) (t_s : (x4_s.toInt < ((60 * x1_s) + 60).toInt → (zix x4_s < 360 → wF F_s 230 (57, [some (.ref 102), some (.int x1_s), some (.int x2_s), some (.int x3), some (.int (x4_s + 1))], [], (h_s.1, h_s.2.1, zup h_s.2.2.1 126 (zix x4_s) 0, h_s.2.2.2)) (gI K_s))) ∧ (¬ x4_s.toInt < ((60 * x1_s) + 60).toInt → K_s 1 h_s)) : wF (F_s + 1) 230 (57, [some (.ref 102), some (.int x1_s), some (.int x2_s), some (.int x3), some (.int x4_s)], [], h_s) (gI K_s) := by
  refine w_0 (pc := 57) (e_s := (1, 2, 4, 0, 0, .null, [])) (y_s := (59, [some (.ref _), some (.int _), some (.int _), some (.int _), some (.int _)], [.int _], _)) rfl (u_ rfl) ?_
  refine w_t (pc := 59) (e_s := (0, 2, 0, 0, 0, .int 60, [])) (y_s := (61, [some (.ref _), some (.int _), some (.int _), some (.int _), some (.int _)], [.int _, .int _], _)) rfl (u_ rfl) ?_
  refine w_t (pc := 61) (e_s := (1, 1, 1, 0, 0, .null, [])) (y_s := (62, [some (.ref _), some (.int _), some (.int _), some (.int _), some (.int _)], [.int _, .int _, .int _], _)) rfl (u_ rfl) ?_
  refine w_t (pc := 62) (e_s := (7, 1, 0, 2, 0, .null, [])) (y_s := (63, [some (.ref _), some (.int _), some (.int _), some (.int _), some (.int _)], [.int (_ * _), .int _], _)) rfl (u_ rfl) ?_
  refine w_t (pc := 63) (e_s := (0, 2, 0, 0, 0, .int 60, [])) (y_s := (65, [some (.ref _), some (.int _), some (.int _), some (.int _), some (.int _)], [.int _, .int _, .int _], _)) rfl (u_ rfl) ?_
  refine w_t (pc := 65) (e_s := (7, 1, 0, 0, 0, .null, [])) (y_s := (66, [some (.ref _), some (.int _), some (.int _), some (.int _), some (.int _)], [.int (_ + _), .int _], _)) rfl (u_ rfl) ?_
  refine wi3 (pc := 66) (len_s := 3) rfl rfl rfl (fun c1_s => ?_) (fun c1_s => ?_)
  · replace t_s := t_s.1 c1_s
    refine w_t (pc := 69) (e_s := (3, 1, 0, 0, 0, .null, [])) (y_s := (70, [some (.ref _), some (.int _), some (.int _), some (.int _), some (.int _)], [.ref _], _)) rfl (u_ rfl) ?_
    refine w20r (pc := 70) (len_s := 3) (q_s := 126) rfl (krq hk rfl) ?_
    refine w_t (pc := 73) (e_s := (1, 2, 4, 0, 0, .null, [])) (y_s := (75, [some (.ref _), some (.int _), some (.int _), some (.int _), some (.int _)], [.int _, .ref _], _)) rfl (u_ rfl) ?_
    refine w_t (pc := 75) (e_s := (0, 1, 0, 0, 0, .long 0, [])) (y_s := (76, [some (.ref _), some (.int _), some (.int _), some (.int _), some (.int _)], [.long _, .int _, .ref _], _)) rfl (u_ rfl) ?_
    refine w26 (pc := 76) (len_s := 1) rfl (hk.1 126 1 360 rfl rfl) (fun c2_s => ?_)
    replace t_s := t_s c2_s
    refine w_t (pc := 77) (e_s := (19, 3, 4, 0, 0, .int 1, [])) (y_s := (80, [some (.ref _), some (.int _), some (.int _), some (.int _), some (.int _)], [], _)) rfl (u_ rfl) ?_
    refine w_t (pc := 80) (e_s := (17, 3, 57, 0, 0, .null, [])) (y_s := (57, [some (.ref _), some (.int _), some (.int _), some (.int _), some (.int _)], [], _)) rfl (u_ rfl) ?_
    exact t_s
  · replace t_s := t_s.2 c1_s
    refine w_t (pc := 83) (e_s := (0, 1, 0, 0, 0, .int 1, [])) (y_s := (84, [some (.ref _), some (.int _), some (.int _), some (.int _), some (.int _)], [.int _], _)) rfl (u_ rfl) ?_
    exact wrI (pc := 84) (len_s := 1) rfl hk t_s
/-- ColdShodModel.shift(IIIII)I, from 0 on -/
theorem sg_235_0 {F_s : Nat} {x1_s : Int32} {x2_s : Int32} {x3 : Int32} {x4_s : Int32} {x5_s : Int32} {h_s : zH} {K_s : Int32 → zH → Prop} (hk : hKn h_s) (t_s : (x1_s.toInt < 0 → K_s (-1) h_s) ∧ (¬ x1_s.toInt < 0 → ((5 < x1_s.toInt → K_s (-1) h_s) ∧ (¬ 5 < x1_s.toInt → ((x3.toInt < 0 → K_s (-1) h_s) ∧ (¬ x3.toInt < 0 → ((5 < x3.toInt → K_s (-1) h_s) ∧ (¬ 5 < x3.toInt → (zix x1_s < 6 → ((h_s.2.1 124 (zix x1_s)).toInt < 0 → K_s (-11) h_s) ∧ (¬ (h_s.2.1 124 (zix x1_s)).toInt < 0 → (zix x3 < 6 → ((h_s.2.1 124 (zix x3)).toInt < 0 → K_s (-11) h_s) ∧ (¬ (h_s.2.1 124 (zix x3)).toInt < 0 → (((h_s.2.1 124 (zix x1_s)).toInt < 50 → K_s (-12) h_s) ∧ (¬ (h_s.2.1 124 (zix x1_s)).toInt < 50 → (((h_s.2.1 124 (zix x1_s)).toInt = (h_s.2.1 124 (zix x3)).toInt → ((x5_s.toInt < 0 → K_s (-13) h_s) ∧ (¬ x5_s.toInt < 0 → ((x2_s.toInt < 0 → K_s (-13) h_s) ∧ (¬ x2_s.toInt < 0 → ((x4_s.toInt < 0 → K_s (-13) h_s) ∧ (¬ x4_s.toInt < 0 → ((((h_s.2.1 125 (zix x1_s)) - x5_s).toInt < x2_s.toInt → K_s (-13) h_s) ∧ (¬ ((h_s.2.1 125 (zix x1_s)) - x5_s).toInt < x2_s.toInt → ((((h_s.2.1 125 (zix x3)) - x5_s).toInt < x4_s.toInt → K_s (-13) h_s) ∧ (¬ ((h_s.2.1 125 (zix x3)) - x5_s).toInt < x4_s.toInt → wF F_s 235 (113, [some (.ref 102), some (.int x1_s), some (.int x2_s), some (.int x3), some (.int x4_s), some (.int x5_s), some (.int 0)], [], h_s) (gI K_s)))))))))))) ∧ (¬ (h_s.2.1 124 (zix x1_s)).toInt = (h_s.2.1 124 (zix x3)).toInt → K_s (-12) h_s)))))))))))))))) : wF (F_s + 1) 235 (0, [some (.ref 102), some (.int x1_s), some (.int x2_s), some (.int x3), some (.int x4_s), some (.int x5_s), none], [], h_s) (gI K_s) := by
  refine w_0 (pc := 0) (e_s := (1, 1, 1, 0, 0, .null, [])) (y_s := (1, [some (.ref _), some (.int _), some (.int _), some (.int _), some (.int _), some (.int _), none], [.int _], _)) rfl (u_ rfl) ?_
  refine wcI (pc := 1) (len_s := 3) rfl rfl (l := [some (.int _)]) rfl ?_
  refine w_t (pc := 0) (e_s := (1, 1, 0, 0, 0, .null, [])) (y_s := (1, [some (.int _)], [.int _], _)) rfl (u_ rfl) ?_
  refine w_t (pc := 1) (e_s := (10, 1, 0, 0, 0, .null, [])) (y_s := (2, [some (.int _)], [.long (Int32.toInt64 _)], _)) rfl (u_ rfl) ?_
  refine w_t (pc := 2) (e_s := (0, 1, 0, 0, 0, .long 0, [])) (y_s := (3, [some (.int _)], [.long _, .long _], _)) rfl (u_ rfl) ?_
  refine w_t (pc := 3) (e_s := (0, 3, 0, 0, 0, .long 5, [(0, 1063)])) (y_s := (6, [some (.int _)], [.long _, .long _, .long _], _)) rfl (u_ rfl) ?_
  refine wcI (pc := 6) (len_s := 3) rfl rfl (l := [some (.long _), none, some (.long _), none, some (.long _), none]) rfl ?_
  refine w_t (pc := 0) (e_s := (2, 1, 0, 0, 0, .null, [])) (y_s := (1, [some (.long _), none, some (.long _), none, some (.long _), none], [.long _], _)) rfl (u_ rfl) ?_
  refine w_t (pc := 1) (e_s := (2, 1, 2, 0, 0, .null, [])) (y_s := (2, [some (.long _), none, some (.long _), none, some (.long _), none], [.long _, .long _], _)) rfl (u_ rfl) ?_
  refine w_t (pc := 2) (e_s := (14, 1, 0, 0, 0, .null, [])) (y_s := (3, [some (.long _), none, some (.long _), none, some (.long _), none], [.int (lg_cmp _ _)], _)) rfl (u_ rfl) ?_
  refine wl2 (pc := 3) (len_s := 3) (Y := 0) rfl (Int32.toInt_toInt64 _) (by decide) (fun c1_s => ?_) (fun c1_s => ?_)
  · replace t_s := t_s.1 c1_s
    refine w_t (pc := 17) (e_s := (0, 1, 0, 0, 0, .int 0, [])) (y_s := (18, [some (.long _), none, some (.long _), none, some (.long _), none], [.int _], _)) rfl (u_ rfl) ?_
    refine wrI (pc := 18) (len_s := 1) rfl hk ?_
    show wF _ 228 (9, [some (.int _)], [.int _], _) _
    refine wrI (pc := 9) (len_s := 1) rfl hk ?_
    show wF _ 235 (4, [some (.ref _), some (.int _), some (.int _), some (.int _), some (.int _), some (.int _), none], [.int _], _) _
    refine w_t (pc := 4) (e_s := (15, 3, 14, 0, 0, .null, [])) (y_s := (14, [some (.ref _), some (.int _), some (.int _), some (.int _), some (.int _), some (.int _), none], [], _)) rfl (u_ rfl) ?_
    refine w_t (pc := 14) (e_s := (0, 1, 0, 0, 0, .int (-1), [])) (y_s := (15, [some (.ref _), some (.int _), some (.int _), some (.int _), some (.int _), some (.int _), none], [.int _], _)) rfl (u_ rfl) ?_
    exact wrI (pc := 15) (len_s := 1) rfl hk t_s
  · replace t_s := t_s.2 c1_s
    refine w_t (pc := 6) (e_s := (2, 1, 0, 0, 0, .null, [])) (y_s := (7, [some (.long _), none, some (.long _), none, some (.long _), none], [.long _], _)) rfl (u_ rfl) ?_
    refine w_t (pc := 7) (e_s := (2, 2, 4, 0, 0, .null, [])) (y_s := (9, [some (.long _), none, some (.long _), none, some (.long _), none], [.long _, .long _], _)) rfl (u_ rfl) ?_
    refine w_t (pc := 9) (e_s := (14, 1, 0, 0, 0, .null, [])) (y_s := (10, [some (.long _), none, some (.long _), none, some (.long _), none], [.int (lg_cmp _ _)], _)) rfl (u_ rfl) ?_
    refine wl4 (pc := 10) (len_s := 3) (Y := 5) rfl (Int32.toInt_toInt64 _) (by decide) (fun c2_s => ?_) (fun c2_s => ?_)
    · replace t_s := t_s.1 c2_s
      refine w_t (pc := 17) (e_s := (0, 1, 0, 0, 0, .int 0, [])) (y_s := (18, [some (.long _), none, some (.long _), none, some (.long _), none], [.int _], _)) rfl (u_ rfl) ?_
      refine wrI (pc := 18) (len_s := 1) rfl hk ?_
      show wF _ 228 (9, [some (.int _)], [.int _], _) _
      refine wrI (pc := 9) (len_s := 1) rfl hk ?_
      show wF _ 235 (4, [some (.ref _), some (.int _), some (.int _), some (.int _), some (.int _), some (.int _), none], [.int _], _) _
      refine w_t (pc := 4) (e_s := (15, 3, 14, 0, 0, .null, [])) (y_s := (14, [some (.ref _), some (.int _), some (.int _), some (.int _), some (.int _), some (.int _), none], [], _)) rfl (u_ rfl) ?_
      refine w_t (pc := 14) (e_s := (0, 1, 0, 0, 0, .int (-1), [])) (y_s := (15, [some (.ref _), some (.int _), some (.int _), some (.int _), some (.int _), some (.int _), none], [.int _], _)) rfl (u_ rfl) ?_
      exact wrI (pc := 15) (len_s := 1) rfl hk t_s
    · replace t_s := t_s.2 c2_s
      refine w_t (pc := 13) (e_s := (0, 1, 0, 0, 0, .int 1, [])) (y_s := (14, [some (.long _), none, some (.long _), none, some (.long _), none], [.int _], _)) rfl (u_ rfl) ?_
      refine w_t (pc := 14) (e_s := (17, 3, 18, 0, 0, .null, [])) (y_s := (18, [some (.long _), none, some (.long _), none, some (.long _), none], [.int _], _)) rfl (u_ rfl) ?_
      refine wrI (pc := 18) (len_s := 1) rfl hk ?_
      show wF _ 228 (9, [some (.int _)], [.int _], _) _
      refine wrI (pc := 9) (len_s := 1) rfl hk ?_
      show wF _ 235 (4, [some (.ref _), some (.int _), some (.int _), some (.int _), some (.int _), some (.int _), none], [.int _], _) _
      refine w_t (pc := 4) (e_s := (15, 3, 14, 0, 0, .null, [])) (y_s := (7, [some (.ref _), some (.int _), some (.int _), some (.int _), some (.int _), some (.int _), none], [], _)) rfl (u_ rfl) ?_
      refine w_t (pc := 7) (e_s := (1, 1, 3, 0, 0, .null, [])) (y_s := (8, [some (.ref _), some (.int _), some (.int _), some (.int _), some (.int _), some (.int _), none], [.int _], _)) rfl (u_ rfl) ?_
      refine wcI (pc := 8) (len_s := 3) rfl rfl (l := [some (.int _)]) rfl ?_
      refine w_t (pc := 0) (e_s := (1, 1, 0, 0, 0, .null, [])) (y_s := (1, [some (.int _)], [.int _], _)) rfl (u_ rfl) ?_
      refine w_t (pc := 1) (e_s := (10, 1, 0, 0, 0, .null, [])) (y_s := (2, [some (.int _)], [.long (Int32.toInt64 _)], _)) rfl (u_ rfl) ?_
      refine w_t (pc := 2) (e_s := (0, 1, 0, 0, 0, .long 0, [])) (y_s := (3, [some (.int _)], [.long _, .long _], _)) rfl (u_ rfl) ?_
      refine w_t (pc := 3) (e_s := (0, 3, 0, 0, 0, .long 5, [(0, 1063)])) (y_s := (6, [some (.int _)], [.long _, .long _, .long _], _)) rfl (u_ rfl) ?_
      refine wcI (pc := 6) (len_s := 3) rfl rfl (l := [some (.long _), none, some (.long _), none, some (.long _), none]) rfl ?_
      refine w_t (pc := 0) (e_s := (2, 1, 0, 0, 0, .null, [])) (y_s := (1, [some (.long _), none, some (.long _), none, some (.long _), none], [.long _], _)) rfl (u_ rfl) ?_
      refine w_t (pc := 1) (e_s := (2, 1, 2, 0, 0, .null, [])) (y_s := (2, [some (.long _), none, some (.long _), none, some (.long _), none], [.long _, .long _], _)) rfl (u_ rfl) ?_
      refine w_t (pc := 2) (e_s := (14, 1, 0, 0, 0, .null, [])) (y_s := (3, [some (.long _), none, some (.long _), none, some (.long _), none], [.int (lg_cmp _ _)], _)) rfl (u_ rfl) ?_
      refine wl2 (pc := 3) (len_s := 3) (Y := 0) rfl (Int32.toInt_toInt64 _) (by decide) (fun c3_s => ?_) (fun c3_s => ?_)
      · replace t_s := t_s.1 c3_s
        refine w_t (pc := 17) (e_s := (0, 1, 0, 0, 0, .int 0, [])) (y_s := (18, [some (.long _), none, some (.long _), none, some (.long _), none], [.int _], _)) rfl (u_ rfl) ?_
        refine wrI (pc := 18) (len_s := 1) rfl hk ?_
        show wF _ 228 (9, [some (.int _)], [.int _], _) _
        refine wrI (pc := 9) (len_s := 1) rfl hk ?_
        show wF _ 235 (11, [some (.ref _), some (.int _), some (.int _), some (.int _), some (.int _), some (.int _), none], [.int _], _) _
        refine w_t (pc := 11) (e_s := (15, 3, 16, 1, 0, .null, [])) (y_s := (14, [some (.ref _), some (.int _), some (.int _), some (.int _), some (.int _), some (.int _), none], [], _)) rfl (u_ rfl) ?_
        refine w_t (pc := 14) (e_s := (0, 1, 0, 0, 0, .int (-1), [])) (y_s := (15, [some (.ref _), some (.int _), some (.int _), some (.int _), some (.int _), some (.int _), none], [.int _], _)) rfl (u_ rfl) ?_
        exact wrI (pc := 15) (len_s := 1) rfl hk t_s
      · replace t_s := t_s.2 c3_s
        refine w_t (pc := 6) (e_s := (2, 1, 0, 0, 0, .null, [])) (y_s := (7, [some (.long _), none, some (.long _), none, some (.long _), none], [.long _], _)) rfl (u_ rfl) ?_
        refine w_t (pc := 7) (e_s := (2, 2, 4, 0, 0, .null, [])) (y_s := (9, [some (.long _), none, some (.long _), none, some (.long _), none], [.long _, .long _], _)) rfl (u_ rfl) ?_
        refine w_t (pc := 9) (e_s := (14, 1, 0, 0, 0, .null, [])) (y_s := (10, [some (.long _), none, some (.long _), none, some (.long _), none], [.int (lg_cmp _ _)], _)) rfl (u_ rfl) ?_
        refine wl4 (pc := 10) (len_s := 3) (Y := 5) rfl (Int32.toInt_toInt64 _) (by decide) (fun c4_s => ?_) (fun c4_s => ?_)
        · replace t_s := t_s.1 c4_s
          refine w_t (pc := 17) (e_s := (0, 1, 0, 0, 0, .int 0, [])) (y_s := (18, [some (.long _), none, some (.long _), none, some (.long _), none], [.int _], _)) rfl (u_ rfl) ?_
          refine wrI (pc := 18) (len_s := 1) rfl hk ?_
          show wF _ 228 (9, [some (.int _)], [.int _], _) _
          refine wrI (pc := 9) (len_s := 1) rfl hk ?_
          show wF _ 235 (11, [some (.ref _), some (.int _), some (.int _), some (.int _), some (.int _), some (.int _), none], [.int _], _) _
          refine w_t (pc := 11) (e_s := (15, 3, 16, 1, 0, .null, [])) (y_s := (14, [some (.ref _), some (.int _), some (.int _), some (.int _), some (.int _), some (.int _), none], [], _)) rfl (u_ rfl) ?_
          refine w_t (pc := 14) (e_s := (0, 1, 0, 0, 0, .int (-1), [])) (y_s := (15, [some (.ref _), some (.int _), some (.int _), some (.int _), some (.int _), some (.int _), none], [.int _], _)) rfl (u_ rfl) ?_
          exact wrI (pc := 15) (len_s := 1) rfl hk t_s
        · replace t_s := t_s.2 c4_s
          refine w_t (pc := 13) (e_s := (0, 1, 0, 0, 0, .int 1, [])) (y_s := (14, [some (.long _), none, some (.long _), none, some (.long _), none], [.int _], _)) rfl (u_ rfl) ?_
          refine w_t (pc := 14) (e_s := (17, 3, 18, 0, 0, .null, [])) (y_s := (18, [some (.long _), none, some (.long _), none, some (.long _), none], [.int _], _)) rfl (u_ rfl) ?_
          refine wrI (pc := 18) (len_s := 1) rfl hk ?_
          show wF _ 228 (9, [some (.int _)], [.int _], _) _
          refine wrI (pc := 9) (len_s := 1) rfl hk ?_
          show wF _ 235 (11, [some (.ref _), some (.int _), some (.int _), some (.int _), some (.int _), some (.int _), none], [.int _], _) _
          refine w_t (pc := 11) (e_s := (15, 3, 16, 1, 0, .null, [])) (y_s := (16, [some (.ref _), some (.int _), some (.int _), some (.int _), some (.int _), some (.int _), none], [], _)) rfl (u_ rfl) ?_
          refine w_t (pc := 16) (e_s := (3, 1, 0, 0, 0, .null, [])) (y_s := (17, [some (.ref _), some (.int _), some (.int _), some (.int _), some (.int _), some (.int _), none], [.ref _], _)) rfl (u_ rfl) ?_
          refine w20r (pc := 17) (len_s := 3) (q_s := 124) rfl (krq hk rfl) ?_
          refine w_t (pc := 20) (e_s := (1, 1, 1, 0, 0, .null, [])) (y_s := (21, [some (.ref _), some (.int _), some (.int _), some (.int _), some (.int _), some (.int _), none], [.int _, .ref _], _)) rfl (u_ rfl) ?_
          refine w22 (pc := 21) (len_s := 1) rfl (hk.1 124 0 6 rfl rfl) (fun c5_s => ?_)
          replace t_s := t_s c5_s
          refine wq2 (pc := 22) (len_s := 3) rfl rfl (fun c6_s => ?_) (fun c6_s => ?_)
          · replace t_s := t_s.1 c6_s
            refine w_t (pc := 34) (e_s := (0, 2, 0, 0, 0, .int (-11), [])) (y_s := (36, [some (.ref _), some (.int _), some (.int _), some (.int _), some (.int _), some (.int _), none], [.int _], _)) rfl (u_ rfl) ?_
            exact wrI (pc := 36) (len_s := 1) rfl hk t_s
          · replace t_s := t_s.2 c6_s
            refine w_t (pc := 25) (e_s := (3, 1, 0, 0, 0, .null, [])) (y_s := (26, [some (.ref _), some (.int _), some (.int _), some (.int _), some (.int _), some (.int _), none], [.ref _], _)) rfl (u_ rfl) ?_
            refine w20r (pc := 26) (len_s := 3) (q_s := 124) rfl (krq hk rfl) ?_
            refine w_t (pc := 29) (e_s := (1, 1, 3, 0, 0, .null, [])) (y_s := (30, [some (.ref _), some (.int _), some (.int _), some (.int _), some (.int _), some (.int _), none], [.int _, .ref _], _)) rfl (u_ rfl) ?_
            refine w22 (pc := 30) (len_s := 1) rfl (hk.1 124 0 6 rfl rfl) (fun c7_s => ?_)
            replace t_s := t_s c7_s
            refine wq3 (pc := 31) (len_s := 3) rfl rfl (fun c8_s => ?_) (fun c8_s => ?_)
            · replace t_s := t_s.1 c8_s
              refine w_t (pc := 34) (e_s := (0, 2, 0, 0, 0, .int (-11), [])) (y_s := (36, [some (.ref _), some (.int _), some (.int _), some (.int _), some (.int _), some (.int _), none], [.int _], _)) rfl (u_ rfl) ?_
              exact wrI (pc := 36) (len_s := 1) rfl hk t_s
            · replace t_s := t_s.2 c8_s
              refine w_t (pc := 37) (e_s := (3, 1, 0, 0, 0, .null, [])) (y_s := (38, [some (.ref _), some (.int _), some (.int _), some (.int _), some (.int _), some (.int _), none], [.ref _], _)) rfl (u_ rfl) ?_
              refine w20r (pc := 38) (len_s := 3) (q_s := 124) rfl (krq hk rfl) ?_
              refine w_t (pc := 41) (e_s := (1, 1, 1, 0, 0, .null, [])) (y_s := (42, [some (.ref _), some (.int _), some (.int _), some (.int _), some (.int _), some (.int _), none], [.int _, .ref _], _)) rfl (u_ rfl) ?_
              refine w22 (pc := 42) (len_s := 1) rfl (hk.1 124 0 6 rfl rfl) (fun c9_s => ?_)
              refine w_t (pc := 43) (e_s := (0, 2, 0, 0, 0, .int 50, [])) (y_s := (45, [some (.ref _), some (.int _), some (.int _), some (.int _), some (.int _), some (.int _), none], [.int _, .int _], _)) rfl (u_ rfl) ?_
              refine wi2 (pc := 45) (len_s := 3) (Y := 50) rfl rfl (by decide) (fun c10_s => ?_) (fun c10_s => ?_)
              · replace t_s := t_s.1 c10_s
                refine w_t (pc := 63) (e_s := (0, 2, 0, 0, 0, .int (-12), [])) (y_s := (65, [some (.ref _), some (.int _), some (.int _), some (.int _), some (.int _), some (.int _), none], [.int _], _)) rfl (u_ rfl) ?_
                exact wrI (pc := 65) (len_s := 1) rfl hk t_s
              · replace t_s := t_s.2 c10_s
                refine w_t (pc := 48) (e_s := (3, 1, 0, 0, 0, .null, [])) (y_s := (49, [some (.ref _), some (.int _), some (.int _), some (.int _), some (.int _), some (.int _), none], [.ref _], _)) rfl (u_ rfl) ?_
                refine w20r (pc := 49) (len_s := 3) (q_s := 124) rfl (krq hk rfl) ?_
                refine w_t (pc := 52) (e_s := (1, 1, 1, 0, 0, .null, [])) (y_s := (53, [some (.ref _), some (.int _), some (.int _), some (.int _), some (.int _), some (.int _), none], [.int _, .ref _], _)) rfl (u_ rfl) ?_
                refine w22 (pc := 53) (len_s := 1) rfl (hk.1 124 0 6 rfl rfl) (fun c11 => ?_)
                refine w_t (pc := 54) (e_s := (3, 1, 0, 0, 0, .null, [])) (y_s := (55, [some (.ref _), some (.int _), some (.int _), some (.int _), some (.int _), some (.int _), none], [.ref _, .int _], _)) rfl (u_ rfl) ?_
                refine w20r (pc := 55) (len_s := 3) (q_s := 124) rfl (krq hk rfl) ?_
                refine w_t (pc := 58) (e_s := (1, 1, 3, 0, 0, .null, [])) (y_s := (59, [some (.ref _), some (.int _), some (.int _), some (.int _), some (.int _), some (.int _), none], [.int _, .ref _, .int _], _)) rfl (u_ rfl) ?_
                refine w22 (pc := 59) (len_s := 1) rfl (hk.1 124 0 6 rfl rfl) (fun c12_s => ?_)
                refine wi0 (pc := 60) (len_s := 3) rfl rfl rfl (fun c13_s => ?_) (fun c13_s => ?_)
                · replace t_s := t_s.1 c13_s
                  refine w_t (pc := 66) (e_s := (1, 2, 5, 0, 0, .null, [])) (y_s := (68, [some (.ref _), some (.int _), some (.int _), some (.int _), some (.int _), some (.int _), none], [.int _], _)) rfl (u_ rfl) ?_
                  refine wq2 (pc := 68) (len_s := 3) rfl rfl (fun c14_s => ?_) (fun c14_s => ?_)
                  · replace t_s := t_s.1 c14_s
                    refine w_t (pc := 107) (e_s := (0, 2, 0, 0, 0, .int (-13), [])) (y_s := (109, [some (.ref _), some (.int _), some (.int _), some (.int _), some (.int _), some (.int _), none], [.int _], _)) rfl (u_ rfl) ?_
                    exact wrI (pc := 109) (len_s := 1) rfl hk t_s
                  · replace t_s := t_s.2 c14_s
                    refine w_t (pc := 71) (e_s := (1, 1, 2, 0, 0, .null, [])) (y_s := (72, [some (.ref _), some (.int _), some (.int _), some (.int _), some (.int _), some (.int _), none], [.int _], _)) rfl (u_ rfl) ?_
                    refine wq2 (pc := 72) (len_s := 3) rfl rfl (fun c15_s => ?_) (fun c15_s => ?_)
                    · replace t_s := t_s.1 c15_s
                      refine w_t (pc := 107) (e_s := (0, 2, 0, 0, 0, .int (-13), [])) (y_s := (109, [some (.ref _), some (.int _), some (.int _), some (.int _), some (.int _), some (.int _), none], [.int _], _)) rfl (u_ rfl) ?_
                      exact wrI (pc := 109) (len_s := 1) rfl hk t_s
                    · replace t_s := t_s.2 c15_s
                      refine w_t (pc := 75) (e_s := (1, 2, 4, 0, 0, .null, [])) (y_s := (77, [some (.ref _), some (.int _), some (.int _), some (.int _), some (.int _), some (.int _), none], [.int _], _)) rfl (u_ rfl) ?_
                      refine wq2 (pc := 77) (len_s := 3) rfl rfl (fun c16 => ?_) (fun c16 => ?_)
                      · replace t_s := t_s.1 c16
                        refine w_t (pc := 107) (e_s := (0, 2, 0, 0, 0, .int (-13), [])) (y_s := (109, [some (.ref _), some (.int _), some (.int _), some (.int _), some (.int _), some (.int _), none], [.int _], _)) rfl (u_ rfl) ?_
                        exact wrI (pc := 109) (len_s := 1) rfl hk t_s
                      · replace t_s := t_s.2 c16
                        refine w_t (pc := 80) (e_s := (1, 1, 2, 0, 0, .null, [])) (y_s := (81, [some (.ref _), some (.int _), some (.int _), some (.int _), some (.int _), some (.int _), none], [.int _], _)) rfl (u_ rfl) ?_
                        refine w_t (pc := 81) (e_s := (3, 1, 0, 0, 0, .null, [])) (y_s := (82, [some (.ref _), some (.int _), some (.int _), some (.int _), some (.int _), some (.int _), none], [.ref _, .int _], _)) rfl (u_ rfl) ?_
                        refine w20r (pc := 82) (len_s := 3) (q_s := 125) rfl (krq hk rfl) ?_
                        refine w_t (pc := 85) (e_s := (1, 1, 1, 0, 0, .null, [])) (y_s := (86, [some (.ref _), some (.int _), some (.int _), some (.int _), some (.int _), some (.int _), none], [.int _, .ref _, .int _], _)) rfl (u_ rfl) ?_
                        refine w22 (pc := 86) (len_s := 1) rfl (hk.1 125 0 6 rfl rfl) (fun c17 => ?_)
                        refine w_t (pc := 87) (e_s := (1, 2, 5, 0, 0, .null, [])) (y_s := (89, [some (.ref _), some (.int _), some (.int _), some (.int _), some (.int _), some (.int _), none], [.int _, .int _, .int _], _)) rfl (u_ rfl) ?_
                        refine w_t (pc := 89) (e_s := (7, 1, 0, 1, 0, .null, [])) (y_s := (90, [some (.ref _), some (.int _), some (.int _), some (.int _), some (.int _), some (.int _), none], [.int (_ - _), .int _], _)) rfl (u_ rfl) ?_
                        refine wi4 (pc := 90) (len_s := 3) rfl rfl rfl (fun c18_s => ?_) (fun c18_s => ?_)
                        · replace t_s := t_s.1 c18_s
                          refine w_t (pc := 107) (e_s := (0, 2, 0, 0, 0, .int (-13), [])) (y_s := (109, [some (.ref _), some (.int _), some (.int _), some (.int _), some (.int _), some (.int _), none], [.int _], _)) rfl (u_ rfl) ?_
                          exact wrI (pc := 109) (len_s := 1) rfl hk t_s
                        · replace t_s := t_s.2 c18_s
                          refine w_t (pc := 93) (e_s := (1, 2, 4, 0, 0, .null, [])) (y_s := (95, [some (.ref _), some (.int _), some (.int _), some (.int _), some (.int _), some (.int _), none], [.int _], _)) rfl (u_ rfl) ?_
                          refine w_t (pc := 95) (e_s := (3, 1, 0, 0, 0, .null, [])) (y_s := (96, [some (.ref _), some (.int _), some (.int _), some (.int _), some (.int _), some (.int _), none], [.ref _, .int _], _)) rfl (u_ rfl) ?_
                          refine w20r (pc := 96) (len_s := 3) (q_s := 125) rfl (krq hk rfl) ?_
                          refine w_t (pc := 99) (e_s := (1, 1, 3, 0, 0, .null, [])) (y_s := (100, [some (.ref _), some (.int _), some (.int _), some (.int _), some (.int _), some (.int _), none], [.int _, .ref _, .int _], _)) rfl (u_ rfl) ?_
                          refine w22 (pc := 100) (len_s := 1) rfl (hk.1 125 0 6 rfl rfl) (fun c19_s => ?_)
                          refine w_t (pc := 101) (e_s := (1, 2, 5, 0, 0, .null, [])) (y_s := (103, [some (.ref _), some (.int _), some (.int _), some (.int _), some (.int _), some (.int _), none], [.int _, .int _, .int _], _)) rfl (u_ rfl) ?_
                          refine w_t (pc := 103) (e_s := (7, 1, 0, 1, 0, .null, [])) (y_s := (104, [some (.ref _), some (.int _), some (.int _), some (.int _), some (.int _), some (.int _), none], [.int (_ - _), .int _], _)) rfl (u_ rfl) ?_
                          refine wi5 (pc := 104) (len_s := 3) rfl rfl rfl (fun c20_s => ?_) (fun c20_s => ?_)
                          · replace t_s := t_s.1 c20_s
                            refine w_t (pc := 107) (e_s := (0, 2, 0, 0, 0, .int (-13), [])) (y_s := (109, [some (.ref _), some (.int _), some (.int _), some (.int _), some (.int _), some (.int _), none], [.int _], _)) rfl (u_ rfl) ?_
                            exact wrI (pc := 109) (len_s := 1) rfl hk t_s
                          · replace t_s := t_s.2 c20_s
                            refine w_t (pc := 110) (e_s := (0, 1, 0, 0, 0, .int 0, [])) (y_s := (111, [some (.ref _), some (.int _), some (.int _), some (.int _), some (.int _), some (.int _), none], [.int _], _)) rfl (u_ rfl) ?_
                            refine w_t (pc := 111) (e_s := (4, 2, 6, 0, 0, .null, [])) (y_s := (113, [some (.ref _), some (.int _), some (.int _), some (.int _), some (.int _), some (.int _), some (.int _)], [], _)) rfl (u_ rfl) ?_
                            exact t_s
                · replace t_s := t_s.2 c13_s
                  refine w_t (pc := 63) (e_s := (0, 2, 0, 0, 0, .int (-12), [])) (y_s := (65, [some (.ref _), some (.int _), some (.int _), some (.int _), some (.int _), some (.int _), none], [.int _], _)) rfl (u_ rfl) ?_
                  exact wrI (pc := 65) (len_s := 1) rfl hk t_s
/-- ColdShodModel.shift(IIIII)I, from 113 on -/
theorem sg_235_113 {F_s : Nat} {x1_s x2_s x3 x4_s x5_s x6 : Int32} {h_s : zH} {K_s : Int32 → zH → Prop} (hk : hKn h_s) (t_s : (x6.toInt < x5_s.toInt → (zix (((60 * x1_s) + x2_s) + x6) < 360 → (zix x6 < 60 → wF F_s 235 (113, [some (.ref 102), some (.int x1_s), some (.int x2_s), some (.int x3), some (.int x4_s), some (.int x5_s), some (.int (x6 + 1))], [], (h_s.1, h_s.2.1, zup h_s.2.2.1 127 (zix x6) (h_s.2.2.1 126 (zix (((60 * x1_s) + x2_s) + x6))), h_s.2.2.2)) (gI K_s)))) ∧ (¬ x6.toInt < x5_s.toInt → wF F_s 235 (150, [some (.ref 102), some (.int x1_s), some (.int x2_s), some (.int x3), some (.int x4_s), some (.int x5_s), some (.int 0)], [], h_s) (gI K_s))) : wF (F_s + 1) 235 (113, [some (.ref 102), some (.int x1_s), some (.int x2_s), some (.int x3), some (.int x4_s), some (.int x5_s), some (.int x6)], [], h_s) (gI K_s) := by
  refine w_0 (pc := 113) (e_s := (1, 2, 6, 0, 0, .null, [])) (y_s := (115, [some (.ref _), some (.int _), some (.int _), some (.int _), some (.int _), some (.int _), some (.int _)], [.int _], _)) rfl (u_ rfl) ?_
  refine w_t (pc := 115) (e_s := (1, 2, 5, 0, 0, .null, [])) (y_s := (117, [some (.ref _), some (.int _), some (.int _), some (.int _), some (.int _), some (.int _), some (.int _)], [.int _, .int _], _)) rfl (u_ rfl) ?_
  refine wi3 (pc := 117) (len_s := 3) rfl rfl rfl (fun c1_s => ?_) (fun c1_s => ?_)
  · replace t_s := t_s.1 c1_s
    refine w_t (pc := 120) (e_s := (3, 1, 0, 0, 0, .null, [])) (y_s := (121, [some (.ref _), some (.int _), some (.int _), some (.int _), some (.int _), some (.int _), some (.int _)], [.ref _], _)) rfl (u_ rfl) ?_
    refine w20r (pc := 121) (len_s := 3) (q_s := 127) rfl (krq hk rfl) ?_
    refine w_t (pc := 124) (e_s := (1, 2, 6, 0, 0, .null, [])) (y_s := (126, [some (.ref _), some (.int _), some (.int _), some (.int _), some (.int _), some (.int _), some (.int _)], [.int _, .ref _], _)) rfl (u_ rfl) ?_
    refine w_t (pc := 126) (e_s := (3, 1, 0, 0, 0, .null, [])) (y_s := (127, [some (.ref _), some (.int _), some (.int _), some (.int _), some (.int _), some (.int _), some (.int _)], [.ref _, .int _, .ref _], _)) rfl (u_ rfl) ?_
    refine w20r (pc := 127) (len_s := 3) (q_s := 126) rfl (krq hk rfl) ?_
    refine w_t (pc := 130) (e_s := (0, 2, 0, 0, 0, .int 60, [])) (y_s := (132, [some (.ref _), some (.int _), some (.int _), some (.int _), some (.int _), some (.int _), some (.int _)], [.int _, .ref _, .int _, .ref _], _)) rfl (u_ rfl) ?_
    refine w_t (pc := 132) (e_s := (1, 1, 1, 0, 0, .null, [])) (y_s := (133, [some (.ref _), some (.int _), some (.int _), some (.int _), some (.int _), some (.int _), some (.int _)], [.int _, .int _, .ref _, .int _, .ref _], _)) rfl (u_ rfl) ?_
    refine w_t (pc := 133) (e_s := (7, 1, 0, 2, 0, .null, [])) (y_s := (134, [some (.ref _), some (.int _), some (.int _), some (.int _), some (.int _), some (.int _), some (.int _)], [.int (_ * _), .ref _, .int _, .ref _], _)) rfl (u_ rfl) ?_
    refine w_t (pc := 134) (e_s := (1, 1, 2, 0, 0, .null, [])) (y_s := (135, [some (.ref _), some (.int _), some (.int _), some (.int _), some (.int _), some (.int _), some (.int _)], [.int _, .int _, .ref _, .int _, .ref _], _)) rfl (u_ rfl) ?_
    refine w_t (pc := 135) (e_s := (7, 1, 0, 0, 0, .null, [])) (y_s := (136, [some (.ref _), some (.int _), some (.int _), some (.int _), some (.int _), some (.int _), some (.int _)], [.int (_ + _), .ref _, .int _, .ref _], _)) rfl (u_ rfl) ?_
    refine w_t (pc := 136) (e_s := (1, 2, 6, 0, 0, .null, [])) (y_s := (138, [some (.ref _), some (.int _), some (.int _), some (.int _), some (.int _), some (.int _), some (.int _)], [.int _, .int _, .ref _, .int _, .ref _], _)) rfl (u_ rfl) ?_
    refine w_t (pc := 138) (e_s := (7, 1, 0, 0, 0, .null, [])) (y_s := (139, [some (.ref _), some (.int _), some (.int _), some (.int _), some (.int _), some (.int _), some (.int _)], [.int (_ + _), .ref _, .int _, .ref _], _)) rfl (u_ rfl) ?_
    refine w23 (pc := 139) (len_s := 1) rfl (hk.1 126 1 360 rfl rfl) (fun c2_s => ?_)
    replace t_s := t_s c2_s
    refine w26 (pc := 140) (len_s := 1) rfl (hk.1 127 1 60 rfl rfl) (fun c3_s => ?_)
    replace t_s := t_s c3_s
    refine w_t (pc := 141) (e_s := (19, 3, 6, 0, 0, .int 1, [])) (y_s := (144, [some (.ref _), some (.int _), some (.int _), some (.int _), some (.int _), some (.int _), some (.int _)], [], _)) rfl (u_ rfl) ?_
    refine w_t (pc := 144) (e_s := (17, 3, 113, 0, 0, .null, [])) (y_s := (113, [some (.ref _), some (.int _), some (.int _), some (.int _), some (.int _), some (.int _), some (.int _)], [], _)) rfl (u_ rfl) ?_
    exact t_s
  · replace t_s := t_s.2 c1_s
    refine w_t (pc := 147) (e_s := (0, 1, 0, 0, 0, .int 0, [])) (y_s := (148, [some (.ref _), some (.int _), some (.int _), some (.int _), some (.int _), some (.int _), some (.int _)], [.int _], _)) rfl (u_ rfl) ?_
    refine w_t (pc := 148) (e_s := (4, 2, 6, 0, 0, .null, [])) (y_s := (150, [some (.ref _), some (.int _), some (.int _), some (.int _), some (.int _), some (.int _), some (.int _)], [], _)) rfl (u_ rfl) ?_
    exact t_s
/-- ColdShodModel.shift(IIIII)I, from 150 on -/
theorem sg_235_150 {F_s : Nat} {x1_s x2_s x3 x4_s x5_s x6 : Int32} {h_s : zH} {K_s : Int32 → zH → Prop} (hk : hKn h_s) (t_s : (x6.toInt < x5_s.toInt → (zix x6 < 60 → (zix (((60 * x3) + x4_s) + x6) < 360 → wF F_s 235 (150, [some (.ref 102), some (.int x1_s), some (.int x2_s), some (.int x3), some (.int x4_s), some (.int x5_s), some (.int (x6 + 1))], [], (h_s.1, h_s.2.1, zup h_s.2.2.1 126 (zix (((60 * x3) + x4_s) + x6)) (h_s.2.2.1 127 (zix x6)), h_s.2.2.2)) (gI K_s)))) ∧ (¬ x6.toInt < x5_s.toInt → K_s x5_s h_s)) : wF (F_s + 1) 235 (150, [some (.ref 102), some (.int x1_s), some (.int x2_s), some (.int x3), some (.int x4_s), some (.int x5_s), some (.int x6)], [], h_s) (gI K_s) := by
  refine w_0 (pc := 150) (e_s := (1, 2, 6, 0, 0, .null, [])) (y_s := (152, [some (.ref _), some (.int _), some (.int _), some (.int _), some (.int _), some (.int _), some (.int _)], [.int _], _)) rfl (u_ rfl) ?_
  refine w_t (pc := 152) (e_s := (1, 2, 5, 0, 0, .null, [])) (y_s := (154, [some (.ref _), some (.int _), some (.int _), some (.int _), some (.int _), some (.int _), some (.int _)], [.int _, .int _], _)) rfl (u_ rfl) ?_
  refine wi3 (pc := 154) (len_s := 3) rfl rfl rfl (fun c1_s => ?_) (fun c1_s => ?_)
  · replace t_s := t_s.1 c1_s
    refine w_t (pc := 157) (e_s := (3, 1, 0, 0, 0, .null, [])) (y_s := (158, [some (.ref _), some (.int _), some (.int _), some (.int _), some (.int _), some (.int _), some (.int _)], [.ref _], _)) rfl (u_ rfl) ?_
    refine w20r (pc := 158) (len_s := 3) (q_s := 126) rfl (krq hk rfl) ?_
    refine w_t (pc := 161) (e_s := (0, 2, 0, 0, 0, .int 60, [])) (y_s := (163, [some (.ref _), some (.int _), some (.int _), some (.int _), some (.int _), some (.int _), some (.int _)], [.int _, .ref _], _)) rfl (u_ rfl) ?_
    refine w_t (pc := 163) (e_s := (1, 1, 3, 0, 0, .null, [])) (y_s := (164, [some (.ref _), some (.int _), some (.int _), some (.int _), some (.int _), some (.int _), some (.int _)], [.int _, .int _, .ref _], _)) rfl (u_ rfl) ?_
    refine w_t (pc := 164) (e_s := (7, 1, 0, 2, 0, .null, [])) (y_s := (165, [some (.ref _), some (.int _), some (.int _), some (.int _), some (.int _), some (.int _), some (.int _)], [.int (_ * _), .ref _], _)) rfl (u_ rfl) ?_
    refine w_t (pc := 165) (e_s := (1, 2, 4, 0, 0, .null, [])) (y_s := (167, [some (.ref _), some (.int _), some (.int _), some (.int _), some (.int _), some (.int _), some (.int _)], [.int _, .int _, .ref _], _)) rfl (u_ rfl) ?_
    refine w_t (pc := 167) (e_s := (7, 1, 0, 0, 0, .null, [])) (y_s := (168, [some (.ref _), some (.int _), some (.int _), some (.int _), some (.int _), some (.int _), some (.int _)], [.int (_ + _), .ref _], _)) rfl (u_ rfl) ?_
    refine w_t (pc := 168) (e_s := (1, 2, 6, 0, 0, .null, [])) (y_s := (170, [some (.ref _), some (.int _), some (.int _), some (.int _), some (.int _), some (.int _), some (.int _)], [.int _, .int _, .ref _], _)) rfl (u_ rfl) ?_
    refine w_t (pc := 170) (e_s := (7, 1, 0, 0, 0, .null, [])) (y_s := (171, [some (.ref _), some (.int _), some (.int _), some (.int _), some (.int _), some (.int _), some (.int _)], [.int (_ + _), .ref _], _)) rfl (u_ rfl) ?_
    refine w_t (pc := 171) (e_s := (3, 1, 0, 0, 0, .null, [])) (y_s := (172, [some (.ref _), some (.int _), some (.int _), some (.int _), some (.int _), some (.int _), some (.int _)], [.ref _, .int _, .ref _], _)) rfl (u_ rfl) ?_
    refine w20r (pc := 172) (len_s := 3) (q_s := 127) rfl (krq hk rfl) ?_
    refine w_t (pc := 175) (e_s := (1, 2, 6, 0, 0, .null, [])) (y_s := (177, [some (.ref _), some (.int _), some (.int _), some (.int _), some (.int _), some (.int _), some (.int _)], [.int _, .ref _, .int _, .ref _], _)) rfl (u_ rfl) ?_
    refine w23 (pc := 177) (len_s := 1) rfl (hk.1 127 1 60 rfl rfl) (fun c2_s => ?_)
    replace t_s := t_s c2_s
    refine w26 (pc := 178) (len_s := 1) rfl (hk.1 126 1 360 rfl rfl) (fun c3_s => ?_)
    replace t_s := t_s c3_s
    refine w_t (pc := 179) (e_s := (19, 3, 6, 0, 0, .int 1, [])) (y_s := (182, [some (.ref _), some (.int _), some (.int _), some (.int _), some (.int _), some (.int _), some (.int _)], [], _)) rfl (u_ rfl) ?_
    refine w_t (pc := 182) (e_s := (17, 3, 150, 0, 0, .null, [])) (y_s := (150, [some (.ref _), some (.int _), some (.int _), some (.int _), some (.int _), some (.int _), some (.int _)], [], _)) rfl (u_ rfl) ?_
    exact t_s
  · replace t_s := t_s.2 c1_s
    refine w_t (pc := 185) (e_s := (1, 2, 5, 0, 0, .null, [])) (y_s := (187, [some (.ref _), some (.int _), some (.int _), some (.int _), some (.int _), some (.int _), some (.int _)], [.int _], _)) rfl (u_ rfl) ?_
    exact wrI (pc := 187) (len_s := 1) rfl hk t_s
/-! SHELVES, by hand: class and reference hold the same. -/
/-- Arrays.fill of a row of longs -/
theorem fillJ {o m_s : Nat} {y_s : Int64} {h_s : zH} {K_s : zH → Prop} (hm_s : m_s ≤ 3072) (hk : hKn h_s) (hz : zget h_s.1 o = some (1, m_s)) (t_s : ∀ g_s, (∀ k_s, k_s < m_s → g_s o k_s = y_s) → (∀ a_s k_s, ¬ (a_s = o ∧ k_s < m_s) → g_s a_s k_s = h_s.2.2.1 a_s k_s) → K_s (h_s.1, h_s.2.1, g_s, h_s.2.2.2)) : ∀ (F_s j_s : Nat) (i_s : Int32) (g_s : Nat → Nat → Int64), i_s.toInt = (j_s : Int) → j_s ≤ m_s → (∀ k_s, k_s < j_s → g_s o k_s = y_s) → (∀ a_s k_s, ¬ (a_s = o ∧ k_s < j_s) → g_s a_s k_s = h_s.2.2.1 a_s k_s) → wF F_s 239 (6, [some (.ref o), some (.long y_s), none, some (.int i_s), some (.int (Int32.ofNat m_s))], [], (h_s.1, h_s.2.1, g_s, h_s.2.2.2)) (gV K_s)
  | 0, _, _, _, _, _, _, _ => wF_zero
  | F_s + 1, j_s, i_s, g_s, hi_s, hj, g1, g2 => by
    have em := na_ofn hm_s
    refine sg_239_6 (h_s := (h_s.1, h_s.2.1, g_s, h_s.2.2.2)) hz hk ⟨fun c1_s => fun c2_s => ?_, fun c1_s => ?_⟩
    · have zi_ := azix (i := i_s) (by omega)
      have ez : zix i_s = j_s := by omega
      refine fillJ hm_s hk hz t_s F_s (j_s + 1) (i_s + 1) _ (by rw [in1_ (by omega)]; omega) (by omega) (fun k_s hk1 => ?_) (fun a_s k_s hk1 => ?_)
      · by_cases e_s : k_s = j_s
        · subst e_s
          rw [ez]
          exact zsame_up
        · rw [zne_up (by omega)]
          exact g1 k_s (by omega)
      · rw [zne_up (by omega)]
        exact g2 a_s k_s (by omega)
    · have ej : j_s = m_s := by omega
      subst ej
      exact t_s g_s g1 g2
section SH
variable {F_s : Nat} {h_s : zH} {K_s : Int32 → zH → Prop} {L_s : Int64 → zH → Prop} {x1_s x2_s x3 x4_s x5_s : Int32} {y3 : Int64}
/-- row -/
theorem sp_129 (hk : hKn h_s) (t1_s : x1_s.toInt < 0 ∨ 5 < x1_s.toInt ∨ x2_s.toInt < 0 ∨ 4 < x2_s.toInt ∨ 60 < x3.toInt → K_s (-1) h_s) (t2_s : ¬ (x1_s.toInt < 0 ∨ 5 < x1_s.toInt ∨ x2_s.toInt < 0 ∨ 4 < x2_s.toInt ∨ 60 < x3.toInt) → x3.toInt < 0 → K_s (-14) h_s) (t3_s : ¬ (x1_s.toInt < 0 ∨ 5 < x1_s.toInt ∨ x2_s.toInt < 0 ∨ 4 < x2_s.toInt ∨ 60 < x3.toInt) → ¬ x3.toInt < 0 → zix x1_s < 6 → ∀ g_s, (∀ k_s, k_s < 60 → g_s (76 + 2 * zix x1_s + 1) k_s = 0) → (∀ a_s k_s, ¬ (a_s = 76 + 2 * zix x1_s + 1 ∧ k_s < 60) → g_s a_s k_s = h_s.2.2.1 a_s k_s) → K_s 1 (h_s.1, zup (zup (zup h_s.2.1 (76 + 2 * zix x1_s) 0 2) (76 + 2 * zix x1_s) 2 x2_s) (76 + 2 * zix x1_s) 3 x3, g_s, h_s.2.2.2)) : wF F_s 129 (0, [some (.ref 6), some (.int x1_s), some (.int x2_s), some (.int x3)], [], h_s) (gI K_s) := by
  refine wF_le (Nat.le_succ F_s) (sg_129_0 hk ⟨fun c1_s => t1_s (by omega), fun c1_s => ⟨fun c2_s => ⟨fun c3_s => t1_s (by omega), fun c3_s => ⟨fun c4_s => t1_s (by omega), fun c4_s => ⟨fun c5_s => t1_s (by omega), fun c5_s => ⟨fun c6_s => t2_s (by omega) c6_s, fun c6_s => fun c7_s => ?_⟩⟩⟩⟩, fun c2_s => t1_s (by omega)⟩⟩)
  cases F_s with
  | zero => exact wF_zero
  | succ F_s =>
    refine sg_239_0 (h_s := (h_s.1, zup (zup (zup h_s.2.1 (76 + 2 * zix x1_s) 0 2) (76 + 2 * zix x1_s) 2 x2_s) (76 + 2 * zix x1_s) 3 x3, h_s.2.2.1, h_s.2.2.2)) (kshz hk c7_s) hk ?_
    exact fillJ (h_s := (h_s.1, zup (zup (zup h_s.2.1 (76 + 2 * zix x1_s) 0 2) (76 + 2 * zix x1_s) 2 x2_s) (76 + 2 * zix x1_s) 3 x3, h_s.2.2.1, h_s.2.2.2)) (by omega) hk (kshz hk c7_s) (fun g_s g1 g2 _ => t3_s (by omega) c6_s c7_s g_s g1 g2) F_s 0 0 _ rfl (Nat.zero_le _) (fun k_s hq => absurd hq (Nat.not_lt_zero k_s)) (fun _ _ _ => rfl)
theorem row_r {h_s : zH} {K_s : Int32 → zH → Prop} (hk : hKn h_s) (h0 : 0 ≤ x1_s.toInt) (h1 : x1_s.toInt ≤ 5) (t_s : ∀ g_s, (∀ k_s, 60 * zix x1_s ≤ k_s → k_s < 60 * zix x1_s + 60 → g_s 126 k_s = 0) → (∀ a_s k_s, ¬ (a_s = 126 ∧ 60 * zix x1_s ≤ k_s ∧ k_s < 60 * zix x1_s + 60) → g_s a_s k_s = h_s.2.2.1 a_s k_s) → K_s 1 (h_s.1, h_s.2.1, g_s, h_s.2.2.2)) : ∀ (F_s j_s : Nat) (i_s : Int32) (g_s : Nat → Nat → Int64), i_s.toInt = (60 * zix x1_s + j_s : Nat) → j_s ≤ 60 → (∀ k_s, 60 * zix x1_s ≤ k_s → k_s < 60 * zix x1_s + j_s → g_s 126 k_s = 0) → (∀ a_s k_s, ¬ (a_s = 126 ∧ 60 * zix x1_s ≤ k_s ∧ k_s < 60 * zix x1_s + j_s) → g_s a_s k_s = h_s.2.2.1 a_s k_s) → wF F_s 230 (57, [some (.ref 102), some (.int x1_s), some (.int x2_s), some (.int x3), some (.int i_s)], [], (h_s.1, h_s.2.1, g_s, h_s.2.2.2)) (gI K_s)
  | 0, _, _, _, _, _, _, _ => wF_zero
  | F_s + 1, j_s, i_s, g_s, hi_s, hj, g1, g2 => by
    have e1_s := a60_ (i_s := 60) h0 h1 (by decide) (by decide)
    rw [i60_] at e1_s
    have a1_s := azix h0
    refine sg_230_57 (h_s := (h_s.1, h_s.2.1, g_s, h_s.2.2.2)) hk ⟨fun c1_s => fun c2_s => ?_, fun c1_s => ?_⟩
    · have zi_ := azix (i := i_s) (by omega)
      have ez : zix i_s = 60 * zix x1_s + j_s := by omega
      refine row_r hk h0 h1 t_s F_s (j_s + 1) (i_s + 1) _ (by rw [in1_ (by omega)]; omega) (by omega) (fun k_s hk1 hk2 => ?_) (fun a_s k_s hk1 => ?_)
      · by_cases e_s : k_s = 60 * zix x1_s + j_s
        · subst e_s
          rw [ez]
          exact zsame_up
        · rw [zne_up (by omega)]
          exact g1 k_s hk1 (by omega)
      · rw [zne_up (by omega)]
        exact g2 a_s k_s (by omega)
    · have ej : j_s = 60 := by omega
      subst ej
      exact t_s g_s g1 g2
theorem sp_230 (hk : hKn h_s) (t1_s : x1_s.toInt < 0 ∨ 5 < x1_s.toInt ∨ x2_s.toInt < 0 ∨ 4 < x2_s.toInt ∨ 60 < x3.toInt → K_s (-1) h_s) (t2_s : ¬ (x1_s.toInt < 0 ∨ 5 < x1_s.toInt ∨ x2_s.toInt < 0 ∨ 4 < x2_s.toInt ∨ 60 < x3.toInt) → x3.toInt < 0 → K_s (-14) h_s) (t3_s : ¬ (x1_s.toInt < 0 ∨ 5 < x1_s.toInt ∨ x2_s.toInt < 0 ∨ 4 < x2_s.toInt ∨ 60 < x3.toInt) → ¬ x3.toInt < 0 → zix x1_s < 6 → ∀ g_s, (∀ k_s, 60 * zix x1_s ≤ k_s → k_s < 60 * zix x1_s + 60 → g_s 126 k_s = 0) → (∀ a_s k_s, ¬ (a_s = 126 ∧ 60 * zix x1_s ≤ k_s ∧ k_s < 60 * zix x1_s + 60) → g_s a_s k_s = h_s.2.2.1 a_s k_s) → K_s 1 (h_s.1, zup (zup h_s.2.1 124 (zix x1_s) (50 + x2_s)) 125 (zix x1_s) x3, g_s, h_s.2.2.2)) : wF F_s 230 (0, [some (.ref 102), some (.int x1_s), some (.int x2_s), some (.int x3), none], [], h_s) (gI K_s) := by
  refine wF_le (Nat.le_succ F_s) (sg_230_0 hk ⟨fun c1_s => t1_s (by omega), fun c1_s => ⟨fun c2_s => t1_s (by omega), fun c2_s => ⟨fun c3_s => t1_s (by omega), fun c3_s => ⟨fun c4_s => t1_s (by omega), fun c4_s => ⟨fun c5_s => t1_s (by omega), fun c5_s => ⟨fun c6_s => t2_s (by omega) c6_s, fun c6_s => fun c7_s => ?_⟩⟩⟩⟩⟩⟩)
  have a1_s := azix (i := x1_s) (by omega)
  have e_s := m60_ (d_s := x1_s) (by omega) (by omega)
  exact row_r (h_s := (h_s.1, zup (zup h_s.2.1 124 (zix x1_s) (50 + x2_s)) 125 (zix x1_s) x3, h_s.2.2.1, h_s.2.2.2)) hk (by omega) (by omega) (fun g_s g1 g2 => t3_s (by omega) c6_s c7_s g_s g1 g2) F_s 0 (60 * x1_s) _ (by omega) (Nat.zero_le _) (fun k_s q1_s q2_s => by omega) (fun _ _ _ => rfl)
/-- keep -/
theorem sp_128 (hk : hKn h_s) (t1_s : x1_s.toInt < 0 ∨ 5 < x1_s.toInt ∨ (¬ x2_s.toInt = -1 ∧ (x2_s.toInt < 0 ∨ (h_s.2.1 47 1).toInt ≤ x2_s.toInt)) → K_s (-1) h_s) (t2_s : 0 ≤ x1_s.toInt → x1_s.toInt ≤ 5 → x2_s.toInt = -1 → zix x1_s < 6 → K_s 1 (h_s.1, zup h_s.2.1 (76 + 2 * zix x1_s) 0 0, h_s.2.2.1, h_s.2.2.2)) (t3_s : 0 ≤ x1_s.toInt → x1_s.toInt ≤ 5 → 0 ≤ x2_s.toInt → x2_s.toInt < (h_s.2.1 47 1).toInt → zix x1_s < 6 → K_s 1 (h_s.1, zup (zup h_s.2.1 (76 + 2 * zix x1_s) 0 1) (76 + 2 * zix x1_s) 1 x2_s, h_s.2.2.1, h_s.2.2.2)) : wF F_s 128 (0, [some (.ref 6), some (.int x1_s), some (.int x2_s)], [], h_s) (gI K_s) := by
  refine wF_le (Nat.le_succ F_s) (sg_128_0 hk ⟨fun c1_s => ?_, fun c1_s => ⟨fun c2_s => ⟨fun c3_s => fun c5_s => ?_, fun c3_s => ⟨fun c6_s => ?_, fun c6_s => ⟨fun c7_s => fun c9_s => ?_, fun c7_s => ?_⟩⟩⟩, fun c2_s => ?_⟩⟩)
  · exact t1_s (by omega)
  · exact t2_s (by omega) (by omega) (by omega) (by assumption)
  · exact t1_s (by omega)
  · exact t3_s (by omega) (by omega) (by omega) (by omega) (by assumption)
  · exact t1_s (by omega)
  · exact t1_s (by omega)
theorem sp_229 (hk : hKn h_s) (hb_s : 0 ≤ (h_s.2.1 102 39).toInt) (t1_s : x1_s.toInt < 0 ∨ 5 < x1_s.toInt ∨ (¬ x2_s.toInt = -1 ∧ (x2_s.toInt < 0 ∨ (h_s.2.1 102 39).toInt ≤ x2_s.toInt)) → K_s (-1) h_s) (t2_s : 0 ≤ x1_s.toInt → x1_s.toInt ≤ 5 → (x2_s.toInt = -1 ∨ (0 ≤ x2_s.toInt ∧ x2_s.toInt < (h_s.2.1 102 39).toInt)) → zix x1_s < 6 → K_s 1 (h_s.1, zup (zup h_s.2.1 124 (zix x1_s) x2_s) 125 (zix x1_s) 0, h_s.2.2.1, h_s.2.2.2)) : wF F_s 229 (0, [some (.ref 102), some (.int x1_s), some (.int x2_s)], [], h_s) (gI K_s) := by
  have r_s := na_rng (h_s.2.1 102 39)
  have e_s : (h_s.2.1 102 39 - 1).toInt = (h_s.2.1 102 39).toInt - 1 := by rw [na_sub (by rw [n1_]; omega) (by rw [n1_]; omega), n1_]
  refine wF_le (Nat.le_succ F_s) (sg_229_0 hk ⟨fun c1_s => ?_, fun c1_s => ⟨fun c2_s => ?_, fun c2_s => ⟨fun c3_s => fun c4_s => ?_, fun c3_s => ⟨fun c6_s => ?_, fun c6_s => ⟨fun c7_s => ?_, fun c7_s => fun c8_s => ?_⟩⟩⟩⟩⟩)
  · exact t1_s (by omega)
  · exact t1_s (by omega)
  · exact t2_s (by omega) (by omega) (by omega) (by assumption)
  · exact t1_s (by omega)
  · exact t1_s (by omega)
  · exact t2_s (by omega) (by omega) (by omega) (by assumption)
/-- body -/
theorem sp_125 (hk : hKn h_s) (t1_s : x1_s.toInt < 0 ∨ 7 < x1_s.toInt → K_s (-1) h_s) (t2_s : 0 ≤ x1_s.toInt → x1_s.toInt ≤ 7 → 50 ≤ (h_s.2.1 47 1).toInt → K_s (-3) h_s) (t3_s : 0 ≤ x1_s.toInt → x1_s.toInt ≤ 7 → (h_s.2.1 47 1).toInt < 50 → K_s (h_s.2.1 47 1) (h_s.1, zup (zup h_s.2.1 48 (zix (h_s.2.1 47 1)) x1_s) 47 1 ((h_s.2.1 47 1) + 1), h_s.2.2.1, h_s.2.2.2)) : wF F_s 125 (0, [some (.ref 6), some (.int x1_s)], [], h_s) (gI K_s) := by
  refine wF_le (Nat.le_succ F_s) (sg_125_0 hk ⟨fun c1_s => ?_, fun c1_s => ⟨fun c2_s => ⟨fun c3_s => fun c4_s => ?_, fun c3_s => ?_⟩, fun c2_s => ?_⟩⟩)
  · exact t1_s (by omega)
  · exact t3_s (by omega) (by omega) (by omega)
  · exact t2_s (by omega) (by omega) (by omega)
  · exact t1_s (by omega)
theorem sp_219 (hk : hKn h_s) (t1_s : x1_s.toInt < 0 ∨ 7 < x1_s.toInt → K_s (-1) h_s) (t2_s : 0 ≤ x1_s.toInt → x1_s.toInt ≤ 7 → (h_s.2.1 102 39).toInt = 50 → K_s (-3) h_s) (t3_s : 0 ≤ x1_s.toInt → x1_s.toInt ≤ 7 → ¬ (h_s.2.1 102 39).toInt = 50 → K_s (h_s.2.1 102 39 + 1 - 1) (h_s.1, zup (zup h_s.2.1 122 (zix (h_s.2.1 102 39)) x1_s) 102 39 ((h_s.2.1 102 39) + 1), h_s.2.2.1, h_s.2.2.2)) : wF F_s 219 (0, [some (.ref 102), some (.int x1_s)], [], h_s) (gI K_s) := by
  refine wF_le (Nat.le_succ F_s) (sg_219_0 hk ⟨fun c1_s => ?_, fun c1_s => ⟨fun c2_s => ?_, fun c2_s => ⟨fun c3_s => ?_, fun c3_s => fun c4_s => ?_⟩⟩⟩)
  · exact t1_s (by omega)
  · exact t1_s (by omega)
  · exact t2_s (by omega) (by omega) (by omega)
  · exact t3_s (by omega) (by omega) (by omega)
/-- element -/
theorem sp_131 (hk : hKn h_s) (t1_s : x1_s.toInt < 0 ∨ 5 < x1_s.toInt ∨ ¬ (h_s.2.1 (76 + 2 * zix x1_s) 0).toInt = 2 ∨ x2_s.toInt < 0 ∨ (h_s.2.1 (76 + 2 * zix x1_s) 3).toInt ≤ x2_s.toInt → L_s (-9223372036854775808) h_s) (t2_s : 0 ≤ x1_s.toInt → x1_s.toInt ≤ 5 → zix x1_s < 6 → (h_s.2.1 (76 + 2 * zix x1_s) 0).toInt = 2 → 0 ≤ x2_s.toInt → x2_s.toInt < (h_s.2.1 (76 + 2 * zix x1_s) 3).toInt → zix x2_s < 60 → L_s (h_s.2.2.1 (76 + 2 * zix x1_s + 1) (zix x2_s)) h_s) : wF F_s 131 (0, [some (.ref 6), some (.int x1_s), some (.int x2_s)], [], h_s) (gJ L_s) := by
  refine wF_le (Nat.le_succ F_s) (sg_131_0 hk ⟨fun c1_s => ?_, fun c1_s => ⟨fun c2_s => fun c3_s => ⟨fun c4_s => ?_, fun c4_s => ⟨fun c6_s => ⟨fun c7_s => ?_, fun c7_s => ⟨fun c9_s => fun c11_s => ?_, fun c9_s => ?_⟩⟩, fun c6_s => ?_⟩⟩, fun c2_s => ?_⟩⟩)
  · exact t1_s (by omega)
  · exact t1_s (by omega)
  · exact t1_s (by omega)
  · exact t2_s (by omega) (by omega) (by assumption) (by omega) (by omega) (by omega) (by assumption)
  · exact t1_s (by omega)
  · exact t1_s (by omega)
  · exact t1_s (by omega)
theorem sp_234 (hk : hKn h_s) (t1_s : x1_s.toInt < 0 ∨ 5 < x1_s.toInt ∨ (h_s.2.1 124 (zix x1_s)).toInt < 50 ∨ x2_s.toInt < 0 ∨ (h_s.2.1 125 (zix x1_s)).toInt ≤ x2_s.toInt → L_s (-9223372036854775808) h_s) (t2_s : 0 ≤ x1_s.toInt → x1_s.toInt ≤ 5 → zix x1_s < 6 → 50 ≤ (h_s.2.1 124 (zix x1_s)).toInt → 0 ≤ x2_s.toInt → x2_s.toInt < (h_s.2.1 125 (zix x1_s)).toInt → L_s (h_s.2.2.1 126 (zix (60 * x1_s + x2_s))) h_s) : wF F_s 234 (0, [some (.ref 102), some (.int x1_s), some (.int x2_s)], [], h_s) (gJ L_s) := by
  refine wF_le (Nat.le_succ F_s) (sg_234_0 hk ⟨fun c1_s => ?_, fun c1_s => ⟨fun c2_s => ?_, fun c2_s => fun c3_s => ⟨fun c4_s => ?_, fun c4_s => ⟨fun c6_s => ?_, fun c6_s => ⟨fun c7_s => ?_, fun c7_s => ⟨fun c9_s => fun c10_s => ?_, fun c9_s => ?_⟩⟩⟩⟩⟩⟩)
  · exact t1_s (by omega)
  · exact t1_s (by omega)
  · exact t1_s (by omega)
  · exact t1_s (by omega)
  · exact t1_s (by omega)
  · exact t2_s (by omega) (by omega) (by assumption) (by omega) (by omega) (by omega)
  · exact t1_s (by omega)
end SH
/-! SHELVES, by hand: put, shift; what ties class and reference. -/
noncomputable def cutv (s_s : Int) (y_s : Int64) : Int64 := if s_s = 0 then y_s.toInt32.toInt8.toInt32.toInt64 else if s_s = 1 then y_s.toInt32.toInt16.toInt32.toInt64 else if s_s = 2 then y_s.toInt32.toInt64 else if s_s = 4 then (if y_s.toInt = 0 then 0 else 1) else y_s
section SP
variable {F_s : Nat} {h_s : zH} {K_s : Int32 → zH → Prop} {x1_s x2_s x3 x4_s x5_s : Int32} {y3 : Int64}
theorem sp_130 (hk : hKn h_s) (t1_s : x1_s.toInt < 0 ∨ 5 < x1_s.toInt → K_s (-1) h_s) (t2_s : 0 ≤ x1_s.toInt → x1_s.toInt ≤ 5 → zix x1_s < 6 → (h_s.2.1 (76 + 2 * zix x1_s) 0).toInt = 0 → K_s (-11) h_s) (t3_s : 0 ≤ x1_s.toInt → x1_s.toInt ≤ 5 → zix x1_s < 6 → ¬ (h_s.2.1 (76 + 2 * zix x1_s) 0).toInt = 0 → ¬ (h_s.2.1 (76 + 2 * zix x1_s) 0).toInt = 2 → K_s (-12) h_s) (t4_s : 0 ≤ x1_s.toInt → x1_s.toInt ≤ 5 → zix x1_s < 6 → (h_s.2.1 (76 + 2 * zix x1_s) 0).toInt = 2 → x2_s.toInt < 0 ∨ (h_s.2.1 (76 + 2 * zix x1_s) 3).toInt ≤ x2_s.toInt → K_s (-13) h_s) (t5_s : 0 ≤ x1_s.toInt → x1_s.toInt ≤ 5 → zix x1_s < 6 → (h_s.2.1 (76 + 2 * zix x1_s) 0).toInt = 2 → 0 ≤ x2_s.toInt → x2_s.toInt < (h_s.2.1 (76 + 2 * zix x1_s) 3).toInt → zix x2_s < 60 → K_s 1 (h_s.1, h_s.2.1, zup h_s.2.2.1 (76 + 2 * zix x1_s + 1) (zix x2_s) (cutv (h_s.2.1 (76 + 2 * zix x1_s) 2).toInt y3), h_s.2.2.2)) : wF F_s 130 (0, [some (.ref 6), some (.int x1_s), some (.int x2_s), some (.long y3), none, none], [], h_s) (gI K_s) := by
  refine wF_le (Nat.le_succ F_s) (sg_130_0 hk ⟨fun c1_s => ?_, fun c1_s => ⟨fun c2_s => fun c3_s => ⟨fun c4_s => ?_, fun c4_s => ⟨fun c6_s => ⟨fun c7_s => ?_, fun c7_s => ⟨fun c9_s => ⟨fun c12_s => fun c13_s => ?_, fun c12_s => ⟨fun c14_s => fun c15_s => ?_, fun c14_s => ⟨fun c16 => fun c17 => ?_, fun c16 => ⟨fun c18_s => fun c19_s => ?_, fun c18_s => ⟨fun c20_s => ⟨fun c21 => fun c22 => ?_, fun c21 => fun c23_s => ?_⟩, fun c20_s => fun c24_s => ?_⟩⟩⟩⟩⟩, fun c9_s => ?_⟩⟩, fun c6_s => ?_⟩⟩, fun c2_s => ?_⟩⟩)
  · exact t1_s (by omega)
  · exact t2_s (by omega) (by omega) (by assumption) (by omega)
  · exact t4_s (by omega) (by omega) (by assumption) (by omega) (by omega)
  · have q_s := t5_s (by omega) (by omega) (by assumption) (by omega) (by omega) (by omega) (by assumption)
    unfold cutv at q_s
    rw [if_pos (by omega)] at q_s
    exact q_s
  · have q_s := t5_s (by omega) (by omega) (by assumption) (by omega) (by omega) (by omega) (by assumption)
    unfold cutv at q_s
    rw [if_neg (by omega), if_pos (by omega)] at q_s
    exact q_s
  · have q_s := t5_s (by omega) (by omega) (by assumption) (by omega) (by omega) (by omega) (by assumption)
    unfold cutv at q_s
    rw [if_neg (by omega), if_neg (by omega), if_pos (by omega)] at q_s
    exact q_s
  · have q_s := t5_s (by omega) (by omega) (by assumption) (by omega) (by omega) (by omega) (by assumption)
    unfold cutv at q_s
    rw [if_neg (by omega), if_neg (by omega), if_neg (by omega), if_neg (by omega)] at q_s
    exact q_s
  · have q_s := t5_s (by omega) (by omega) (by assumption) (by omega) (by omega) (by omega) (by assumption)
    unfold cutv at q_s
    rw [if_neg (by omega), if_neg (by omega), if_neg (by omega), if_pos (by omega), if_pos (by omega)] at q_s
    exact q_s
  · have q_s := t5_s (by omega) (by omega) (by assumption) (by omega) (by omega) (by omega) (by assumption)
    unfold cutv at q_s
    rw [if_neg (by omega), if_neg (by omega), if_neg (by omega), if_pos (by omega), if_neg (by omega)] at q_s
    exact q_s
  · have q_s := t5_s (by omega) (by omega) (by assumption) (by omega) (by omega) (by omega) (by assumption)
    unfold cutv at q_s
    rw [if_neg (by omega), if_neg (by omega), if_neg (by omega), if_neg (by omega)] at q_s
    exact q_s
  · exact t4_s (by omega) (by omega) (by assumption) (by omega) (by omega)
  · exact t3_s (by omega) (by omega) (by assumption) (by omega) (by omega)
  · exact t1_s (by omega)
theorem sp_233 (hk : hKn h_s) (t1_s : x1_s.toInt < 0 ∨ 5 < x1_s.toInt → K_s (-1) h_s) (t2_s : 0 ≤ x1_s.toInt → x1_s.toInt ≤ 5 → zix x1_s < 6 → (h_s.2.1 124 (zix x1_s)).toInt < 0 → K_s (-11) h_s) (t3_s : 0 ≤ x1_s.toInt → x1_s.toInt ≤ 5 → zix x1_s < 6 → 0 ≤ (h_s.2.1 124 (zix x1_s)).toInt → (h_s.2.1 124 (zix x1_s)).toInt < 50 → K_s (-12) h_s) (t4_s : 0 ≤ x1_s.toInt → x1_s.toInt ≤ 5 → zix x1_s < 6 → 50 ≤ (h_s.2.1 124 (zix x1_s)).toInt → x2_s.toInt < 0 ∨ (h_s.2.1 125 (zix x1_s)).toInt ≤ x2_s.toInt → K_s (-13) h_s) (t5_s : 0 ≤ x1_s.toInt → x1_s.toInt ≤ 5 → zix x1_s < 6 → 50 ≤ (h_s.2.1 124 (zix x1_s)).toInt → 0 ≤ x2_s.toInt → x2_s.toInt < (h_s.2.1 125 (zix x1_s)).toInt → K_s 1 (h_s.1, h_s.2.1, zup h_s.2.2.1 126 (zix (60 * x1_s + x2_s)) (cutv ((h_s.2.1 124 (zix x1_s)).toInt - 50) y3), h_s.2.2.2)) : wF F_s 233 (0, [some (.ref 102), some (.int x1_s), some (.int x2_s), some (.long y3), none, none], [], h_s) (gI K_s) := by
  have r_s := na_rng (h_s.2.1 124 (zix x1_s))
  have e_s : 50 ≤ (h_s.2.1 124 (zix x1_s)).toInt → (h_s.2.1 124 (zix x1_s) - 50).toInt = (h_s.2.1 124 (zix x1_s)).toInt - 50 := fun _ => by rw [na_sub (by rw [i50_]; omega) (by rw [i50_]; omega), i50_]
  refine wF_le (Nat.le_succ F_s) (sg_233_0 hk ⟨fun c1_s => ?_, fun c1_s => ⟨fun c2_s => ?_, fun c2_s => fun c3_s => ⟨fun c4_s => ?_, fun c4_s => ⟨fun c6_s => ?_, fun c6_s => ⟨fun c7_s => ?_, fun c7_s => ⟨fun c9_s => ⟨fun c11_s => fun c12_s => ?_, fun c11_s => ⟨fun c13_s => fun c14_s => ?_, fun c13_s => ⟨fun c15_s => fun c16 => ?_, fun c15_s => ⟨fun c17 => ⟨fun c18_s => fun c19_s => ?_, fun c18_s => fun c20_s => ?_⟩, fun c17 => fun c21 => ?_⟩⟩⟩⟩, fun c9_s => ?_⟩⟩⟩⟩⟩⟩)
  · exact t1_s (by omega)
  · exact t1_s (by omega)
  · exact t2_s (by omega) (by omega) (by assumption) (by omega)
  · exact t3_s (by omega) (by omega) (by assumption) (by omega) (by omega)
  · exact t4_s (by omega) (by omega) (by assumption) (by omega) (by omega)
  · have q_s := t5_s (by omega) (by omega) (by assumption) (by omega) (by omega) (by omega)
    unfold cutv at q_s
    rw [if_pos (by omega)] at q_s
    exact q_s
  · have q_s := t5_s (by omega) (by omega) (by assumption) (by omega) (by omega) (by omega)
    unfold cutv at q_s
    rw [if_neg (by omega), if_pos (by omega)] at q_s
    exact q_s
  · have q_s := t5_s (by omega) (by omega) (by assumption) (by omega) (by omega) (by omega)
    unfold cutv at q_s
    rw [if_neg (by omega), if_neg (by omega), if_pos (by omega)] at q_s
    exact q_s
  · have q_s := t5_s (by omega) (by omega) (by assumption) (by omega) (by omega) (by omega)
    unfold cutv at q_s
    rw [if_neg (by omega), if_neg (by omega), if_neg (by omega), if_pos (by omega), if_pos (by omega)] at q_s
    exact q_s
  · have q_s := t5_s (by omega) (by omega) (by assumption) (by omega) (by omega) (by omega)
    unfold cutv at q_s
    rw [if_neg (by omega), if_neg (by omega), if_neg (by omega), if_pos (by omega), if_neg (by omega)] at q_s
    exact q_s
  · have q_s := t5_s (by omega) (by omega) (by assumption) (by omega) (by omega) (by omega)
    unfold cutv at q_s
    rw [if_neg (by omega), if_neg (by omega), if_neg (by omega), if_neg (by omega)] at q_s
    exact q_s
  · exact t4_s (by omega) (by omega) (by assumption) (by omega) (by omega)
theorem sp_132 (hk : hKn h_s) (hl : ∀ d_s, d_s < 6 → (h_s.2.1 (76 + 2 * d_s) 0).toInt = 2 → 0 ≤ (h_s.2.1 (76 + 2 * d_s) 3).toInt ∧ (h_s.2.1 (76 + 2 * d_s) 3).toInt ≤ 60) (t1_s : x1_s.toInt < 0 ∨ 5 < x1_s.toInt ∨ x3.toInt < 0 ∨ 5 < x3.toInt → K_s (-1) h_s) (t2_s : zix x1_s < 6 → zix x3 < 6 → ¬ (x1_s.toInt < 0 ∨ 5 < x1_s.toInt ∨ x3.toInt < 0 ∨ 5 < x3.toInt) → (h_s.2.1 (76 + 2 * zix x1_s) 0).toInt = 0 ∨ (h_s.2.1 (76 + 2 * zix x3) 0).toInt = 0 → K_s (-11) h_s) (t3_s : zix x1_s < 6 → zix x3 < 6 → ¬ (x1_s.toInt < 0 ∨ 5 < x1_s.toInt ∨ x3.toInt < 0 ∨ 5 < x3.toInt) → ¬ ((h_s.2.1 (76 + 2 * zix x1_s) 0).toInt = 0 ∨ (h_s.2.1 (76 + 2 * zix x3) 0).toInt = 0) → ¬ (h_s.2.1 (76 + 2 * zix x1_s) 0).toInt = 2 ∨ ¬ (h_s.2.1 (76 + 2 * zix x3) 0).toInt = 2 ∨ ¬ (h_s.2.1 (76 + 2 * zix x1_s) 2).toInt = (h_s.2.1 (76 + 2 * zix x3) 2).toInt → K_s (-12) h_s) (t4_s : zix x1_s < 6 → zix x3 < 6 → ¬ (x1_s.toInt < 0 ∨ 5 < x1_s.toInt ∨ x3.toInt < 0 ∨ 5 < x3.toInt) → (h_s.2.1 (76 + 2 * zix x1_s) 0).toInt = 2 → (h_s.2.1 (76 + 2 * zix x3) 0).toInt = 2 → (h_s.2.1 (76 + 2 * zix x1_s) 2).toInt = (h_s.2.1 (76 + 2 * zix x3) 2).toInt → x5_s.toInt < 0 ∨ x2_s.toInt < 0 ∨ x4_s.toInt < 0 ∨ (h_s.2.1 (76 + 2 * zix x1_s) 3).toInt < x2_s.toInt + x5_s.toInt ∨ (h_s.2.1 (76 + 2 * zix x3) 3).toInt < x4_s.toInt + x5_s.toInt → K_s (-13) h_s) (t5_s : zix x1_s < 6 → zix x3 < 6 → ¬ (x1_s.toInt < 0 ∨ 5 < x1_s.toInt ∨ x3.toInt < 0 ∨ 5 < x3.toInt) → (h_s.2.1 (76 + 2 * zix x1_s) 0).toInt = 2 → (h_s.2.1 (76 + 2 * zix x3) 0).toInt = 2 → (h_s.2.1 (76 + 2 * zix x1_s) 2).toInt = (h_s.2.1 (76 + 2 * zix x3) 2).toInt → ¬ (x5_s.toInt < 0 ∨ x2_s.toInt < 0 ∨ x4_s.toInt < 0 ∨ (h_s.2.1 (76 + 2 * zix x1_s) 3).toInt < x2_s.toInt + x5_s.toInt ∨ (h_s.2.1 (76 + 2 * zix x3) 3).toInt < x4_s.toInt + x5_s.toInt) → K_s x5_s (h_s.1, h_s.2.1, zrow h_s.2.2.1 (76 + 2 * zix x3 + 1) (zcpy (h_s.2.2.1 (76 + 2 * zix x1_s + 1)) (h_s.2.2.1 (76 + 2 * zix x3 + 1)) (zix x2_s) (zix x4_s) (zix x5_s)), h_s.2.2.2)) : wF F_s 132 (0, [some (.ref 6), some (.int x1_s), some (.int x2_s), some (.int x3), some (.int x4_s), some (.int x5_s), none, none], [], h_s) (gI K_s) := by
  have d1_s : zix x1_s < 6 → (h_s.2.1 (76 + 2 * zix x1_s) 0).toInt = 2 → 0 ≤ x2_s.toInt → x2_s.toInt ≤ (h_s.2.1 (76 + 2 * zix x1_s) 3).toInt → (h_s.2.1 (76 + 2 * zix x1_s) 3 - x2_s).toInt = (h_s.2.1 (76 + 2 * zix x1_s) 3).toInt - x2_s.toInt := fun p1_s p2_s p3_s p4_s => by
    have q_s := hl _ p1_s p2_s
    exact na_sub (by omega) (by omega)
  have d2_s : zix x3 < 6 → (h_s.2.1 (76 + 2 * zix x3) 0).toInt = 2 → 0 ≤ x4_s.toInt → x4_s.toInt ≤ (h_s.2.1 (76 + 2 * zix x3) 3).toInt → (h_s.2.1 (76 + 2 * zix x3) 3 - x4_s).toInt = (h_s.2.1 (76 + 2 * zix x3) 3).toInt - x4_s.toInt := fun p1_s p2_s p3_s p4_s => by
    have q_s := hl _ p1_s p2_s
    exact na_sub (by omega) (by omega)
  refine wF_le (Nat.le_succ F_s) (sg_132_0 hk ⟨fun c1_s => ?_, fun c1_s => ⟨fun c2_s => ⟨fun c3_s => ?_, fun c3_s => ⟨fun c4_s => fun c5_s => fun c6_s => ⟨fun c7_s => ?_, fun c7_s => ⟨fun c8_s => ?_, fun c8_s => ⟨fun c9_s => ⟨fun c10_s => ⟨fun c11_s => ⟨fun c12_s => ?_, fun c12_s => ⟨fun c13_s => ?_, fun c13_s => ⟨fun c14_s => ?_, fun c14_s => ⟨fun c15_s => ?_, fun c15_s => ⟨fun c16 => ?_, fun c16 => ⟨fun c17 => ?_, fun c17 => ⟨fun c18_s => ?_, fun c18_s => fun c19_s => ?_⟩⟩⟩⟩⟩⟩⟩, fun c11_s => ?_⟩, fun c10_s => ?_⟩, fun c9_s => ?_⟩⟩⟩, fun c4_s => ?_⟩⟩, fun c2_s => ?_⟩⟩)
  · exact t1_s (by omega)
  · exact t1_s (by omega)
  · exact t2_s (by assumption) (by assumption) (by omega) (by omega)
  · exact t2_s (by assumption) (by assumption) (by omega) (by omega)
  · exact t4_s (by assumption) (by assumption) (by omega) (by omega) (by omega) (by omega) (by omega)
  · exact t4_s (by assumption) (by assumption) (by omega) (by omega) (by omega) (by omega) (by omega)
  · exact t4_s (by assumption) (by assumption) (by omega) (by omega) (by omega) (by omega) (by omega)
  · exact t4_s (by assumption) (by assumption) (by omega) (by omega) (by omega) (by omega) (by omega)
  · exact t4_s (by assumption) (by assumption) (by omega) (by omega) (by omega) (by omega) (by omega)
  · exact t4_s (by assumption) (by assumption) (by omega) (by omega) (by omega) (by omega) (by omega)
  · exact t4_s (by assumption) (by assumption) (by omega) (by omega) (by omega) (by omega) (by omega)
  · exact t5_s (by assumption) (by assumption) (by omega) (by omega) (by omega) (by omega) (by omega)
  · exact t3_s (by assumption) (by assumption) (by omega) (by omega) (by omega)
  · exact t3_s (by assumption) (by assumption) (by omega) (by omega) (by omega)
  · exact t3_s (by assumption) (by assumption) (by omega) (by omega) (by omega)
  · exact t1_s (by omega)
  · exact t1_s (by omega)
end SP
/-! SHELVES, by hand: the reference's shift. -/
section SQ_s
variable {x1_s x2_s x3 x4_s x5_s : Int32} {n_s : Nat} {w_s : Nat → Int64}
theorem shf2 {h_s : zH} {K_s : Int32 → zH → Prop} (hk : hKn h_s) (b1 : 0 ≤ x3.toInt) (b2 : x3.toInt ≤ 5) (b3 : 0 ≤ x4_s.toInt) (b4 : x4_s.toInt + x5_s.toInt ≤ 60) (hn : x5_s.toInt = (n_s : Int)) (t_s : ∀ g_s, (∀ k_s, k_s < n_s → g_s 126 (60 * zix x3 + zix x4_s + k_s) = w_s k_s) → (∀ a_s k_s, a_s ≠ 127 → ¬ (a_s = 126 ∧ 60 * zix x3 + zix x4_s ≤ k_s ∧ k_s < 60 * zix x3 + zix x4_s + n_s) → g_s a_s k_s = h_s.2.2.1 a_s k_s) → K_s x5_s (h_s.1, h_s.2.1, g_s, h_s.2.2.2)) : ∀ (F_s c_s : Nat) (i_s : Int32) (g_s : Nat → Nat → Int64), i_s.toInt = (c_s : Int) → c_s ≤ n_s → (∀ k_s, k_s < n_s → g_s 127 k_s = w_s k_s) → (∀ k_s, k_s < c_s → g_s 126 (60 * zix x3 + zix x4_s + k_s) = w_s k_s) → (∀ a_s k_s, a_s ≠ 127 → ¬ (a_s = 126 ∧ 60 * zix x3 + zix x4_s ≤ k_s ∧ k_s < 60 * zix x3 + zix x4_s + c_s) → g_s a_s k_s = h_s.2.2.1 a_s k_s) → wF F_s 235 (150, [some (.ref 102), some (.int x1_s), some (.int x2_s), some (.int x3), some (.int x4_s), some (.int x5_s), some (.int i_s)], [], (h_s.1, h_s.2.1, g_s, h_s.2.2.2)) (gI K_s)
  | 0, _, _, _, _, _, _, _, _ => wF_zero
  | F_s + 1, c_s, i_s, g_s, hi_s, hc_s, g0, g1, g2 => by
    refine sg_235_150 (h_s := (h_s.1, h_s.2.1, g_s, h_s.2.2.2)) hk ⟨fun c1_s => fun c2_s => fun c3_s => ?_, fun c1_s => ?_⟩
    · have zi_ := azix (i := i_s) (by omega)
      have ez : zix i_s = c_s := by omega
      have e3_s := zx60k (d_s := x3) (i_s := x4_s) (k_s := i_s) b1 b2 b3 (by omega) (by omega) (by omega)
      refine shf2 hk b1 b2 b3 b4 hn t_s F_s (c_s + 1) (i_s + 1) _ (by rw [in1_ (by omega)]; omega) (by omega) (fun k_s hq => ?_) (fun k_s hq => ?_) (fun a_s k_s ha_s hq => ?_)
      · rw [zne_up (by omega)]
        exact g0 k_s hq
      · by_cases e_s : k_s = c_s
        · subst e_s
          rw [e3_s, ez, zsame_up]
          exact g0 k_s (by omega)
        · rw [zne_up (by omega)]
          exact g1 k_s (by omega)
      · rw [zne_up (by omega)]
        exact g2 a_s k_s ha_s (by omega)
    · have ec : c_s = n_s := by omega
      subst ec
      exact t_s g_s g1 g2
theorem shf1 {h_s : zH} {K_s : Int32 → zH → Prop} (hk : hKn h_s) (b1 : 0 ≤ x1_s.toInt) (b2 : x1_s.toInt ≤ 5) (b3 : 0 ≤ x2_s.toInt) (b4 : x2_s.toInt + x5_s.toInt ≤ 60) (hn : x5_s.toInt = (n_s : Int)) : ∀ (F_s c_s : Nat) (i_s : Int32) (g_s : Nat → Nat → Int64) (_ : ∀ F1_s : Nat, ∀ g_s, (∀ k_s, k_s < n_s → g_s 127 k_s = h_s.2.2.1 126 (60 * zix x1_s + zix x2_s + k_s)) → (∀ a_s k_s, a_s ≠ 127 → g_s a_s k_s = h_s.2.2.1 a_s k_s) → wF F1_s 235 (150, [some (.ref 102), some (.int x1_s), some (.int x2_s), some (.int x3), some (.int x4_s), some (.int x5_s), some (.int 0)], [], (h_s.1, h_s.2.1, g_s, h_s.2.2.2)) (gI K_s)), i_s.toInt = (c_s : Int) → c_s ≤ n_s → (∀ k_s, k_s < c_s → g_s 127 k_s = h_s.2.2.1 126 (60 * zix x1_s + zix x2_s + k_s)) → (∀ a_s k_s, a_s ≠ 127 → g_s a_s k_s = h_s.2.2.1 a_s k_s) → wF F_s 235 (113, [some (.ref 102), some (.int x1_s), some (.int x2_s), some (.int x3), some (.int x4_s), some (.int x5_s), some (.int i_s)], [], (h_s.1, h_s.2.1, g_s, h_s.2.2.2)) (gI K_s)
  | 0, _, _, _, _, _, _, _, _ => wF_zero
  | F_s + 1, c_s, i_s, g_s, t_s, hi_s, hc_s, g1, g2 => by
    refine sg_235_113 (h_s := (h_s.1, h_s.2.1, g_s, h_s.2.2.2)) hk ⟨fun c1_s => fun c2_s => fun c3_s => ?_, fun c1_s => ?_⟩
    · have zi_ := azix (i := i_s) (by omega)
      have ez : zix i_s = c_s := by omega
      have e3_s := zx60k (d_s := x1_s) (i_s := x2_s) (k_s := i_s) b1 b2 b3 (by omega) (by omega) (by omega)
      refine shf1 hk b1 b2 b3 b4 hn F_s (c_s + 1) (i_s + 1) _ t_s (by rw [in1_ (by omega)]; omega) (by omega) (fun k_s hq => ?_) (fun a_s k_s ha_s => ?_)
      · by_cases e_s : k_s = c_s
        · subst e_s
          rw [ez, zsame_up]
          show g_s 126 (zix (60 * x1_s + x2_s + i_s)) = _
          rw [e3_s, ez]
          exact g2 126 _ (by omega)
        · rw [zne_up (by omega)]
          exact g1 k_s (by omega)
      · rw [zne_up (by omega)]
        exact g2 a_s k_s ha_s
    · have ec : c_s = n_s := by omega
      subst ec
      exact t_s F_s g_s g1 g2
end SQ_s
section SR
variable {F_s : Nat} {h_s : zH} {K_s : Int32 → zH → Prop} {x1_s x2_s x3 x4_s x5_s : Int32} {n_s : Nat}
theorem sp_235 (hk : hKn h_s) (hl : ∀ d_s, d_s < 6 → 50 ≤ (h_s.2.1 124 d_s).toInt → 0 ≤ (h_s.2.1 125 d_s).toInt ∧ (h_s.2.1 125 d_s).toInt ≤ 60) (t1_s : x1_s.toInt < 0 ∨ 5 < x1_s.toInt ∨ x3.toInt < 0 ∨ 5 < x3.toInt → K_s (-1) h_s) (t2_s : ¬ (x1_s.toInt < 0 ∨ 5 < x1_s.toInt ∨ x3.toInt < 0 ∨ 5 < x3.toInt) → (h_s.2.1 124 (zix x1_s)).toInt < 0 ∨ (h_s.2.1 124 (zix x3)).toInt < 0 → K_s (-11) h_s) (t3_s : ¬ (x1_s.toInt < 0 ∨ 5 < x1_s.toInt ∨ x3.toInt < 0 ∨ 5 < x3.toInt) → ¬ ((h_s.2.1 124 (zix x1_s)).toInt < 0 ∨ (h_s.2.1 124 (zix x3)).toInt < 0) → (h_s.2.1 124 (zix x1_s)).toInt < 50 ∨ ¬ (h_s.2.1 124 (zix x1_s)).toInt = (h_s.2.1 124 (zix x3)).toInt → K_s (-12) h_s) (t4_s : ¬ (x1_s.toInt < 0 ∨ 5 < x1_s.toInt ∨ x3.toInt < 0 ∨ 5 < x3.toInt) → 50 ≤ (h_s.2.1 124 (zix x1_s)).toInt → (h_s.2.1 124 (zix x1_s)).toInt = (h_s.2.1 124 (zix x3)).toInt → x5_s.toInt < 0 ∨ x2_s.toInt < 0 ∨ x4_s.toInt < 0 ∨ (h_s.2.1 125 (zix x1_s)).toInt < x2_s.toInt + x5_s.toInt ∨ (h_s.2.1 125 (zix x3)).toInt < x4_s.toInt + x5_s.toInt → K_s (-13) h_s) (t5_s : ¬ (x1_s.toInt < 0 ∨ 5 < x1_s.toInt ∨ x3.toInt < 0 ∨ 5 < x3.toInt) → 50 ≤ (h_s.2.1 124 (zix x1_s)).toInt → (h_s.2.1 124 (zix x1_s)).toInt = (h_s.2.1 124 (zix x3)).toInt → ¬ (x5_s.toInt < 0 ∨ x2_s.toInt < 0 ∨ x4_s.toInt < 0 ∨ (h_s.2.1 125 (zix x1_s)).toInt < x2_s.toInt + x5_s.toInt ∨ (h_s.2.1 125 (zix x3)).toInt < x4_s.toInt + x5_s.toInt) → ∀ g_s, (∀ k_s, k_s < zix x5_s → g_s 126 (60 * zix x3 + zix x4_s + k_s) = h_s.2.2.1 126 (60 * zix x1_s + zix x2_s + k_s)) → (∀ a_s k_s, a_s ≠ 127 → ¬ (a_s = 126 ∧ 60 * zix x3 + zix x4_s ≤ k_s ∧ k_s < 60 * zix x3 + zix x4_s + zix x5_s) → g_s a_s k_s = h_s.2.2.1 a_s k_s) → K_s x5_s (h_s.1, h_s.2.1, g_s, h_s.2.2.2)) : wF F_s 235 (0, [some (.ref 102), some (.int x1_s), some (.int x2_s), some (.int x3), some (.int x4_s), some (.int x5_s), none], [], h_s) (gI K_s) := by
  have r5_s := na_rng x5_s
  have d1_s : zix x1_s < 6 → 50 ≤ (h_s.2.1 124 (zix x1_s)).toInt → 0 ≤ x5_s.toInt → (h_s.2.1 125 (zix x1_s) - x5_s).toInt = (h_s.2.1 125 (zix x1_s)).toInt - x5_s.toInt := fun p1_s p2_s p3_s => by
    have q_s := hl _ p1_s p2_s
    exact na_sub (by omega) (by omega)
  have d2_s : zix x3 < 6 → 50 ≤ (h_s.2.1 124 (zix x3)).toInt → 0 ≤ x5_s.toInt → (h_s.2.1 125 (zix x3) - x5_s).toInt = (h_s.2.1 125 (zix x3)).toInt - x5_s.toInt := fun p1_s p2_s p3_s => by
    have q_s := hl _ p1_s p2_s
    exact na_sub (by omega) (by omega)
  refine wF_le (Nat.le_succ F_s) (sg_235_0 hk ⟨fun c1_s => ?_, fun c1_s => ⟨fun c2_s => ?_, fun c2_s => ⟨fun c3_s => ?_, fun c3_s => ⟨fun c4_s => ?_, fun c4_s => fun c5_s => ⟨fun c6_s => ?_, fun c6_s => fun c7_s => ⟨fun c8_s => ?_, fun c8_s => ⟨fun c10_s => ?_, fun c10_s => ⟨fun c13_s => ⟨fun c14_s => ?_, fun c14_s => ⟨fun c15_s => ?_, fun c15_s => ⟨fun c16 => ?_, fun c16 => ⟨fun c18_s => ?_, fun c18_s => ⟨fun c20_s => ?_, fun c20_s => ?_⟩⟩⟩⟩⟩, fun c13_s => ?_⟩⟩⟩⟩⟩⟩⟩⟩)
  · exact t1_s (by omega)
  · exact t1_s (by omega)
  · exact t1_s (by omega)
  · exact t1_s (by omega)
  · exact t2_s (by omega) (by omega)
  · exact t2_s (by omega) (by omega)
  · exact t3_s (by omega) (by omega) (by omega)
  · exact t4_s (by omega) (by omega) (by omega) (by omega)
  · exact t4_s (by omega) (by omega) (by omega) (by omega)
  · exact t4_s (by omega) (by omega) (by omega) (by omega)
  · exact t4_s (by omega) (by omega) (by omega) (by omega)
  · exact t4_s (by omega) (by omega) (by omega) (by omega)
  · have l1 := hl (zix x1_s) (by assumption) (by omega)
    have l3 := hl (zix x3) (by assumption) (by omega)
    have z5 := azix (i := x5_s) (by omega)
    refine shf1 (n_s := zix x5_s) hk (by omega) (by omega) (by omega) (by omega) (by omega) F_s 0 0 h_s.2.2.1 (fun F1_s g_s g1 g2 => ?_) rfl (Nat.zero_le _) (fun k_s hq => absurd hq (Nat.not_lt_zero k_s)) (fun _ _ _ => rfl)
    exact shf2 (h_s := h_s) (n_s := zix x5_s) (w_s := fun k_s => h_s.2.2.1 126 (60 * zix x1_s + zix x2_s + k_s)) hk (by omega) (by omega) (by omega) (by omega) (by omega) (fun g3_s p1_s p2_s => t5_s (by omega) (by omega) (by omega) (by omega) g3_s p1_s p2_s) F1_s 0 0 g_s rfl (Nat.zero_le _) g1 (fun k_s hq => absurd hq (Nat.not_lt_zero k_s)) (fun a_s k_s ha_s _ => g2 a_s k_s ha_s)
  · exact t3_s (by omega) (by omega) (by omega)
end SR
/-! SHELVES: class and reference by turns. -/
noncomputable def tS1 (f_s : Nat → Nat → Int32) (d_s : Nat) : Prop := ((f_s (76 + 2 * d_s) 0).toInt = 0 ∧ (f_s 124 d_s).toInt = -1) ∨ ((f_s (76 + 2 * d_s) 0).toInt = 1 ∧ 0 ≤ (f_s 124 d_s).toInt ∧ (f_s 124 d_s).toInt < 50) ∨ ((f_s (76 + 2 * d_s) 0).toInt = 2 ∧ (f_s 124 d_s).toInt = 50 + (f_s (76 + 2 * d_s) 2).toInt ∧ 0 ≤ (f_s (76 + 2 * d_s) 2).toInt ∧ (f_s (76 + 2 * d_s) 2).toInt ≤ 4 ∧ (f_s 125 d_s).toInt = (f_s (76 + 2 * d_s) 3).toInt ∧ 0 ≤ (f_s (76 + 2 * d_s) 3).toInt ∧ (f_s (76 + 2 * d_s) 3).toInt ≤ 60)
noncomputable def tS2 (g_s : Nat → Nat → Int64) (d_s : Nat) : Prop := ∀ k_s, k_s < 60 → g_s (76 + 2 * d_s + 1) k_s = g_s 126 (60 * d_s + k_s)
noncomputable def tS (h_s : zH) : Prop := (∀ d_s, d_s < 6 → tS1 h_s.2.1 d_s ∧ tS2 h_s.2.2.1 d_s) ∧ h_s.2.1 47 1 = h_s.2.1 102 39 ∧ 0 ≤ (h_s.2.1 47 1).toInt ∧ (h_s.2.1 47 1).toInt ≤ 50
theorem tS1_same {f_s f1_s : Nat → Nat → Int32} {d_s : Nat} (a_s : ∀ k_s, f1_s (76 + 2 * d_s) k_s = f_s (76 + 2 * d_s) k_s) (b_s : f1_s 124 d_s = f_s 124 d_s) (c_s : f1_s 125 d_s = f_s 125 d_s) (q_s : tS1 f_s d_s) : tS1 f1_s d_s := by
  unfold tS1 at q_s ⊢
  simp only [a_s, b_s, c_s]
  exact q_s
theorem zrw_s {α : Type} {f_s : Nat → Nat → α} {o k_s : Nat} {r_s : Nat → α} : zrow f_s o r_s o k_s = r_s k_s := by
  unfold zrow
  rw [Nat.beq_refl]
  rfl
theorem zrw_n {α : Type} {f_s : Nat → Nat → α} {o a_s k_s : Nat} {r_s : Nat → α} (e_s : ¬ a_s = o) : zrow f_s o r_s a_s k_s = f_s a_s k_s := by
  unfold zrow
  cases hb_s : Nat.beq a_s o
  · rfl
  · exact absurd (Nat.eq_of_beq_eq_true hb_s) e_s
theorem zcp_i {α : Type} {f_s g_s : Nat → α} {s_s d_s n_s k_s : Nat} (e_s : d_s ≤ k_s ∧ k_s < d_s + n_s) : zcpy f_s g_s s_s d_s n_s k_s = f_s (s_s + (k_s - d_s)) := by
  unfold zcpy
  have a_s : Nat.ble d_s k_s = true := by rw [Nat.ble_eq]; exact e_s.1
  have b_s : Nat.blt k_s (d_s + n_s) = true := by rw [Nat.blt_eq]; exact e_s.2
  rw [a_s, b_s]
  rfl
theorem zcp_o {α : Type} {f_s g_s : Nat → α} {s_s d_s n_s k_s : Nat} (e_s : ¬ (d_s ≤ k_s ∧ k_s < d_s + n_s)) : zcpy f_s g_s s_s d_s n_s k_s = g_s k_s := by
  unfold zcpy
  cases hb_s : (Nat.ble d_s k_s && Nat.blt k_s (d_s + n_s))
  · rfl
  · rw [Bool.and_eq_true, Nat.ble_eq, Nat.blt_eq] at hb_s
    exact absurd hb_s e_s
section SS_s
variable {F_s : Nat} {h_s : zH} {x1_s x2_s x3 x4_s x5_s : Int32} {y3 : Int64}
theorem pr_row (hk : hKn h_s) (hs : tS h_s) : wF F_s 129 (0, [some (.ref 6), some (.int x1_s), some (.int x2_s), some (.int x3)], [], h_s) (gI (fun v_s h1 => wF F_s 230 (0, [some (.ref 102), some (.int x1_s), some (.int x2_s), some (.int x3), none], [], h1) (gI (fun v2 h2 => v_s = v2 ∧ tS h2)))) := by
  refine sp_129 hk (fun c_s => ?_) (fun c1_s c2_s => ?_) (fun c1_s c2_s c3_s g_s g1 g2 => ?_)
  · exact sp_230 hk (fun _ => ⟨rfl, hs⟩) (fun q_s => absurd c_s q_s) (fun q_s => absurd c_s q_s)
  · exact sp_230 hk (fun q_s => absurd q_s c1_s) (fun _ _ => ⟨rfl, hs⟩) (fun _ q_s => absurd c2_s q_s)
  · refine sp_230 hk (fun q_s => absurd q_s c1_s) (fun _ q_s => absurd q_s c2_s) (fun _ _ _ g3_s p1_s p2_s => ⟨rfl, ?_⟩)
    have a1_s := azix (i := x1_s) (by omega)
    have r2 := na_rng x2_s
    have e5_s : (50 + x2_s).toInt = 50 + x2_s.toInt := by rw [na_add (by rw [i50_]; omega) (by rw [i50_]; omega), i50_]
    dsimp only at p1_s p2_s ⊢
    refine ⟨fun d_s hd_s => ⟨?_, fun k_s hq => ?_⟩, ?_, ?_, ?_⟩
    · dsimp only
      by_cases e_s : d_s = zix x1_s
      · subst e_s
        refine Or.inr (Or.inr ?_)
        simp (disch := omega) only [zne_up, zsame_up]
        exact ⟨by first | trivial | rfl, e5_s, by omega, by omega, by first | trivial | rfl, by omega, by omega⟩
      · refine tS1_same (fun k_s => ?_) ?_ ?_ (hs.1 d_s hd_s).1
        · simp (disch := omega) only [zne_up]
        · simp (disch := omega) only [zne_up]
        · simp (disch := omega) only [zne_up]
    · dsimp only
      by_cases e_s : d_s = zix x1_s
      · subst e_s
        rw [p1_s (60 * zix x1_s + k_s) (by omega) (by omega), p2_s (76 + 2 * zix x1_s + 1) k_s (by omega)]
        exact g1 k_s hq
      · rw [p2_s (76 + 2 * d_s + 1) k_s (by omega), p2_s 126 (60 * d_s + k_s) (by omega), g2 (76 + 2 * d_s + 1) k_s (by omega), g2 126 (60 * d_s + k_s) (by omega)]
        exact (hs.1 d_s hd_s).2 k_s hq
    · dsimp only
      simp (disch := omega) only [zne_up]
      exact hs.2.1
    · dsimp only
      simp (disch := omega) only [zne_up]
      exact hs.2.2.1
    · dsimp only
      simp (disch := omega) only [zne_up]
      exact hs.2.2.2
theorem pr_keep (hk : hKn h_s) (hs : tS h_s) : wF F_s 128 (0, [some (.ref 6), some (.int x1_s), some (.int x2_s)], [], h_s) (gI (fun v_s h1 => wF F_s 229 (0, [some (.ref 102), some (.int x1_s), some (.int x2_s)], [], h1) (gI (fun v2 h2 => v_s = v2 ∧ tS h2)))) := by
  have eI : (h_s.2.1 47 1).toInt = (h_s.2.1 102 39).toInt := by rw [hs.2.1]
  have b1 := hs.2.2.1
  have b2 := hs.2.2.2
  refine sp_128 hk (fun c_s => ?_) (fun c1_s c2_s c3_s c4_s => ?_) (fun c1_s c2_s c3_s c4_s c5_s => ?_)
  · exact sp_229 hk (by omega) (fun _ => ⟨rfl, hs⟩) (fun q1_s q2_s q3_s _ => by omega)
  · have e2_s : zup h_s.2.1 (76 + 2 * zix x1_s) 0 0 102 39 = h_s.2.1 102 39 := zne_up (by omega)
    refine sp_229 hk (by dsimp only; rw [e2_s]; omega) (fun q_s => ?_) (fun q1_s q2_s q3_s _ => ⟨rfl, ?_⟩)
    · dsimp only at q_s
      rw [e2_s] at q_s
      omega
    · dsimp only
      refine ⟨fun d_s hd_s => ⟨?_, (hs.1 d_s hd_s).2⟩, ?_, ?_, ?_⟩
      · dsimp only
        by_cases e_s : d_s = zix x1_s
        · subst e_s
          refine Or.inl ?_
          simp (disch := omega) only [zne_up, zsame_up]
          exact ⟨rfl, c3_s⟩
        · refine tS1_same (fun k_s => ?_) ?_ ?_ (hs.1 d_s hd_s).1
          · simp (disch := omega) only [zne_up]
          · simp (disch := omega) only [zne_up]
          · simp (disch := omega) only [zne_up]
      · dsimp only
        simp (disch := omega) only [zne_up]
        exact hs.2.1
      · dsimp only
        simp (disch := omega) only [zne_up]
        exact hs.2.2.1
      · dsimp only
        simp (disch := omega) only [zne_up]
        exact hs.2.2.2
  · have e2_s : zup (zup h_s.2.1 (76 + 2 * zix x1_s) 0 1) (76 + 2 * zix x1_s) 1 x2_s 102 39 = h_s.2.1 102 39 := by rw [zne_up (by omega), zne_up (by omega)]
    refine sp_229 hk (by dsimp only; rw [e2_s]; omega) (fun q_s => ?_) (fun q1_s q2_s q3_s _ => ⟨rfl, ?_⟩)
    · dsimp only at q_s
      rw [e2_s] at q_s
      omega
    · dsimp only
      refine ⟨fun d_s hd_s => ⟨?_, (hs.1 d_s hd_s).2⟩, ?_, ?_, ?_⟩
      · dsimp only
        by_cases e_s : d_s = zix x1_s
        · subst e_s
          refine Or.inr (Or.inl ?_)
          simp (disch := omega) only [zne_up, zsame_up]
          exact ⟨rfl, by omega, by omega⟩
        · refine tS1_same (fun k_s => ?_) ?_ ?_ (hs.1 d_s hd_s).1
          · simp (disch := omega) only [zne_up]
          · simp (disch := omega) only [zne_up]
          · simp (disch := omega) only [zne_up]
      · dsimp only
        simp (disch := omega) only [zne_up]
        exact hs.2.1
      · dsimp only
        simp (disch := omega) only [zne_up]
        exact hs.2.2.1
      · dsimp only
        simp (disch := omega) only [zne_up]
        exact hs.2.2.2
theorem pr_body (hk : hKn h_s) (hs : tS h_s) : wF F_s 125 (0, [some (.ref 6), some (.int x1_s)], [], h_s) (gI (fun v_s h1 => wF F_s 219 (0, [some (.ref 102), some (.int x1_s)], [], h1) (gI (fun v2 h2 => v_s = v2 ∧ tS h2)))) := by
  have eI : (h_s.2.1 47 1).toInt = (h_s.2.1 102 39).toInt := by rw [hs.2.1]
  have b1 := hs.2.2.1
  have b2 := hs.2.2.2
  refine sp_125 hk (fun c_s => ?_) (fun c1_s c2_s c3_s => ?_) (fun c1_s c2_s c3_s => ?_)
  · exact sp_219 hk (fun _ => ⟨rfl, hs⟩) (fun q1_s q2_s _ => by omega) (fun q1_s q2_s _ => by omega)
  · exact sp_219 hk (fun q_s => by omega) (fun _ _ _ => ⟨rfl, hs⟩) (fun _ _ q_s => by omega)
  · have e2_s : zup (zup h_s.2.1 48 (zix (h_s.2.1 47 1)) x1_s) 47 1 (h_s.2.1 47 1 + 1) 102 39 = h_s.2.1 102 39 := by rw [zne_up (by omega), zne_up (by omega)]
    have e1_s := in1_ (x_s := h_s.2.1 47 1) (by omega)
    refine sp_219 hk (fun q_s => by omega) (fun _ _ q_s => ?_) (fun _ _ q_s => ⟨?_, ?_⟩)
    · dsimp only at q_s
      rw [e2_s] at q_s
      omega
    · dsimp only
      rw [e2_s, ← hs.2.1]
      refine Int32.toInt_inj.mp ?_
      rw [na_sub (by rw [n1_]; omega) (by rw [n1_]; omega), n1_]
      omega
    · dsimp only
      rw [e2_s]
      refine ⟨fun d_s hd_s => ⟨?_, (hs.1 d_s hd_s).2⟩, ?_, ?_, ?_⟩
      · dsimp only
        refine tS1_same (fun k_s => ?_) ?_ ?_ (hs.1 d_s hd_s).1
        · simp (disch := omega) only [zne_up]
        · simp (disch := omega) only [zne_up]
        · simp (disch := omega) only [zne_up]
      · dsimp only
        rw [zne_up (by omega), zne_up (by omega), zsame_up, zsame_up, hs.2.1]
      · dsimp only
        rw [zne_up (by omega), zne_up (by omega), zsame_up]
        omega
      · dsimp only
        rw [zne_up (by omega), zne_up (by omega), zsame_up]
        omega
theorem pr_put (hk : hKn h_s) (hs : tS h_s) : wF F_s 130 (0, [some (.ref 6), some (.int x1_s), some (.int x2_s), some (.long y3), none, none], [], h_s) (gI (fun v_s h1 => wF F_s 233 (0, [some (.ref 102), some (.int x1_s), some (.int x2_s), some (.long y3), none, none], [], h1) (gI (fun v2 h2 => v_s = v2 ∧ tS h2)))) := by
  refine sp_130 hk (fun c_s => ?_) (fun c1_s c2_s c3_s c4_s => ?_) (fun c1_s c2_s c3_s c4_s c5_s => ?_) (fun c1_s c2_s c3_s c4_s c5_s => ?_) (fun c1_s c2_s c3_s c4_s c5_s c6_s c7_s => ?_)
  · exact sp_233 hk (fun _ => ⟨rfl, hs⟩) (fun q1_s q2_s _ _ => by omega) (fun q1_s q2_s _ _ _ => by omega) (fun q1_s q2_s _ _ _ => by omega) (fun q1_s q2_s _ _ _ _ => by omega)
  · have q_s := (hs.1 _ c3_s).1
    unfold tS1 at q_s
    exact sp_233 hk (fun _ => by omega) (fun _ _ _ _ => ⟨rfl, hs⟩) (fun q1_s q2_s _ q3_s q4_s => by omega) (fun q1_s q2_s _ q3_s _ => by omega) (fun q1_s q2_s _ q3_s _ _ => by omega)
  · have q_s := (hs.1 _ c3_s).1
    unfold tS1 at q_s
    exact sp_233 hk (fun _ => by omega) (fun _ _ _ q3_s => by omega) (fun _ _ _ _ _ => ⟨rfl, hs⟩) (fun q1_s q2_s _ q3_s _ => by omega) (fun q1_s q2_s _ q3_s _ _ => by omega)
  · have q_s := (hs.1 _ c3_s).1
    unfold tS1 at q_s
    exact sp_233 hk (fun _ => by omega) (fun _ _ _ q3_s => by omega) (fun _ _ _ q3_s q4_s => by omega) (fun _ _ _ _ _ => ⟨rfl, hs⟩) (fun q1_s q2_s _ q3_s q4_s q5_s => by omega)
  · have q_s := (hs.1 _ c3_s).1
    unfold tS1 at q_s
    refine sp_233 hk (fun _ => by omega) (fun _ _ _ q3_s => ?_) (fun _ _ _ q3_s q4_s => ?_) (fun _ _ _ q3_s q4_s => ?_) (fun _ _ _ q3_s q4_s q5_s => ⟨rfl, ?_⟩)
    · dsimp only at q3_s
      omega
    · dsimp only at q3_s q4_s
      omega
    · dsimp only at q3_s q4_s
      omega
    · have z2 := azix (i := x2_s) c5_s
      have e6_s := zx60 (d_s := x1_s) (i_s := x2_s) c1_s c2_s c5_s (by omega)
      dsimp only
      rw [e6_s, show (h_s.2.1 124 (zix x1_s)).toInt - 50 = (h_s.2.1 (76 + 2 * zix x1_s) 2).toInt by omega]
      refine ⟨fun d_s hd_s => ⟨(hs.1 d_s hd_s).1, fun k_s hq => ?_⟩, hs.2⟩
      dsimp only
      by_cases e_s : d_s = zix x1_s ∧ k_s = zix x2_s
      · obtain ⟨rfl, rfl⟩ := e_s
        rw [zne_up (by omega), zsame_up, zsame_up]
      · rw [zne_up (by omega), zne_up (by omega), zne_up (by omega), zne_up (by omega)]
        exact (hs.1 d_s hd_s).2 k_s hq
theorem pr_shift (hk : hKn h_s) (hs : tS h_s) : wF F_s 132 (0, [some (.ref 6), some (.int x1_s), some (.int x2_s), some (.int x3), some (.int x4_s), some (.int x5_s), none, none], [], h_s) (gI (fun v_s h1 => wF F_s 235 (0, [some (.ref 102), some (.int x1_s), some (.int x2_s), some (.int x3), some (.int x4_s), some (.int x5_s), none], [], h1) (gI (fun v2 h2 => v_s = v2 ∧ tS h2)))) := by
  have hl : ∀ d_s, d_s < 6 → (h_s.2.1 (76 + 2 * d_s) 0).toInt = 2 → 0 ≤ (h_s.2.1 (76 + 2 * d_s) 3).toInt ∧ (h_s.2.1 (76 + 2 * d_s) 3).toInt ≤ 60 := fun d_s hd_s hq => by
    have q_s := (hs.1 d_s hd_s).1
    unfold tS1 at q_s
    omega
  have hr : ∀ d_s, d_s < 6 → 50 ≤ (h_s.2.1 124 d_s).toInt → 0 ≤ (h_s.2.1 125 d_s).toInt ∧ (h_s.2.1 125 d_s).toInt ≤ 60 := fun d_s hd_s hq => by
    have q_s := (hs.1 d_s hd_s).1
    unfold tS1 at q_s
    omega
  refine sp_132 hk hl (fun c_s => ?_) (fun c1_s c2_s c3_s c4_s => ?_) (fun c1_s c2_s c3_s c4_s c5_s => ?_) (fun c1_s c2_s c3_s c4_s c5_s c6_s c7_s => ?_) (fun c1_s c2_s c3_s c4_s c5_s c6_s c7_s => ?_)
  · exact sp_235 hk hr (fun _ => ⟨rfl, hs⟩) (fun q_s => absurd c_s q_s) (fun q_s => absurd c_s q_s) (fun q_s => absurd c_s q_s) (fun q_s => absurd c_s q_s)
  · have qa := (hs.1 _ c1_s).1
    have qb := (hs.1 _ c2_s).1
    unfold tS1 at qa qb
    exact sp_235 hk hr (fun q_s => absurd q_s c3_s) (fun _ _ => ⟨rfl, hs⟩) (fun _ q1_s q2_s => by omega) (fun _ q1_s q2_s _ => by omega) (fun _ q1_s q2_s _ => by omega)
  · have qa := (hs.1 _ c1_s).1
    have qb := (hs.1 _ c2_s).1
    unfold tS1 at qa qb
    exact sp_235 hk hr (fun q_s => absurd q_s c3_s) (fun _ q1_s => by omega) (fun _ _ _ => ⟨rfl, hs⟩) (fun _ q1_s q2_s _ => by omega) (fun _ q1_s q2_s _ => by omega)
  · have qa := (hs.1 _ c1_s).1
    have qb := (hs.1 _ c2_s).1
    unfold tS1 at qa qb
    exact sp_235 hk hr (fun q_s => absurd q_s c3_s) (fun _ q1_s => by omega) (fun _ q1_s q2_s => by omega) (fun _ _ _ _ => ⟨rfl, hs⟩) (fun _ q1_s q2_s q3_s => by omega)
  · have qa := (hs.1 _ c1_s).1
    have qb := (hs.1 _ c2_s).1
    unfold tS1 at qa qb
    refine sp_235 hk hr (fun q_s => absurd q_s c3_s) (fun _ q1_s => ?_) (fun _ q1_s q2_s => ?_) (fun _ q1_s q2_s q3_s => ?_) (fun _ q1_s q2_s q3_s g_s p1_s p2_s => ⟨rfl, ?_⟩)
    · dsimp only at q1_s
      omega
    · dsimp only at q1_s q2_s
      omega
    · dsimp only at q1_s q2_s q3_s
      omega
    · have z2 := azix (i := x2_s) (by omega)
      have z4 := azix (i := x4_s) (by omega)
      have z5 := azix (i := x5_s) (by omega)
      dsimp only at p1_s p2_s ⊢
      refine ⟨fun d_s hd_s => ⟨(hs.1 d_s hd_s).1, fun k_s hq => ?_⟩, hs.2⟩
      dsimp only
      by_cases e_s : d_s = zix x3
      · subst e_s
        rw [p2_s (76 + 2 * zix x3 + 1) k_s (by omega) (by omega), zrw_s]
        by_cases e2_s : zix x4_s ≤ k_s ∧ k_s < zix x4_s + zix x5_s
        · have p_s := p1_s (k_s - zix x4_s) (by omega)
          rw [show 60 * zix x3 + zix x4_s + (k_s - zix x4_s) = 60 * zix x3 + k_s by omega, zrw_n (by omega)] at p_s
          rw [zcp_i e2_s, p_s, (hs.1 _ c1_s).2 _ (by omega)]
          exact congrArg _ (by omega)
        · rw [zcp_o e2_s, p2_s 126 (60 * zix x3 + k_s) (by omega) (by omega), zrw_n (by omega)]
          exact (hs.1 _ hd_s).2 k_s hq
      · rw [p2_s (76 + 2 * d_s + 1) k_s (by omega) (by omega), p2_s 126 (60 * d_s + k_s) (by omega) (by omega), zrw_n (by omega), zrw_n (by omega)]
        exact (hs.1 d_s hd_s).2 k_s hq
theorem pr_elem (hk : hKn h_s) (hs : tS h_s) : wF F_s 131 (0, [some (.ref 6), some (.int x1_s), some (.int x2_s)], [], h_s) (gJ (fun v_s h1 => wF F_s 234 (0, [some (.ref 102), some (.int x1_s), some (.int x2_s)], [], h1) (gJ (fun v2 h2 => v_s = v2 ∧ tS h2)))) := by
  refine sp_131 hk (fun c_s => ?_) (fun c1_s c2_s c3_s c4_s c5_s c6_s c7_s => ?_)
  · refine sp_234 hk (fun _ => ⟨rfl, hs⟩) (fun q1_s q2_s q3_s q4_s q5_s q6_s => ?_)
    have q_s := (hs.1 _ q3_s).1
    unfold tS1 at q_s
    omega
  · have q_s := (hs.1 _ c3_s).1
    unfold tS1 at q_s
    refine sp_234 hk (fun q_s => by omega) (fun q1_s q2_s q3_s q4_s q5_s q6_s => ⟨?_, hs⟩)
    rw [zx60 (d_s := x1_s) (i_s := x2_s) c1_s c2_s c5_s (by omega)]
    exact (hs.1 _ c3_s).2 _ c7_s
end SS_s
/-! SHELVES: what others' calls leave as it was; the start. -/
noncomputable def tSok (W_s : aW) : Bool := (!aWf W_s 1000 0 && (!aWf W_s 47 1 && !aWf W_s 102 39)) && (List.range 6).all (fun d_s => (!aWf W_s 124 d_s && !aWf W_s 125 d_s) && (!aWf W_s (76 + 2 * d_s) 0 && (!aWf W_s (76 + 2 * d_s) 2 && !aWf W_s (76 + 2 * d_s) 3)))
theorem tS_fr {W_s : aW} (hw : tSok W_s = true) {h_s h1 : zH} (fr_s : aFr (aWf W_s) h_s h1) (hs : tS h_s) : tS h1 := by
  unfold tSok at hw
  rw [Bool.and_eq_true, Bool.and_eq_true, Bool.and_eq_true, Bool.not_eq_true', Bool.not_eq_true', Bool.not_eq_true'] at hw
  obtain ⟨⟨w1_s, w2_s, w3_s⟩, w4_s⟩ := hw
  have e1_s := fr_s.1 47 1 w2_s
  have e2_s := fr_s.1 102 39 w3_s
  have e3_s := fr_s.2.1 w1_s
  refine ⟨fun d_s hd_s => ?_, ?_, ?_, ?_⟩
  · have c_s := List.all_eq_true.mp w4_s d_s (List.mem_range.mpr hd_s)
    rw [Bool.and_eq_true, Bool.and_eq_true, Bool.and_eq_true, Bool.and_eq_true, Bool.not_eq_true', Bool.not_eq_true', Bool.not_eq_true', Bool.not_eq_true', Bool.not_eq_true'] at c_s
    obtain ⟨⟨c1_s, c2_s⟩, c3_s, c4_s, c5_s⟩ := c_s
    have q_s := hs.1 d_s hd_s
    refine ⟨?_, fun k_s hk => ?_⟩
    · have q1_s := q_s.1
      unfold tS1 at q1_s ⊢
      rw [fr_s.1 _ _ c1_s, fr_s.1 _ _ c2_s, fr_s.1 _ _ c3_s, fr_s.1 _ _ c4_s, fr_s.1 _ _ c5_s]
      exact q1_s
    · rw [e3_s]
      exact q_s.2 k_s hk
  · rw [e1_s, e2_s]
    exact hs.2.1
  · rw [e1_s]
    exact hs.2.2.1
  · rw [e1_s]
    exact hs.2.2.2
theorem tS_start {E_s : Nat → Int32} {n_s : Nat} {h_s : zH} (hc_s : hcSh h_s = true) : tS (sH E_s n_s [] h_s) := by
  have sv : ∀ o k_s, o ≠ 0 → sov E_s [] h_s.2.1 o k_s = h_s.2.1 o k_s := fun o k_s ho => by rw [sov_nil ho]
  unfold hcSh at hc_s
  rw [Bool.and_eq_true, Bool.and_eq_true, decide_eq_true_eq, decide_eq_true_eq] at hc_s
  obtain ⟨c1_s, c2_s, c3_s⟩ := hc_s
  refine ⟨fun d_s hd_s => ?_, ?_, ?_, ?_⟩
  · have c_s := List.all_eq_true.mp c1_s d_s (List.mem_range.mpr hd_s)
    rw [Bool.and_eq_true, Bool.and_eq_true, decide_eq_true_eq, decide_eq_true_eq] at c_s
    refine ⟨Or.inl ⟨?_, ?_⟩, fun k_s hk => ?_⟩
    · show (sov E_s [] h_s.2.1 (76 + 2 * d_s) 0).toInt = 0
      rw [sv _ _ (by omega)]
      exact c_s.1.1
    · show (sov E_s [] h_s.2.1 124 d_s).toInt = -1
      rw [sv _ _ (by omega)]
      exact c_s.1.2
    · exact of_decide_eq_true (List.all_eq_true.mp c_s.2 k_s (List.mem_range.mpr hk))
  · show sov E_s [] h_s.2.1 47 1 = sov E_s [] h_s.2.1 102 39
    rw [sv _ _ (by omega), sv _ _ (by omega), c2_s, c3_s]
  · show 0 ≤ (sov E_s [] h_s.2.1 47 1).toInt
    rw [sv _ _ (by omega), c2_s]
    decide
  · show (sov E_s [] h_s.2.1 47 1).toInt ≤ 50
    rw [sv _ _ (by omega), c2_s]
    decide
/-! What ended runs of the methods that read a text give: printed by a program (wip/fun/sg.py). -/
/-- ColdShod$LawCode.add(I)V, from 0 on -/
theorem sg_54_0 {F_s : Nat} {q_s : Nat} {x1_s : Int32} {h_s : zH} {K_s : zH → Prop} (hm_s : q_s = 14 ∨ q_s = 17) (hk : hKn h_s) (t_s : ((h_s.2.1 q_s 2).toInt < 242 → (zix (h_s.2.1 q_s 2) < 242 → K_s (h_s.1, zup (zup h_s.2.1 (q_s + 1) (zix (h_s.2.1 q_s 2)) x1_s) q_s 2 (((zup h_s.2.1 (q_s + 1) (zix (h_s.2.1 q_s 2)) x1_s) q_s 2) + 1), h_s.2.2.1, h_s.2.2.2))) ∧ (¬ (h_s.2.1 q_s 2).toInt < 242 → K_s h_s)) : wF (F_s + 1) 54 (0, [some (.ref q_s), some (.int x1_s)], [], h_s) (gV K_s) := by
  refine w_0 (pc := 0) (e_s := (3, 1, 0, 0, 0, .null, [])) (y_s := (1, [some (.ref _), some (.int _)], [.ref _], _)) rfl (u_ rfl) ?_
  refine w20 (pc := 1) (len_s := 3) rfl ?_
  refine w_t (pc := 4) (e_s := (0, 3, 0, 0, 0, .int 242, [])) (y_s := (7, [some (.ref _), some (.int _)], [.int _, .int _], _)) rfl (u_ rfl) ?_
  refine wi2 (pc := 7) (len_s := 3) (Y := 242) rfl rfl (by decide) (fun c1_s => ?_) (fun c1_s => ?_)
  · replace t_s := t_s.1 c1_s
    refine w_t (pc := 11) (e_s := (3, 1, 0, 0, 0, .null, [])) (y_s := (12, [some (.ref _), some (.int _)], [.ref _], _)) rfl (u_ rfl) ?_
    refine w20r (pc := 12) (len_s := 3) (q_s := q_s + 1) rfl (klaw1 hk hm_s) ?_
    refine w_t (pc := 15) (e_s := (3, 1, 0, 0, 0, .null, [])) (y_s := (16, [some (.ref _), some (.int _)], [.ref _, .ref _], _)) rfl (u_ rfl) ?_
    refine w20 (pc := 16) (len_s := 3) rfl ?_
    refine w_t (pc := 19) (e_s := (1, 1, 1, 0, 0, .null, [])) (y_s := (20, [some (.ref _), some (.int _)], [.int _, .int _, .ref _], _)) rfl (u_ rfl) ?_
    refine w25 (pc := 20) (len_s := 1) rfl (klz1 hk hm_s) (fun c2_s => ?_)
    replace t_s := t_s c2_s
    refine w_t (pc := 21) (e_s := (3, 1, 0, 0, 0, .null, [])) (y_s := (22, [some (.ref _), some (.int _)], [.ref _], _)) rfl (u_ rfl) ?_
    refine w_t (pc := 22) (e_s := (39, 1, 0, 0, 0, .null, [])) (y_s := (23, [some (.ref _), some (.int _)], [.ref _, .ref _], _)) rfl (u_ rfl) ?_
    refine w20 (pc := 23) (len_s := 3) rfl ?_
    refine w_t (pc := 26) (e_s := (0, 1, 0, 0, 0, .int 1, [])) (y_s := (27, [some (.ref _), some (.int _)], [.int _, .int _, .ref _], _)) rfl (u_ rfl) ?_
    refine w_t (pc := 27) (e_s := (7, 1, 0, 0, 0, .null, [])) (y_s := (28, [some (.ref _), some (.int _)], [.int (_ + _), .ref _], _)) rfl (u_ rfl) ?_
    refine w21 (pc := 28) (len_s := 3) rfl ?_
    exact wrV (pc := 31) (len_s := 1) rfl hk t_s
  · replace t_s := t_s.2 c1_s
    exact wrV (pc := 10) (len_s := 1) rfl hk t_s
/-- ColdShod$LawCode.addName(I)V, from 0 on -/
theorem sg_55_0 {F_s : Nat} {q_s : Nat} {x1_s : Int32} {h_s : zH} {K_s : zH → Prop} (hm_s : q_s = 14 ∨ q_s = 17) (hk : hKn h_s) (t_s : wF F_s 54 (0, [some (.ref q_s), some (.int 109)], [], h_s) (gV (fun h1 => hKn h1 → wF F_s 54 (0, [some (.ref q_s), some (.int x1_s)], [], h1) (gV (fun h2 => hKn h2 → (x1_s.toInt = 1 → K_s (h2.1, zup h2.2.1 q_s 0 1, h2.2.2.1, h2.2.2.2)) ∧ (¬ x1_s.toInt = 1 → K_s h2)))))) : wF (F_s + 1) 55 (0, [some (.ref q_s), some (.int x1_s)], [], h_s) (gV K_s) := by
  refine w_0 (pc := 0) (e_s := (3, 1, 0, 0, 0, .null, [])) (y_s := (1, [some (.ref _), some (.int _)], [.ref _], _)) rfl (u_ rfl) ?_
  refine w_t (pc := 1) (e_s := (0, 2, 0, 0, 0, .int 109, [])) (y_s := (3, [some (.ref _), some (.int _)], [.int _, .ref _], _)) rfl (u_ rfl) ?_
  refine wcV (pc := 3) (len_s := 3) rfl rfl (l := [some (.ref _), some (.int _)]) rfl (wmV t_s (fun h1 hk t_s => ?_))
  replace t_s := t_s hk
  refine w_t (pc := 6) (e_s := (3, 1, 0, 0, 0, .null, [])) (y_s := (7, [some (.ref _), some (.int _)], [.ref _], _)) rfl (u_ rfl) ?_
  refine w_t (pc := 7) (e_s := (1, 1, 1, 0, 0, .null, [])) (y_s := (8, [some (.ref _), some (.int _)], [.int _, .ref _], _)) rfl (u_ rfl) ?_
  refine wcV (pc := 8) (len_s := 3) rfl rfl (l := [some (.ref _), some (.int _)]) rfl (wmV t_s (fun h2 hk t_s => ?_))
  replace t_s := t_s hk
  refine w_t (pc := 11) (e_s := (1, 1, 1, 0, 0, .null, [])) (y_s := (12, [some (.ref _), some (.int _)], [.int _], _)) rfl (u_ rfl) ?_
  refine w_t (pc := 12) (e_s := (0, 1, 0, 0, 0, .int 1, [])) (y_s := (13, [some (.ref _), some (.int _)], [.int _, .int _], _)) rfl (u_ rfl) ?_
  refine wi1 (pc := 13) (len_s := 3) (Y := 1) rfl rfl (by decide) (fun c3_s => ?_) (fun c3_s => ?_)
  · replace t_s := t_s.1 c3_s
    refine w_t (pc := 16) (e_s := (3, 1, 0, 0, 0, .null, [])) (y_s := (17, [some (.ref _), some (.int _)], [.ref _], _)) rfl (u_ rfl) ?_
    refine w_t (pc := 17) (e_s := (0, 1, 0, 0, 0, .int 1, [])) (y_s := (18, [some (.ref _), some (.int _)], [.int _, .ref _], _)) rfl (u_ rfl) ?_
    refine w21b (pc := 18) (len_s := 3) rfl ?_
    exact wrV (pc := 21) (len_s := 1) rfl hk t_s
  · replace t_s := t_s.2 c3_s
    exact wrV (pc := 21) (len_s := 1) rfl hk t_s
/-- ColdShod$LawCode.addSkip()I, from 0 on -/
theorem sg_56_0 {F_s : Nat} {q_s : Nat} {h_s : zH} {K_s : Int32 → zH → Prop} (hm_s : q_s = 14 ∨ q_s = 17) (hk : hKn h_s) (t_s : wF F_s 54 (0, [some (.ref q_s), some (.int 63)], [], h_s) (gV (fun h1 => hKn h1 → wF F_s 54 (0, [some (.ref q_s), some (.int 0)], [], h1) (gV (fun h2 => hKn h2 → K_s ((h2.2.1 q_s 2) - 1) h2))))) : wF (F_s + 1) 56 (0, [some (.ref q_s)], [], h_s) (gI K_s) := by
  refine w_0 (pc := 0) (e_s := (3, 1, 0, 0, 0, .null, [])) (y_s := (1, [some (.ref _)], [.ref _], _)) rfl (u_ rfl) ?_
  refine w_t (pc := 1) (e_s := (0, 2, 0, 0, 0, .int 63, [])) (y_s := (3, [some (.ref _)], [.int _, .ref _], _)) rfl (u_ rfl) ?_
  refine wcV (pc := 3) (len_s := 3) rfl rfl (l := [some (.ref _), some (.int _)]) rfl (wmV t_s (fun h1 hk t_s => ?_))
  replace t_s := t_s hk
  refine w_t (pc := 6) (e_s := (3, 1, 0, 0, 0, .null, [])) (y_s := (7, [some (.ref _)], [.ref _], _)) rfl (u_ rfl) ?_
  refine w_t (pc := 7) (e_s := (0, 1, 0, 0, 0, .int 0, [])) (y_s := (8, [some (.ref _)], [.int _, .ref _], _)) rfl (u_ rfl) ?_
  refine wcV (pc := 8) (len_s := 3) rfl rfl (l := [some (.ref _), some (.int _)]) rfl (wmV t_s (fun h2 hk t_s => ?_))
  replace t_s := t_s hk
  refine w_t (pc := 11) (e_s := (3, 1, 0, 0, 0, .null, [])) (y_s := (12, [some (.ref _)], [.ref _], _)) rfl (u_ rfl) ?_
  refine w20 (pc := 12) (len_s := 3) rfl ?_
  refine w_t (pc := 15) (e_s := (0, 1, 0, 0, 0, .int 1, [])) (y_s := (16, [some (.ref _)], [.int _, .int _], _)) rfl (u_ rfl) ?_
  refine w_t (pc := 16) (e_s := (7, 1, 0, 1, 0, .null, [])) (y_s := (17, [some (.ref _)], [.int (_ - _)], _)) rfl (u_ rfl) ?_
  exact wrI (pc := 17) (len_s := 1) rfl hk t_s
/-- ColdShod$LawCode.endSkip(I)V, from 0 on -/
theorem sg_57_0 {F_s : Nat} {q_s : Nat} {x1_s : Int32} {h_s : zH} {K_s : zH → Prop} (hm_s : q_s = 14 ∨ q_s = 17) (hk : hKn h_s) (t_s : (x1_s.toInt < 0 → K_s h_s) ∧ (¬ x1_s.toInt < 0 → ((x1_s.toInt < 242 → (zix x1_s < 242 → K_s (h_s.1, zup h_s.2.1 (q_s + 1) (zix x1_s) (h_s.2.1 q_s 2), h_s.2.2.1, h_s.2.2.2))) ∧ (¬ x1_s.toInt < 242 → K_s h_s)))) : wF (F_s + 1) 57 (0, [some (.ref q_s), some (.int x1_s)], [], h_s) (gV K_s) := by
  refine w_0 (pc := 0) (e_s := (1, 1, 1, 0, 0, .null, [])) (y_s := (1, [some (.ref _), some (.int _)], [.int _], _)) rfl (u_ rfl) ?_
  refine wq2 (pc := 1) (len_s := 3) rfl rfl (fun c1_s => ?_) (fun c1_s => ?_)
  · replace t_s := t_s.1 c1_s
    exact wrV (pc := 21) (len_s := 1) rfl hk t_s
  · replace t_s := t_s.2 c1_s
    refine w_t (pc := 4) (e_s := (1, 1, 1, 0, 0, .null, [])) (y_s := (5, [some (.ref _), some (.int _)], [.int _], _)) rfl (u_ rfl) ?_
    refine w_t (pc := 5) (e_s := (0, 3, 0, 0, 0, .int 242, [])) (y_s := (8, [some (.ref _), some (.int _)], [.int _, .int _], _)) rfl (u_ rfl) ?_
    refine wi3 (pc := 8) (len_s := 3) (Y := 242) rfl rfl (by decide) (fun c2_s => ?_) (fun c2_s => ?_)
    · replace t_s := t_s.1 c2_s
      refine w_t (pc := 11) (e_s := (3, 1, 0, 0, 0, .null, [])) (y_s := (12, [some (.ref _), some (.int _)], [.ref _], _)) rfl (u_ rfl) ?_
      refine w20r (pc := 12) (len_s := 3) (q_s := q_s + 1) rfl (klaw1 hk hm_s) ?_
      refine w_t (pc := 15) (e_s := (1, 1, 1, 0, 0, .null, [])) (y_s := (16, [some (.ref _), some (.int _)], [.int _, .ref _], _)) rfl (u_ rfl) ?_
      refine w_t (pc := 16) (e_s := (3, 1, 0, 0, 0, .null, [])) (y_s := (17, [some (.ref _), some (.int _)], [.ref _, .int _, .ref _], _)) rfl (u_ rfl) ?_
      refine w20 (pc := 17) (len_s := 3) rfl ?_
      refine w25 (pc := 20) (len_s := 1) rfl (klz1 hk hm_s) (fun c3_s => ?_)
      replace t_s := t_s c3_s
      exact wrV (pc := 21) (len_s := 1) rfl hk t_s
    · replace t_s := t_s.2 c2_s
      exact wrV (pc := 21) (len_s := 1) rfl hk t_s
/-- ColdShod$LawText.letter()I, from 0 on -/
theorem sg_68_0 {F_s : Nat}  {h_s : zH} {K_s : Int32 → zH → Prop} (hk : hKn h_s) (t_s : ((h_s.2.1 40 2).toInt < (h_s.2.1 40 1).toInt → (zix (h_s.2.1 40 2) < 120 → K_s (h_s.2.1 41 (zix (h_s.2.1 40 2))) h_s)) ∧ (¬ (h_s.2.1 40 2).toInt < (h_s.2.1 40 1).toInt → K_s (-1) h_s)) : wF (F_s + 1) 68 (0, [some (.ref 40)], [], h_s) (gI K_s) := by
  refine w_0 (pc := 0) (e_s := (3, 1, 0, 0, 0, .null, [])) (y_s := (1, [some (.ref _)], [.ref _], _)) rfl (u_ rfl) ?_
  refine w20 (pc := 1) (len_s := 3) rfl ?_
  refine w_t (pc := 4) (e_s := (3, 1, 0, 0, 0, .null, [])) (y_s := (5, [some (.ref _)], [.ref _, .int _], _)) rfl (u_ rfl) ?_
  refine w20 (pc := 5) (len_s := 3) rfl ?_
  refine wi3 (pc := 8) (len_s := 3) rfl rfl rfl (fun c1_s => ?_) (fun c1_s => ?_)
  · replace t_s := t_s.1 c1_s
    refine w_t (pc := 11) (e_s := (3, 1, 0, 0, 0, .null, [])) (y_s := (12, [some (.ref _)], [.ref _], _)) rfl (u_ rfl) ?_
    refine w20r (pc := 12) (len_s := 3) (q_s := 41) rfl (krq hk rfl) ?_
    refine w_t (pc := 15) (e_s := (3, 1, 0, 0, 0, .null, [])) (y_s := (16, [some (.ref _)], [.ref _, .ref _], _)) rfl (u_ rfl) ?_
    refine w20 (pc := 16) (len_s := 3) rfl ?_
    refine w22 (pc := 19) (len_s := 1) rfl (hk.1 41 0 120 rfl rfl) (fun c2_s => ?_)
    replace t_s := t_s c2_s
    refine w_t (pc := 20) (e_s := (17, 3, 24, 0, 0, .null, [])) (y_s := (24, [some (.ref _)], [.int _], _)) rfl (u_ rfl) ?_
    exact wrI (pc := 24) (len_s := 1) rfl hk t_s
  · replace t_s := t_s.2 c1_s
    refine w_t (pc := 23) (e_s := (0, 1, 0, 0, 0, .int (-1), [])) (y_s := (24, [some (.ref _)], [.int _], _)) rfl (u_ rfl) ?_
    exact wrI (pc := 24) (len_s := 1) rfl hk t_s
/-- ColdShod$LawText.passes(I)Z, from 0 on -/
theorem sg_69_0 {F_s : Nat} {x1_s : Int32} {h_s : zH} {K_s : Int32 → zH → Prop} (hk : hKn h_s) (t_s : wF F_s 68 (0, [some (.ref 40)], [], h_s) (gI (fun v1_s h1 => hKn h1 → (v1_s.toInt = x1_s.toInt → K_s 1 (h1.1, zup h1.2.1 40 2 ((h1.2.1 40 2) + 1), h1.2.2.1, h1.2.2.2)) ∧ (¬ v1_s.toInt = x1_s.toInt → K_s 0 h1)))) : wF (F_s + 1) 69 (0, [some (.ref 40), some (.int x1_s)], [], h_s) (gI K_s) := by
  refine w_0 (pc := 0) (e_s := (3, 1, 0, 0, 0, .null, [])) (y_s := (1, [some (.ref _), some (.int _)], [.ref _], _)) rfl (u_ rfl) ?_
  refine wcI (pc := 1) (len_s := 3) rfl rfl (l := [some (.ref _)]) rfl (wmI t_s (fun v1_s h1 hk t_s => ?_))
  replace t_s := t_s hk
  refine w_t (pc := 4) (e_s := (1, 1, 1, 0, 0, .null, [])) (y_s := (5, [some (.ref _), some (.int _)], [.int _, .int _], _)) rfl (u_ rfl) ?_
  refine wi0 (pc := 5) (len_s := 3) rfl rfl rfl (fun c2_s => ?_) (fun c2_s => ?_)
  · replace t_s := t_s.1 c2_s
    refine w_t (pc := 10) (e_s := (3, 1, 0, 0, 0, .null, [])) (y_s := (11, [some (.ref _), some (.int _)], [.ref _], _)) rfl (u_ rfl) ?_
    refine w_t (pc := 11) (e_s := (39, 1, 0, 0, 0, .null, [])) (y_s := (12, [some (.ref _), some (.int _)], [.ref _, .ref _], _)) rfl (u_ rfl) ?_
    refine w20 (pc := 12) (len_s := 3) rfl ?_
    refine w_t (pc := 15) (e_s := (0, 1, 0, 0, 0, .int 1, [])) (y_s := (16, [some (.ref _), some (.int _)], [.int _, .int _, .ref _], _)) rfl (u_ rfl) ?_
    refine w_t (pc := 16) (e_s := (7, 1, 0, 0, 0, .null, [])) (y_s := (17, [some (.ref _), some (.int _)], [.int (_ + _), .ref _], _)) rfl (u_ rfl) ?_
    refine w21 (pc := 17) (len_s := 3) rfl ?_
    refine w_t (pc := 20) (e_s := (0, 1, 0, 0, 0, .int 1, [])) (y_s := (21, [some (.ref _), some (.int _)], [.int _], _)) rfl (u_ rfl) ?_
    exact wrI (pc := 21) (len_s := 1) rfl hk t_s
  · replace t_s := t_s.2 c2_s
    refine w_t (pc := 8) (e_s := (0, 1, 0, 0, 0, .int 0, [])) (y_s := (9, [some (.ref _), some (.int _)], [.int _], _)) rfl (u_ rfl) ?_
    exact wrI (pc := 9) (len_s := 1) rfl hk t_s
/-- ColdShod$LawText.isDigit(I)Z, from 0 on -/
theorem sg_70_0 {F_s : Nat} {x1_s : Int32} {h_s : zH} {K_s : Int32 → zH → Prop} (hk : hKn h_s) (t_s : (x1_s.toInt < 48 → K_s 0 h_s) ∧ (¬ x1_s.toInt < 48 → ((57 < x1_s.toInt → K_s 0 h_s) ∧ (¬ 57 < x1_s.toInt → K_s 1 h_s)))) : wF (F_s + 1) 70 (0, [some (.int x1_s)], [], h_s) (gI K_s) := by
  refine w_0 (pc := 0) (e_s := (1, 1, 0, 0, 0, .null, [])) (y_s := (1, [some (.int _)], [.int _], _)) rfl (u_ rfl) ?_
  refine w_t (pc := 1) (e_s := (0, 2, 0, 0, 0, .int 48, [])) (y_s := (3, [some (.int _)], [.int _, .int _], _)) rfl (u_ rfl) ?_
  refine wi2 (pc := 3) (len_s := 3) (Y := 48) rfl rfl (by decide) (fun c1_s => ?_) (fun c1_s => ?_)
  · replace t_s := t_s.1 c1_s
    refine w_t (pc := 16) (e_s := (0, 1, 0, 0, 0, .int 0, [])) (y_s := (17, [some (.int _)], [.int _], _)) rfl (u_ rfl) ?_
    exact wrI (pc := 17) (len_s := 1) rfl hk t_s
  · replace t_s := t_s.2 c1_s
    refine w_t (pc := 6) (e_s := (1, 1, 0, 0, 0, .null, [])) (y_s := (7, [some (.int _)], [.int _], _)) rfl (u_ rfl) ?_
    refine w_t (pc := 7) (e_s := (0, 2, 0, 0, 0, .int 57, [])) (y_s := (9, [some (.int _)], [.int _, .int _], _)) rfl (u_ rfl) ?_
    refine wi4 (pc := 9) (len_s := 3) (Y := 57) rfl rfl (by decide) (fun c2_s => ?_) (fun c2_s => ?_)
    · replace t_s := t_s.1 c2_s
      refine w_t (pc := 16) (e_s := (0, 1, 0, 0, 0, .int 0, [])) (y_s := (17, [some (.int _)], [.int _], _)) rfl (u_ rfl) ?_
      exact wrI (pc := 17) (len_s := 1) rfl hk t_s
    · replace t_s := t_s.2 c2_s
      refine w_t (pc := 12) (e_s := (0, 1, 0, 0, 0, .int 1, [])) (y_s := (13, [some (.int _)], [.int _], _)) rfl (u_ rfl) ?_
      refine w_t (pc := 13) (e_s := (17, 3, 17, 0, 0, .null, [])) (y_s := (17, [some (.int _)], [.int _], _)) rfl (u_ rfl) ?_
      exact wrI (pc := 17) (len_s := 1) rfl hk t_s
/-- ColdShod$LawText.nameOf(I)I, from 0 on -/
theorem sg_71_0 {F_s : Nat} {x1_s : Int32} {h_s : zH} {K_s : Int32 → zH → Prop} (hk : hKn h_s) (t_s : (x1_s.toInt = 102 → K_s 3 h_s) ∧ (¬ x1_s.toInt = 102 → (x1_s.toInt = 103 → K_s (-1) h_s) ∧ (¬ x1_s.toInt = 103 → (x1_s.toInt = 104 → K_s 2 h_s) ∧ (¬ x1_s.toInt = 104 → (x1_s.toInt = 105 → K_s (-1) h_s) ∧ (¬ x1_s.toInt = 105 → (x1_s.toInt = 106 → K_s (-1) h_s) ∧ (¬ x1_s.toInt = 106 → (x1_s.toInt = 107 → K_s 5 h_s) ∧ (¬ x1_s.toInt = 107 → (x1_s.toInt = 108 → K_s (-1) h_s) ∧ (¬ x1_s.toInt = 108 → (x1_s.toInt = 109 → K_s 0 h_s) ∧ (¬ x1_s.toInt = 109 → (x1_s.toInt = 110 → K_s (-1) h_s) ∧ (¬ x1_s.toInt = 110 → (x1_s.toInt = 111 → K_s (-1) h_s) ∧ (¬ x1_s.toInt = 111 → (x1_s.toInt = 112 → K_s (-1) h_s) ∧ (¬ x1_s.toInt = 112 → (x1_s.toInt = 113 → K_s (-1) h_s) ∧ (¬ x1_s.toInt = 113 → (x1_s.toInt = 114 → K_s (-1) h_s) ∧ (¬ x1_s.toInt = 114 → (x1_s.toInt = 115 → K_s 4 h_s) ∧ (¬ x1_s.toInt = 115 → (x1_s.toInt = 116 → K_s (-1) h_s) ∧ (¬ x1_s.toInt = 116 → (x1_s.toInt = 117 → K_s (-1) h_s) ∧ (¬ x1_s.toInt = 117 → (x1_s.toInt = 118 → K_s (-1) h_s) ∧ (¬ x1_s.toInt = 118 → (x1_s.toInt = 119 → K_s 1 h_s) ∧ (¬ x1_s.toInt = 119 → K_s (-1) h_s))))))))))))))))))) : wF (F_s + 1) 71 (0, [some (.int x1_s)], [], h_s) (gI K_s) := by
  refine w_0 (pc := 0) (e_s := (1, 1, 0, 0, 0, .null, [])) (y_s := (1, [some (.int _)], [.int _], _)) rfl (u_ rfl) ?_
  refine wsw (pc := 1) (len_s := 87) rfl ?_
  refine wsc (X_s := 102) rfl (by decide) (fun c1_s => ?_) (fun c1_s => ?_)
  · replace t_s := t_s.1 c1_s
    refine w_t (pc := 94) (e_s := (0, 1, 0, 0, 0, .int 3, [])) (y_s := (95, [some (.int _)], [.int _], _)) rfl (u_ rfl) ?_
    exact wrI (pc := 95) (len_s := 1) rfl hk t_s
  · replace t_s := t_s.2 c1_s
    refine wsc (X_s := 103) rfl (by decide) (fun c2_s => ?_) (fun c2_s => ?_)
    · replace t_s := t_s.1 c2_s
      refine w_t (pc := 100) (e_s := (0, 1, 0, 0, 0, .int (-1), [])) (y_s := (101, [some (.int _)], [.int _], _)) rfl (u_ rfl) ?_
      exact wrI (pc := 101) (len_s := 1) rfl hk t_s
    · replace t_s := t_s.2 c2_s
      refine wsc (X_s := 104) rfl (by decide) (fun c3_s => ?_) (fun c3_s => ?_)
      · replace t_s := t_s.1 c3_s
        refine w_t (pc := 92) (e_s := (0, 1, 0, 0, 0, .int 2, [])) (y_s := (93, [some (.int _)], [.int _], _)) rfl (u_ rfl) ?_
        exact wrI (pc := 93) (len_s := 1) rfl hk t_s
      · replace t_s := t_s.2 c3_s
        refine wsc (X_s := 105) rfl (by decide) (fun c4_s => ?_) (fun c4_s => ?_)
        · replace t_s := t_s.1 c4_s
          refine w_t (pc := 100) (e_s := (0, 1, 0, 0, 0, .int (-1), [])) (y_s := (101, [some (.int _)], [.int _], _)) rfl (u_ rfl) ?_
          exact wrI (pc := 101) (len_s := 1) rfl hk t_s
        · replace t_s := t_s.2 c4_s
          refine wsc (X_s := 106) rfl (by decide) (fun c5_s => ?_) (fun c5_s => ?_)
          · replace t_s := t_s.1 c5_s
            refine w_t (pc := 100) (e_s := (0, 1, 0, 0, 0, .int (-1), [])) (y_s := (101, [some (.int _)], [.int _], _)) rfl (u_ rfl) ?_
            exact wrI (pc := 101) (len_s := 1) rfl hk t_s
          · replace t_s := t_s.2 c5_s
            refine wsc (X_s := 107) rfl (by decide) (fun c6_s => ?_) (fun c6_s => ?_)
            · replace t_s := t_s.1 c6_s
              refine w_t (pc := 98) (e_s := (0, 1, 0, 0, 0, .int 5, [])) (y_s := (99, [some (.int _)], [.int _], _)) rfl (u_ rfl) ?_
              exact wrI (pc := 99) (len_s := 1) rfl hk t_s
            · replace t_s := t_s.2 c6_s
              refine wsc (X_s := 108) rfl (by decide) (fun c7_s => ?_) (fun c7_s => ?_)
              · replace t_s := t_s.1 c7_s
                refine w_t (pc := 100) (e_s := (0, 1, 0, 0, 0, .int (-1), [])) (y_s := (101, [some (.int _)], [.int _], _)) rfl (u_ rfl) ?_
                exact wrI (pc := 101) (len_s := 1) rfl hk t_s
              · replace t_s := t_s.2 c7_s
                refine wsc (X_s := 109) rfl (by decide) (fun c8_s => ?_) (fun c8_s => ?_)
                · replace t_s := t_s.1 c8_s
                  refine w_t (pc := 88) (e_s := (0, 1, 0, 0, 0, .int 0, [])) (y_s := (89, [some (.int _)], [.int _], _)) rfl (u_ rfl) ?_
                  exact wrI (pc := 89) (len_s := 1) rfl hk t_s
                · replace t_s := t_s.2 c8_s
                  refine wsc (X_s := 110) rfl (by decide) (fun c9_s => ?_) (fun c9_s => ?_)
                  · replace t_s := t_s.1 c9_s
                    refine w_t (pc := 100) (e_s := (0, 1, 0, 0, 0, .int (-1), [])) (y_s := (101, [some (.int _)], [.int _], _)) rfl (u_ rfl) ?_
                    exact wrI (pc := 101) (len_s := 1) rfl hk t_s
                  · replace t_s := t_s.2 c9_s
                    refine wsc (X_s := 111) rfl (by decide) (fun c10_s => ?_) (fun c10_s => ?_)
                    · replace t_s := t_s.1 c10_s
                      refine w_t (pc := 100) (e_s := (0, 1, 0, 0, 0, .int (-1), [])) (y_s := (101, [some (.int _)], [.int _], _)) rfl (u_ rfl) ?_
                      exact wrI (pc := 101) (len_s := 1) rfl hk t_s
                    · replace t_s := t_s.2 c10_s
                      refine wsc (X_s := 112) rfl (by decide) (fun c11 => ?_) (fun c11 => ?_)
                      · replace t_s := t_s.1 c11
                        refine w_t (pc := 100) (e_s := (0, 1, 0, 0, 0, .int (-1), [])) (y_s := (101, [some (.int _)], [.int _], _)) rfl (u_ rfl) ?_
                        exact wrI (pc := 101) (len_s := 1) rfl hk t_s
                      · replace t_s := t_s.2 c11
                        refine wsc (X_s := 113) rfl (by decide) (fun c12_s => ?_) (fun c12_s => ?_)
                        · replace t_s := t_s.1 c12_s
                          refine w_t (pc := 100) (e_s := (0, 1, 0, 0, 0, .int (-1), [])) (y_s := (101, [some (.int _)], [.int _], _)) rfl (u_ rfl) ?_
                          exact wrI (pc := 101) (len_s := 1) rfl hk t_s
                        · replace t_s := t_s.2 c12_s
                          refine wsc (X_s := 114) rfl (by decide) (fun c13_s => ?_) (fun c13_s => ?_)
                          · replace t_s := t_s.1 c13_s
                            refine w_t (pc := 100) (e_s := (0, 1, 0, 0, 0, .int (-1), [])) (y_s := (101, [some (.int _)], [.int _], _)) rfl (u_ rfl) ?_
                            exact wrI (pc := 101) (len_s := 1) rfl hk t_s
                          · replace t_s := t_s.2 c13_s
                            refine wsc (X_s := 115) rfl (by decide) (fun c14_s => ?_) (fun c14_s => ?_)
                            · replace t_s := t_s.1 c14_s
                              refine w_t (pc := 96) (e_s := (0, 1, 0, 0, 0, .int 4, [])) (y_s := (97, [some (.int _)], [.int _], _)) rfl (u_ rfl) ?_
                              exact wrI (pc := 97) (len_s := 1) rfl hk t_s
                            · replace t_s := t_s.2 c14_s
                              refine wsc (X_s := 116) rfl (by decide) (fun c15_s => ?_) (fun c15_s => ?_)
                              · replace t_s := t_s.1 c15_s
                                refine w_t (pc := 100) (e_s := (0, 1, 0, 0, 0, .int (-1), [])) (y_s := (101, [some (.int _)], [.int _], _)) rfl (u_ rfl) ?_
                                exact wrI (pc := 101) (len_s := 1) rfl hk t_s
                              · replace t_s := t_s.2 c15_s
                                refine wsc (X_s := 117) rfl (by decide) (fun c16 => ?_) (fun c16 => ?_)
                                · replace t_s := t_s.1 c16
                                  refine w_t (pc := 100) (e_s := (0, 1, 0, 0, 0, .int (-1), [])) (y_s := (101, [some (.int _)], [.int _], _)) rfl (u_ rfl) ?_
                                  exact wrI (pc := 101) (len_s := 1) rfl hk t_s
                                · replace t_s := t_s.2 c16
                                  refine wsc (X_s := 118) rfl (by decide) (fun c17 => ?_) (fun c17 => ?_)
                                  · replace t_s := t_s.1 c17
                                    refine w_t (pc := 100) (e_s := (0, 1, 0, 0, 0, .int (-1), [])) (y_s := (101, [some (.int _)], [.int _], _)) rfl (u_ rfl) ?_
                                    exact wrI (pc := 101) (len_s := 1) rfl hk t_s
                                  · replace t_s := t_s.2 c17
                                    refine wsc (X_s := 119) rfl (by decide) (fun c18_s => ?_) (fun c18_s => ?_)
                                    · replace t_s := t_s.1 c18_s
                                      refine w_t (pc := 90) (e_s := (0, 1, 0, 0, 0, .int 1, [])) (y_s := (91, [some (.int _)], [.int _], _)) rfl (u_ rfl) ?_
                                      exact wrI (pc := 91) (len_s := 1) rfl hk t_s
                                    · replace t_s := t_s.2 c18_s
                                      show wF _ _ (100, _, _, _) _
                                      refine w_t (pc := 100) (e_s := (0, 1, 0, 0, 0, .int (-1), [])) (y_s := (101, [some (.int _)], [.int _], _)) rfl (u_ rfl) ?_
                                      exact wrI (pc := 101) (len_s := 1) rfl hk t_s
/-- ColdShod$LawText.levelOf(I)I, from 0 on -/
theorem sg_72_0 {F_s : Nat} {x1_s : Int32} {h_s : zH} {K_s : Int32 → zH → Prop} (hk : hKn h_s) (t_s : (x1_s.toInt = 37 → K_s 4 h_s) ∧ (¬ x1_s.toInt = 37 → (x1_s.toInt = 38 → K_s 1 h_s) ∧ (¬ x1_s.toInt = 38 → (x1_s.toInt = 42 → K_s 4 h_s) ∧ (¬ x1_s.toInt = 42 → (x1_s.toInt = 43 → K_s 3 h_s) ∧ (¬ x1_s.toInt = 43 → (x1_s.toInt = 45 → K_s 3 h_s) ∧ (¬ x1_s.toInt = 45 → (x1_s.toInt = 47 → K_s 4 h_s) ∧ (¬ x1_s.toInt = 47 → (x1_s.toInt = 60 → K_s 2 h_s) ∧ (¬ x1_s.toInt = 60 → (x1_s.toInt = 61 → K_s 2 h_s) ∧ (¬ x1_s.toInt = 61 → (x1_s.toInt = 62 → K_s 2 h_s) ∧ (¬ x1_s.toInt = 62 → (x1_s.toInt = 124 → K_s 0 h_s) ∧ (¬ x1_s.toInt = 124 → K_s (-1) h_s))))))))))) : wF (F_s + 1) 72 (0, [some (.int x1_s)], [], h_s) (gI K_s) := by
  refine w_0 (pc := 0) (e_s := (1, 1, 0, 0, 0, .null, [])) (y_s := (1, [some (.int _)], [.int _], _)) rfl (u_ rfl) ?_
  refine wsw (pc := 1) (len_s := 91) rfl ?_
  refine wsc (X_s := 37) rfl (by decide) (fun c1_s => ?_) (fun c1_s => ?_)
  · replace t_s := t_s.1 c1_s
    refine w_t (pc := 100) (e_s := (0, 1, 0, 0, 0, .int 4, [])) (y_s := (101, [some (.int _)], [.int _], _)) rfl (u_ rfl) ?_
    exact wrI (pc := 101) (len_s := 1) rfl hk t_s
  · replace t_s := t_s.2 c1_s
    refine wsc (X_s := 38) rfl (by decide) (fun c2_s => ?_) (fun c2_s => ?_)
    · replace t_s := t_s.1 c2_s
      refine w_t (pc := 94) (e_s := (0, 1, 0, 0, 0, .int 1, [])) (y_s := (95, [some (.int _)], [.int _], _)) rfl (u_ rfl) ?_
      exact wrI (pc := 95) (len_s := 1) rfl hk t_s
    · replace t_s := t_s.2 c2_s
      refine wsc (X_s := 42) rfl (by decide) (fun c3_s => ?_) (fun c3_s => ?_)
      · replace t_s := t_s.1 c3_s
        refine w_t (pc := 100) (e_s := (0, 1, 0, 0, 0, .int 4, [])) (y_s := (101, [some (.int _)], [.int _], _)) rfl (u_ rfl) ?_
        exact wrI (pc := 101) (len_s := 1) rfl hk t_s
      · replace t_s := t_s.2 c3_s
        refine wsc (X_s := 43) rfl (by decide) (fun c4_s => ?_) (fun c4_s => ?_)
        · replace t_s := t_s.1 c4_s
          refine w_t (pc := 98) (e_s := (0, 1, 0, 0, 0, .int 3, [])) (y_s := (99, [some (.int _)], [.int _], _)) rfl (u_ rfl) ?_
          exact wrI (pc := 99) (len_s := 1) rfl hk t_s
        · replace t_s := t_s.2 c4_s
          refine wsc (X_s := 45) rfl (by decide) (fun c5_s => ?_) (fun c5_s => ?_)
          · replace t_s := t_s.1 c5_s
            refine w_t (pc := 98) (e_s := (0, 1, 0, 0, 0, .int 3, [])) (y_s := (99, [some (.int _)], [.int _], _)) rfl (u_ rfl) ?_
            exact wrI (pc := 99) (len_s := 1) rfl hk t_s
          · replace t_s := t_s.2 c5_s
            refine wsc (X_s := 47) rfl (by decide) (fun c6_s => ?_) (fun c6_s => ?_)
            · replace t_s := t_s.1 c6_s
              refine w_t (pc := 100) (e_s := (0, 1, 0, 0, 0, .int 4, [])) (y_s := (101, [some (.int _)], [.int _], _)) rfl (u_ rfl) ?_
              exact wrI (pc := 101) (len_s := 1) rfl hk t_s
            · replace t_s := t_s.2 c6_s
              refine wsc (X_s := 60) rfl (by decide) (fun c7_s => ?_) (fun c7_s => ?_)
              · replace t_s := t_s.1 c7_s
                refine w_t (pc := 96) (e_s := (0, 1, 0, 0, 0, .int 2, [])) (y_s := (97, [some (.int _)], [.int _], _)) rfl (u_ rfl) ?_
                exact wrI (pc := 97) (len_s := 1) rfl hk t_s
              · replace t_s := t_s.2 c7_s
                refine wsc (X_s := 61) rfl (by decide) (fun c8_s => ?_) (fun c8_s => ?_)
                · replace t_s := t_s.1 c8_s
                  refine w_t (pc := 96) (e_s := (0, 1, 0, 0, 0, .int 2, [])) (y_s := (97, [some (.int _)], [.int _], _)) rfl (u_ rfl) ?_
                  exact wrI (pc := 97) (len_s := 1) rfl hk t_s
                · replace t_s := t_s.2 c8_s
                  refine wsc (X_s := 62) rfl (by decide) (fun c9_s => ?_) (fun c9_s => ?_)
                  · replace t_s := t_s.1 c9_s
                    refine w_t (pc := 96) (e_s := (0, 1, 0, 0, 0, .int 2, [])) (y_s := (97, [some (.int _)], [.int _], _)) rfl (u_ rfl) ?_
                    exact wrI (pc := 97) (len_s := 1) rfl hk t_s
                  · replace t_s := t_s.2 c9_s
                    refine wsc (X_s := 124) rfl (by decide) (fun c10_s => ?_) (fun c10_s => ?_)
                    · replace t_s := t_s.1 c10_s
                      refine w_t (pc := 92) (e_s := (0, 1, 0, 0, 0, .int 0, [])) (y_s := (93, [some (.int _)], [.int _], _)) rfl (u_ rfl) ?_
                      exact wrI (pc := 93) (len_s := 1) rfl hk t_s
                    · replace t_s := t_s.2 c10_s
                      show wF _ _ (102, _, _, _) _
                      refine w_t (pc := 102) (e_s := (0, 1, 0, 0, 0, .int (-1), [])) (y_s := (103, [some (.int _)], [.int _], _)) rfl (u_ rfl) ?_
                      exact wrI (pc := 103) (len_s := 1) rfl hk t_s
/-- ColdShod$LawText.readNumber(LColdShod$LawCode;)Z, from 0 on -/
theorem sg_67_0 {F_s : Nat} {q_s : Nat} {h_s : zH} {K_s : Int32 → zH → Prop} (hm_s : q_s = 14 ∨ q_s = 17) (hk : hKn h_s) (t_s : wF F_s 67 (4, [some (.ref 40), some (.ref q_s), some (.int 0), some (.int 0)], [], h_s) (gI K_s)) : wF (F_s + 1) 67 (0, [some (.ref 40), some (.ref q_s), none, none], [], h_s) (gI K_s) := by
  refine w_0 (pc := 0) (e_s := (0, 1, 0, 0, 0, .int 0, [])) (y_s := (1, [some (.ref _), some (.ref _), none, none], [.int _], _)) rfl (u_ rfl) ?_
  refine w_t (pc := 1) (e_s := (4, 1, 2, 0, 0, .null, [])) (y_s := (2, [some (.ref _), some (.ref _), some (.int _), none], [], _)) rfl (u_ rfl) ?_
  refine w_t (pc := 2) (e_s := (0, 1, 0, 0, 0, .int 0, [])) (y_s := (3, [some (.ref _), some (.ref _), some (.int _), none], [.int _], _)) rfl (u_ rfl) ?_
  refine w_t (pc := 3) (e_s := (4, 1, 3, 0, 0, .null, [])) (y_s := (4, [some (.ref _), some (.ref _), some (.int _), some (.int _)], [], _)) rfl (u_ rfl) ?_
  exact t_s
/-- ColdShod$LawText.readNumber(LColdShod$LawCode;)Z, from 4 on -/
theorem sg_67_4 {F_s : Nat} {q_s : Nat} {x2_s x3 : Int32} {h_s : zH} {K_s : Int32 → zH → Prop} (hm_s : q_s = 14 ∨ q_s = 17) (hk : hKn h_s) (t_s : (x3.toInt < 4 → wF F_s 68 (0, [some (.ref 40)], [], h_s) (gI (fun v2 h2 => hKn h2 → wF F_s 70 (0, [some (.int v2)], [], h2) (gI (fun v3 h3 => hKn h3 → (v3.toInt = 0 → wF F_s 54 (0, [some (.ref q_s), some (.int 48)], [], h3) (gV (fun h5 => hKn h5 → wF F_s 54 (0, [some (.ref q_s), some (.int x2_s)], [], h5) (gV (fun h6 => hKn h6 → K_s 1 h6))))) ∧ (¬ v3.toInt = 0 → wF F_s 68 (0, [some (.ref 40)], [], h3) (gI (fun v7 h7 => hKn h7 → wF F_s 67 (4, [some (.ref 40), some (.ref q_s), some (.int (((x2_s * 10) + v7) - 48)), some (.int (x3 + 1))], [], (h7.1, zup h7.2.1 40 2 ((h7.2.1 40 2) + 1), h7.2.2.1, h7.2.2.2)) (gI K_s))))))))) ∧ (¬ x3.toInt < 4 → wF F_s 54 (0, [some (.ref q_s), some (.int 48)], [], h_s) (gV (fun h8 => hKn h8 → wF F_s 54 (0, [some (.ref q_s), some (.int x2_s)], [], h8) (gV (fun h9 => hKn h9 → K_s 1 h9)))))) : wF (F_s + 1) 67 (4, [some (.ref 40), some (.ref q_s), some (.int x2_s), some (.int x3)], [], h_s) (gI K_s) := by
  refine w_0 (pc := 4) (e_s := (1, 1, 3, 0, 0, .null, [])) (y_s := (5, [some (.ref _), some (.ref _), some (.int _), some (.int _)], [.int _], _)) rfl (u_ rfl) ?_
  refine w_t (pc := 5) (e_s := (0, 1, 0, 0, 0, .int 4, [])) (y_s := (6, [some (.ref _), some (.ref _), some (.int _), some (.int _)], [.int _, .int _], _)) rfl (u_ rfl) ?_
  refine wi3 (pc := 6) (len_s := 3) (Y := 4) rfl rfl (by decide) (fun c1_s => ?_) (fun c1_s => ?_)
  · replace t_s := t_s.1 c1_s
    refine w_t (pc := 9) (e_s := (3, 1, 0, 0, 0, .null, [])) (y_s := (10, [some (.ref _), some (.ref _), some (.int _), some (.int _)], [.ref _], _)) rfl (u_ rfl) ?_
    refine wcI (pc := 10) (len_s := 3) rfl rfl (l := [some (.ref _)]) rfl (wmI t_s (fun v2 h2 hk t_s => ?_))
    replace t_s := t_s hk
    refine wcI (pc := 13) (len_s := 3) rfl rfl (l := [some (.int _)]) rfl (wmI t_s (fun v3 h3 hk t_s => ?_))
    replace t_s := t_s hk
    refine wq0 (pc := 16) (len_s := 3) rfl rfl (fun c4_s => ?_) (fun c4_s => ?_)
    · replace t_s := t_s.1 c4_s
      refine w_t (pc := 48) (e_s := (3, 1, 1, 0, 0, .null, [])) (y_s := (49, [some (.ref _), some (.ref _), some (.int _), some (.int _)], [.ref _], _)) rfl (u_ rfl) ?_
      refine w_t (pc := 49) (e_s := (0, 2, 0, 0, 0, .int 48, [])) (y_s := (51, [some (.ref _), some (.ref _), some (.int _), some (.int _)], [.int _, .ref _], _)) rfl (u_ rfl) ?_
      refine wcV (pc := 51) (len_s := 3) rfl rfl (l := [some (.ref _), some (.int _)]) rfl (wmV t_s (fun h5 hk t_s => ?_))
      replace t_s := t_s hk
      refine w_t (pc := 54) (e_s := (3, 1, 1, 0, 0, .null, [])) (y_s := (55, [some (.ref _), some (.ref _), some (.int _), some (.int _)], [.ref _], _)) rfl (u_ rfl) ?_
      refine w_t (pc := 55) (e_s := (1, 1, 2, 0, 0, .null, [])) (y_s := (56, [some (.ref _), some (.ref _), some (.int _), some (.int _)], [.int _, .ref _], _)) rfl (u_ rfl) ?_
      refine wcV (pc := 56) (len_s := 3) rfl rfl (l := [some (.ref _), some (.int _)]) rfl (wmV t_s (fun h6 hk t_s => ?_))
      replace t_s := t_s hk
      refine w_t (pc := 59) (e_s := (0, 1, 0, 0, 0, .int 1, [])) (y_s := (60, [some (.ref _), some (.ref _), some (.int _), some (.int _)], [.int _], _)) rfl (u_ rfl) ?_
      exact wrI (pc := 60) (len_s := 1) rfl hk t_s
    · replace t_s := t_s.2 c4_s
      refine w_t (pc := 19) (e_s := (1, 1, 2, 0, 0, .null, [])) (y_s := (20, [some (.ref _), some (.ref _), some (.int _), some (.int _)], [.int _], _)) rfl (u_ rfl) ?_
      refine w_t (pc := 20) (e_s := (0, 2, 0, 0, 0, .int 10, [])) (y_s := (22, [some (.ref _), some (.ref _), some (.int _), some (.int _)], [.int _, .int _], _)) rfl (u_ rfl) ?_
      refine w_t (pc := 22) (e_s := (7, 1, 0, 2, 0, .null, [])) (y_s := (23, [some (.ref _), some (.ref _), some (.int _), some (.int _)], [.int (_ * _)], _)) rfl (u_ rfl) ?_
      refine w_t (pc := 23) (e_s := (3, 1, 0, 0, 0, .null, [])) (y_s := (24, [some (.ref _), some (.ref _), some (.int _), some (.int _)], [.ref _, .int _], _)) rfl (u_ rfl) ?_
      refine wcI (pc := 24) (len_s := 3) rfl rfl (l := [some (.ref _)]) rfl (wmI t_s (fun v7 h7 hk t_s => ?_))
      replace t_s := t_s hk
      refine w_t (pc := 27) (e_s := (7, 1, 0, 0, 0, .null, [])) (y_s := (28, [some (.ref _), some (.ref _), some (.int _), some (.int _)], [.int (_ + _)], _)) rfl (u_ rfl) ?_
      refine w_t (pc := 28) (e_s := (0, 2, 0, 0, 0, .int 48, [])) (y_s := (30, [some (.ref _), some (.ref _), some (.int _), some (.int _)], [.int _, .int _], _)) rfl (u_ rfl) ?_
      refine w_t (pc := 30) (e_s := (7, 1, 0, 1, 0, .null, [])) (y_s := (31, [some (.ref _), some (.ref _), some (.int _), some (.int _)], [.int (_ - _)], _)) rfl (u_ rfl) ?_
      refine w_t (pc := 31) (e_s := (4, 1, 2, 0, 0, .null, [])) (y_s := (32, [some (.ref _), some (.ref _), some (.int _), some (.int _)], [], _)) rfl (u_ rfl) ?_
      refine w_t (pc := 32) (e_s := (3, 1, 0, 0, 0, .null, [])) (y_s := (33, [some (.ref _), some (.ref _), some (.int _), some (.int _)], [.ref _], _)) rfl (u_ rfl) ?_
      refine w_t (pc := 33) (e_s := (39, 1, 0, 0, 0, .null, [])) (y_s := (34, [some (.ref _), some (.ref _), some (.int _), some (.int _)], [.ref _, .ref _], _)) rfl (u_ rfl) ?_
      refine w20 (pc := 34) (len_s := 3) rfl ?_
      refine w_t (pc := 37) (e_s := (0, 1, 0, 0, 0, .int 1, [])) (y_s := (38, [some (.ref _), some (.ref _), some (.int _), some (.int _)], [.int _, .int _, .ref _], _)) rfl (u_ rfl) ?_
      refine w_t (pc := 38) (e_s := (7, 1, 0, 0, 0, .null, [])) (y_s := (39, [some (.ref _), some (.ref _), some (.int _), some (.int _)], [.int (_ + _), .ref _], _)) rfl (u_ rfl) ?_
      refine w21 (pc := 39) (len_s := 3) rfl ?_
      refine w_t (pc := 42) (e_s := (19, 3, 3, 0, 0, .int 1, [])) (y_s := (45, [some (.ref _), some (.ref _), some (.int _), some (.int _)], [], _)) rfl (u_ rfl) ?_
      refine w_t (pc := 45) (e_s := (17, 3, 4, 0, 0, .null, [])) (y_s := (4, [some (.ref _), some (.ref _), some (.int _), some (.int _)], [], _)) rfl (u_ rfl) ?_
      exact t_s
  · replace t_s := t_s.2 c1_s
    refine w_t (pc := 48) (e_s := (3, 1, 1, 0, 0, .null, [])) (y_s := (49, [some (.ref _), some (.ref _), some (.int _), some (.int _)], [.ref _], _)) rfl (u_ rfl) ?_
    refine w_t (pc := 49) (e_s := (0, 2, 0, 0, 0, .int 48, [])) (y_s := (51, [some (.ref _), some (.ref _), some (.int _), some (.int _)], [.int _, .ref _], _)) rfl (u_ rfl) ?_
    refine wcV (pc := 51) (len_s := 3) rfl rfl (l := [some (.ref _), some (.int _)]) rfl (wmV t_s (fun h8 hk t_s => ?_))
    replace t_s := t_s hk
    refine w_t (pc := 54) (e_s := (3, 1, 1, 0, 0, .null, [])) (y_s := (55, [some (.ref _), some (.ref _), some (.int _), some (.int _)], [.ref _], _)) rfl (u_ rfl) ?_
    refine w_t (pc := 55) (e_s := (1, 1, 2, 0, 0, .null, [])) (y_s := (56, [some (.ref _), some (.ref _), some (.int _), some (.int _)], [.int _, .ref _], _)) rfl (u_ rfl) ?_
    refine wcV (pc := 56) (len_s := 3) rfl rfl (l := [some (.ref _), some (.int _)]) rfl (wmV t_s (fun h9 hk t_s => ?_))
    replace t_s := t_s hk
    refine w_t (pc := 59) (e_s := (0, 1, 0, 0, 0, .int 1, [])) (y_s := (60, [some (.ref _), some (.ref _), some (.int _), some (.int _)], [.int _], _)) rfl (u_ rfl) ?_
    exact wrI (pc := 60) (len_s := 1) rfl hk t_s
/-- ColdShod$LawText.readOperand(LColdShod$LawCode;I)Z, from 0 on -/
theorem sg_66_0 {F_s : Nat} {q_s : Nat} {x2_s : Int32} {h_s : zH} {K_s : Int32 → zH → Prop} (hm_s : q_s = 14 ∨ q_s = 17) (hk : hKn h_s) (t_s : wF F_s 68 (0, [some (.ref 40)], [], h_s) (gI (fun v1_s h1 => hKn h1 → wF F_s 70 (0, [some (.int v1_s)], [], h1) (gI (fun v2 h2 => hKn h2 → (v2.toInt = 0 → wF F_s 71 (0, [some (.int v1_s)], [], h2) (gI (fun v4_s h4 => hKn h4 → (v4_s.toInt < 0 → ((v1_s.toInt = 40 → ((x2_s.toInt < 6 → wF F_s 65 (0, [some (.ref 40), some (.ref q_s), some (.int 0), some (.int (x2_s + 1)), none, none, none], [], (h4.1, zup h4.2.1 40 2 ((h4.2.1 40 2) + 1), h4.2.2.1, h4.2.2.2)) (gI (fun v9 h9 => hKn h9 → (v9.toInt = 0 → K_s 0 h9) ∧ (¬ v9.toInt = 0 → wF F_s 69 (0, [some (.ref 40), some (.int 41)], [], h9) (gI (fun v11 h11 => hKn h11 → (v11.toInt = 0 → K_s 0 h11) ∧ (¬ v11.toInt = 0 → K_s 1 h11))))))) ∧ (¬ x2_s.toInt < 6 → K_s 0 h4))) ∧ (¬ v1_s.toInt = 40 → ((v1_s.toInt = 33 → ((x2_s.toInt < 6 → wF F_s 66 (0, [some (.ref 40), some (.ref q_s), some (.int (x2_s + 1)), none, none], [], (h4.1, zup h4.2.1 40 2 ((h4.2.1 40 2) + 1), h4.2.2.1, h4.2.2.2)) (gI (fun v16 h16_s => hKn h16_s → (v16.toInt = 0 → K_s 0 h16_s) ∧ (¬ v16.toInt = 0 → wF F_s 54 (0, [some (.ref q_s), some (.int 33)], [], h16_s) (gV (fun h19 => hKn h19 → K_s 1 h19)))))) ∧ (¬ x2_s.toInt < 6 → K_s 0 h4))) ∧ (¬ v1_s.toInt = 33 → ((v1_s.toInt = 45 → ((x2_s.toInt < 6 → wF F_s 66 (0, [some (.ref 40), some (.ref q_s), some (.int (x2_s + 1)), none, none], [], (h4.1, zup h4.2.1 40 2 ((h4.2.1 40 2) + 1), h4.2.2.1, h4.2.2.2)) (gI (fun v23 h23 => hKn h23 → (v23.toInt = 0 → K_s 0 h23) ∧ (¬ v23.toInt = 0 → wF F_s 54 (0, [some (.ref q_s), some (.int 126)], [], h23) (gV (fun h26 => hKn h26 → K_s 1 h26)))))) ∧ (¬ x2_s.toInt < 6 → K_s 0 h4))) ∧ (¬ v1_s.toInt = 45 → K_s 0 h4))))))) ∧ (¬ v4_s.toInt < 0 → wF F_s 55 (0, [some (.ref q_s), some (.int v4_s)], [], h4) (gV (fun h27 => hKn h27 → K_s 1 (h27.1, zup h27.2.1 40 2 ((h27.2.1 40 2) + 1), h27.2.2.1, h27.2.2.2))))))) ∧ (¬ v2.toInt = 0 → wF F_s 67 (0, [some (.ref 40), some (.ref q_s), none, none], [], h2) (gI (fun v28 h28 => hKn h28 → K_s v28 h28)))))))) : wF (F_s + 1) 66 (0, [some (.ref 40), some (.ref q_s), some (.int x2_s), none, none], [], h_s) (gI K_s) := by
  refine w_0 (pc := 0) (e_s := (3, 1, 0, 0, 0, .null, [])) (y_s := (1, [some (.ref _), some (.ref _), some (.int _), none, none], [.ref _], _)) rfl (u_ rfl) ?_
  refine wcI (pc := 1) (len_s := 3) rfl rfl (l := [some (.ref _)]) rfl (wmI t_s (fun v1_s h1 hk t_s => ?_))
  replace t_s := t_s hk
  refine w_t (pc := 4) (e_s := (4, 1, 3, 0, 0, .null, [])) (y_s := (5, [some (.ref _), some (.ref _), some (.int _), some (.int _), none], [], _)) rfl (u_ rfl) ?_
  refine w_t (pc := 5) (e_s := (1, 1, 3, 0, 0, .null, [])) (y_s := (6, [some (.ref _), some (.ref _), some (.int _), some (.int _), none], [.int _], _)) rfl (u_ rfl) ?_
  refine wcI (pc := 6) (len_s := 3) rfl rfl (l := [some (.int _)]) rfl (wmI t_s (fun v2 h2 hk t_s => ?_))
  replace t_s := t_s hk
  refine wq0 (pc := 9) (len_s := 3) rfl rfl (fun c3_s => ?_) (fun c3_s => ?_)
  · replace t_s := t_s.1 c3_s
    refine w_t (pc := 18) (e_s := (1, 1, 3, 0, 0, .null, [])) (y_s := (19, [some (.ref _), some (.ref _), some (.int _), some (.int _), none], [.int _], _)) rfl (u_ rfl) ?_
    refine wcI (pc := 19) (len_s := 3) rfl rfl (l := [some (.int _)]) rfl (wmI t_s (fun v4_s h4 hk t_s => ?_))
    replace t_s := t_s hk
    refine w_t (pc := 22) (e_s := (4, 2, 4, 0, 0, .null, [])) (y_s := (24, [some (.ref _), some (.ref _), some (.int _), some (.int _), some (.int _)], [], _)) rfl (u_ rfl) ?_
    refine w_t (pc := 24) (e_s := (1, 2, 4, 0, 0, .null, [])) (y_s := (26, [some (.ref _), some (.ref _), some (.int _), some (.int _), some (.int _)], [.int _], _)) rfl (u_ rfl) ?_
    refine wq2 (pc := 26) (len_s := 3) rfl rfl (fun c5_s => ?_) (fun c5_s => ?_)
    · replace t_s := t_s.1 c5_s
      refine w_t (pc := 47) (e_s := (1, 1, 3, 0, 0, .null, [])) (y_s := (48, [some (.ref _), some (.ref _), some (.int _), some (.int _), some (.int _)], [.int _], _)) rfl (u_ rfl) ?_
      refine w_t (pc := 48) (e_s := (0, 2, 0, 0, 0, .int 40, [])) (y_s := (50, [some (.ref _), some (.ref _), some (.int _), some (.int _), some (.int _)], [.int _, .int _], _)) rfl (u_ rfl) ?_
      refine wi0 (pc := 50) (len_s := 3) (Y := 40) rfl rfl (by decide) (fun c6_s => ?_) (fun c6_s => ?_)
      · replace t_s := t_s.1 c6_s
        refine w_t (pc := 65) (e_s := (1, 1, 2, 0, 0, .null, [])) (y_s := (66, [some (.ref _), some (.ref _), some (.int _), some (.int _), some (.int _)], [.int _], _)) rfl (u_ rfl) ?_
        refine w_t (pc := 66) (e_s := (0, 2, 0, 0, 0, .int 6, [])) (y_s := (68, [some (.ref _), some (.ref _), some (.int _), some (.int _), some (.int _)], [.int _, .int _], _)) rfl (u_ rfl) ?_
        refine wi2 (pc := 68) (len_s := 3) (Y := 6) rfl rfl (by decide) (fun c7_s => ?_) (fun c7_s => ?_)
        · replace t_s := t_s.1 c7_s
          refine w_t (pc := 73) (e_s := (3, 1, 0, 0, 0, .null, [])) (y_s := (74, [some (.ref _), some (.ref _), some (.int _), some (.int _), some (.int _)], [.ref _], _)) rfl (u_ rfl) ?_
          refine w_t (pc := 74) (e_s := (39, 1, 0, 0, 0, .null, [])) (y_s := (75, [some (.ref _), some (.ref _), some (.int _), some (.int _), some (.int _)], [.ref _, .ref _], _)) rfl (u_ rfl) ?_
          refine w20 (pc := 75) (len_s := 3) rfl ?_
          refine w_t (pc := 78) (e_s := (0, 1, 0, 0, 0, .int 1, [])) (y_s := (79, [some (.ref _), some (.ref _), some (.int _), some (.int _), some (.int _)], [.int _, .int _, .ref _], _)) rfl (u_ rfl) ?_
          refine w_t (pc := 79) (e_s := (7, 1, 0, 0, 0, .null, [])) (y_s := (80, [some (.ref _), some (.ref _), some (.int _), some (.int _), some (.int _)], [.int (_ + _), .ref _], _)) rfl (u_ rfl) ?_
          refine w21 (pc := 80) (len_s := 3) rfl ?_
          refine w_t (pc := 83) (e_s := (1, 1, 3, 0, 0, .null, [])) (y_s := (84, [some (.ref _), some (.ref _), some (.int _), some (.int _), some (.int _)], [.int _], _)) rfl (u_ rfl) ?_
          refine w_t (pc := 84) (e_s := (0, 2, 0, 0, 0, .int 40, [])) (y_s := (86, [some (.ref _), some (.ref _), some (.int _), some (.int _), some (.int _)], [.int _, .int _], _)) rfl (u_ rfl) ?_
          refine wi1 (pc := 86) (len_s := 3) (Y := 40) rfl rfl (by decide) (fun c8_s => ?_) (fun c8_s => ?_)
          · skip
            refine w_t (pc := 89) (e_s := (3, 1, 0, 0, 0, .null, [])) (y_s := (90, [some (.ref _), some (.ref _), some (.int _), some (.int _), some (.int _)], [.ref _], _)) rfl (u_ rfl) ?_
            refine w_t (pc := 90) (e_s := (3, 1, 1, 0, 0, .null, [])) (y_s := (91, [some (.ref _), some (.ref _), some (.int _), some (.int _), some (.int _)], [.ref _, .ref _], _)) rfl (u_ rfl) ?_
            refine w_t (pc := 91) (e_s := (0, 1, 0, 0, 0, .int 0, [])) (y_s := (92, [some (.ref _), some (.ref _), some (.int _), some (.int _), some (.int _)], [.int _, .ref _, .ref _], _)) rfl (u_ rfl) ?_
            refine w_t (pc := 92) (e_s := (1, 1, 2, 0, 0, .null, [])) (y_s := (93, [some (.ref _), some (.ref _), some (.int _), some (.int _), some (.int _)], [.int _, .int _, .ref _, .ref _], _)) rfl (u_ rfl) ?_
            refine w_t (pc := 93) (e_s := (0, 1, 0, 0, 0, .int 1, [])) (y_s := (94, [some (.ref _), some (.ref _), some (.int _), some (.int _), some (.int _)], [.int _, .int _, .int _, .ref _, .ref _], _)) rfl (u_ rfl) ?_
            refine w_t (pc := 94) (e_s := (7, 1, 0, 0, 0, .null, [])) (y_s := (95, [some (.ref _), some (.ref _), some (.int _), some (.int _), some (.int _)], [.int (_ + _), .int _, .ref _, .ref _], _)) rfl (u_ rfl) ?_
            refine wcI (pc := 95) (len_s := 3) rfl rfl (l := [some (.ref _), some (.ref _), some (.int _), some (.int _), none, none, none]) rfl (wmI t_s (fun v9 h9 hk t_s => ?_))
            replace t_s := t_s hk
            refine wq0 (pc := 98) (len_s := 3) rfl rfl (fun c10_s => ?_) (fun c10_s => ?_)
            · replace t_s := t_s.1 c10_s
              refine w_t (pc := 114) (e_s := (0, 1, 0, 0, 0, .int 0, [])) (y_s := (115, [some (.ref _), some (.ref _), some (.int _), some (.int _), some (.int _)], [.int _], _)) rfl (u_ rfl) ?_
              exact wrI (pc := 115) (len_s := 1) rfl hk t_s
            · replace t_s := t_s.2 c10_s
              refine w_t (pc := 101) (e_s := (3, 1, 0, 0, 0, .null, [])) (y_s := (102, [some (.ref _), some (.ref _), some (.int _), some (.int _), some (.int _)], [.ref _], _)) rfl (u_ rfl) ?_
              refine w_t (pc := 102) (e_s := (0, 2, 0, 0, 0, .int 41, [])) (y_s := (104, [some (.ref _), some (.ref _), some (.int _), some (.int _), some (.int _)], [.int _, .ref _], _)) rfl (u_ rfl) ?_
              refine wcI (pc := 104) (len_s := 3) rfl rfl (l := [some (.ref _), some (.int _)]) rfl (wmI t_s (fun v11 h11 hk t_s => ?_))
              replace t_s := t_s hk
              refine wq0 (pc := 107) (len_s := 3) rfl rfl (fun c12_s => ?_) (fun c12_s => ?_)
              · replace t_s := t_s.1 c12_s
                refine w_t (pc := 114) (e_s := (0, 1, 0, 0, 0, .int 0, [])) (y_s := (115, [some (.ref _), some (.ref _), some (.int _), some (.int _), some (.int _)], [.int _], _)) rfl (u_ rfl) ?_
                exact wrI (pc := 115) (len_s := 1) rfl hk t_s
              · replace t_s := t_s.2 c12_s
                refine w_t (pc := 110) (e_s := (0, 1, 0, 0, 0, .int 1, [])) (y_s := (111, [some (.ref _), some (.ref _), some (.int _), some (.int _), some (.int _)], [.int _], _)) rfl (u_ rfl) ?_
                refine w_t (pc := 111) (e_s := (17, 3, 115, 0, 0, .null, [])) (y_s := (115, [some (.ref _), some (.ref _), some (.int _), some (.int _), some (.int _)], [.int _], _)) rfl (u_ rfl) ?_
                exact wrI (pc := 115) (len_s := 1) rfl hk t_s
          · exact absurd c6_s c8_s
        · replace t_s := t_s.2 c7_s
          refine w_t (pc := 71) (e_s := (0, 1, 0, 0, 0, .int 0, [])) (y_s := (72, [some (.ref _), some (.ref _), some (.int _), some (.int _), some (.int _)], [.int _], _)) rfl (u_ rfl) ?_
          exact wrI (pc := 72) (len_s := 1) rfl hk t_s
      · replace t_s := t_s.2 c6_s
        refine w_t (pc := 53) (e_s := (1, 1, 3, 0, 0, .null, [])) (y_s := (54, [some (.ref _), some (.ref _), some (.int _), some (.int _), some (.int _)], [.int _], _)) rfl (u_ rfl) ?_
        refine w_t (pc := 54) (e_s := (0, 2, 0, 0, 0, .int 33, [])) (y_s := (56, [some (.ref _), some (.ref _), some (.int _), some (.int _), some (.int _)], [.int _, .int _], _)) rfl (u_ rfl) ?_
        refine wi0 (pc := 56) (len_s := 3) (Y := 33) rfl rfl (by decide) (fun c13_s => ?_) (fun c13_s => ?_)
        · replace t_s := t_s.1 c13_s
          refine w_t (pc := 65) (e_s := (1, 1, 2, 0, 0, .null, [])) (y_s := (66, [some (.ref _), some (.ref _), some (.int _), some (.int _), some (.int _)], [.int _], _)) rfl (u_ rfl) ?_
          refine w_t (pc := 66) (e_s := (0, 2, 0, 0, 0, .int 6, [])) (y_s := (68, [some (.ref _), some (.ref _), some (.int _), some (.int _), some (.int _)], [.int _, .int _], _)) rfl (u_ rfl) ?_
          refine wi2 (pc := 68) (len_s := 3) (Y := 6) rfl rfl (by decide) (fun c14_s => ?_) (fun c14_s => ?_)
          · replace t_s := t_s.1 c14_s
            refine w_t (pc := 73) (e_s := (3, 1, 0, 0, 0, .null, [])) (y_s := (74, [some (.ref _), some (.ref _), some (.int _), some (.int _), some (.int _)], [.ref _], _)) rfl (u_ rfl) ?_
            refine w_t (pc := 74) (e_s := (39, 1, 0, 0, 0, .null, [])) (y_s := (75, [some (.ref _), some (.ref _), some (.int _), some (.int _), some (.int _)], [.ref _, .ref _], _)) rfl (u_ rfl) ?_
            refine w20 (pc := 75) (len_s := 3) rfl ?_
            refine w_t (pc := 78) (e_s := (0, 1, 0, 0, 0, .int 1, [])) (y_s := (79, [some (.ref _), some (.ref _), some (.int _), some (.int _), some (.int _)], [.int _, .int _, .ref _], _)) rfl (u_ rfl) ?_
            refine w_t (pc := 79) (e_s := (7, 1, 0, 0, 0, .null, [])) (y_s := (80, [some (.ref _), some (.ref _), some (.int _), some (.int _), some (.int _)], [.int (_ + _), .ref _], _)) rfl (u_ rfl) ?_
            refine w21 (pc := 80) (len_s := 3) rfl ?_
            refine w_t (pc := 83) (e_s := (1, 1, 3, 0, 0, .null, [])) (y_s := (84, [some (.ref _), some (.ref _), some (.int _), some (.int _), some (.int _)], [.int _], _)) rfl (u_ rfl) ?_
            refine w_t (pc := 84) (e_s := (0, 2, 0, 0, 0, .int 40, [])) (y_s := (86, [some (.ref _), some (.ref _), some (.int _), some (.int _), some (.int _)], [.int _, .int _], _)) rfl (u_ rfl) ?_
            refine wi1 (pc := 86) (len_s := 3) (Y := 40) rfl rfl (by decide) (fun c15_s => ?_) (fun c15_s => ?_)
            · exact absurd c15_s c6_s
            · skip
              refine w_t (pc := 116) (e_s := (3, 1, 0, 0, 0, .null, [])) (y_s := (117, [some (.ref _), some (.ref _), some (.int _), some (.int _), some (.int _)], [.ref _], _)) rfl (u_ rfl) ?_
              refine w_t (pc := 117) (e_s := (3, 1, 1, 0, 0, .null, [])) (y_s := (118, [some (.ref _), some (.ref _), some (.int _), some (.int _), some (.int _)], [.ref _, .ref _], _)) rfl (u_ rfl) ?_
              refine w_t (pc := 118) (e_s := (1, 1, 2, 0, 0, .null, [])) (y_s := (119, [some (.ref _), some (.ref _), some (.int _), some (.int _), some (.int _)], [.int _, .ref _, .ref _], _)) rfl (u_ rfl) ?_
              refine w_t (pc := 119) (e_s := (0, 1, 0, 0, 0, .int 1, [])) (y_s := (120, [some (.ref _), some (.ref _), some (.int _), some (.int _), some (.int _)], [.int _, .int _, .ref _, .ref _], _)) rfl (u_ rfl) ?_
              refine w_t (pc := 120) (e_s := (7, 1, 0, 0, 0, .null, [])) (y_s := (121, [some (.ref _), some (.ref _), some (.int _), some (.int _), some (.int _)], [.int (_ + _), .ref _, .ref _], _)) rfl (u_ rfl) ?_
              refine wcI (pc := 121) (len_s := 3) rfl rfl (l := [some (.ref _), some (.ref _), some (.int _), none, none]) rfl (wmI t_s (fun v16 h16_s hk t_s => ?_))
              replace t_s := t_s hk
              refine wq1 (pc := 124) (len_s := 3) rfl rfl (fun c17 => ?_) (fun c17 => ?_)
              · replace t_s := t_s.1 c17
                refine w_t (pc := 127) (e_s := (0, 1, 0, 0, 0, .int 0, [])) (y_s := (128, [some (.ref _), some (.ref _), some (.int _), some (.int _), some (.int _)], [.int _], _)) rfl (u_ rfl) ?_
                exact wrI (pc := 128) (len_s := 1) rfl hk t_s
              · replace t_s := t_s.2 c17
                refine w_t (pc := 129) (e_s := (3, 1, 1, 0, 0, .null, [])) (y_s := (130, [some (.ref _), some (.ref _), some (.int _), some (.int _), some (.int _)], [.ref _], _)) rfl (u_ rfl) ?_
                refine w_t (pc := 130) (e_s := (1, 1, 3, 0, 0, .null, [])) (y_s := (131, [some (.ref _), some (.ref _), some (.int _), some (.int _), some (.int _)], [.int _, .ref _], _)) rfl (u_ rfl) ?_
                refine w_t (pc := 131) (e_s := (0, 2, 0, 0, 0, .int 33, [])) (y_s := (133, [some (.ref _), some (.ref _), some (.int _), some (.int _), some (.int _)], [.int _, .int _, .ref _], _)) rfl (u_ rfl) ?_
                refine wi1 (pc := 133) (len_s := 3) (Y := 33) rfl rfl (by decide) (fun c18_s => ?_) (fun c18_s => ?_)
                · skip
                  refine w_t (pc := 136) (e_s := (0, 2, 0, 0, 0, .int 33, [])) (y_s := (138, [some (.ref _), some (.ref _), some (.int _), some (.int _), some (.int _)], [.int _, .ref _], _)) rfl (u_ rfl) ?_
                  refine w_t (pc := 138) (e_s := (17, 3, 143, 0, 0, .null, [])) (y_s := (143, [some (.ref _), some (.ref _), some (.int _), some (.int _), some (.int _)], [.int _, .ref _], _)) rfl (u_ rfl) ?_
                  refine wcV (pc := 143) (len_s := 3) rfl rfl (l := [some (.ref _), some (.int _)]) rfl (wmV t_s (fun h19 hk t_s => ?_))
                  replace t_s := t_s hk
                  refine w_t (pc := 146) (e_s := (0, 1, 0, 0, 0, .int 1, [])) (y_s := (147, [some (.ref _), some (.ref _), some (.int _), some (.int _), some (.int _)], [.int _], _)) rfl (u_ rfl) ?_
                  exact wrI (pc := 147) (len_s := 1) rfl hk t_s
                · exact absurd c13_s c18_s
          · replace t_s := t_s.2 c14_s
            refine w_t (pc := 71) (e_s := (0, 1, 0, 0, 0, .int 0, [])) (y_s := (72, [some (.ref _), some (.ref _), some (.int _), some (.int _), some (.int _)], [.int _], _)) rfl (u_ rfl) ?_
            exact wrI (pc := 72) (len_s := 1) rfl hk t_s
        · replace t_s := t_s.2 c13_s
          refine w_t (pc := 59) (e_s := (1, 1, 3, 0, 0, .null, [])) (y_s := (60, [some (.ref _), some (.ref _), some (.int _), some (.int _), some (.int _)], [.int _], _)) rfl (u_ rfl) ?_
          refine w_t (pc := 60) (e_s := (0, 2, 0, 0, 0, .int 45, [])) (y_s := (62, [some (.ref _), some (.ref _), some (.int _), some (.int _), some (.int _)], [.int _, .int _], _)) rfl (u_ rfl) ?_
          refine wi1 (pc := 62) (len_s := 3) (Y := 45) rfl rfl (by decide) (fun c20_s => ?_) (fun c20_s => ?_)
          · replace t_s := t_s.1 c20_s
            refine w_t (pc := 65) (e_s := (1, 1, 2, 0, 0, .null, [])) (y_s := (66, [some (.ref _), some (.ref _), some (.int _), some (.int _), some (.int _)], [.int _], _)) rfl (u_ rfl) ?_
            refine w_t (pc := 66) (e_s := (0, 2, 0, 0, 0, .int 6, [])) (y_s := (68, [some (.ref _), some (.ref _), some (.int _), some (.int _), some (.int _)], [.int _, .int _], _)) rfl (u_ rfl) ?_
            refine wi2 (pc := 68) (len_s := 3) (Y := 6) rfl rfl (by decide) (fun c21 => ?_) (fun c21 => ?_)
            · replace t_s := t_s.1 c21
              refine w_t (pc := 73) (e_s := (3, 1, 0, 0, 0, .null, [])) (y_s := (74, [some (.ref _), some (.ref _), some (.int _), some (.int _), some (.int _)], [.ref _], _)) rfl (u_ rfl) ?_
              refine w_t (pc := 74) (e_s := (39, 1, 0, 0, 0, .null, [])) (y_s := (75, [some (.ref _), some (.ref _), some (.int _), some (.int _), some (.int _)], [.ref _, .ref _], _)) rfl (u_ rfl) ?_
              refine w20 (pc := 75) (len_s := 3) rfl ?_
              refine w_t (pc := 78) (e_s := (0, 1, 0, 0, 0, .int 1, [])) (y_s := (79, [some (.ref _), some (.ref _), some (.int _), some (.int _), some (.int _)], [.int _, .int _, .ref _], _)) rfl (u_ rfl) ?_
              refine w_t (pc := 79) (e_s := (7, 1, 0, 0, 0, .null, [])) (y_s := (80, [some (.ref _), some (.ref _), some (.int _), some (.int _), some (.int _)], [.int (_ + _), .ref _], _)) rfl (u_ rfl) ?_
              refine w21 (pc := 80) (len_s := 3) rfl ?_
              refine w_t (pc := 83) (e_s := (1, 1, 3, 0, 0, .null, [])) (y_s := (84, [some (.ref _), some (.ref _), some (.int _), some (.int _), some (.int _)], [.int _], _)) rfl (u_ rfl) ?_
              refine w_t (pc := 84) (e_s := (0, 2, 0, 0, 0, .int 40, [])) (y_s := (86, [some (.ref _), some (.ref _), some (.int _), some (.int _), some (.int _)], [.int _, .int _], _)) rfl (u_ rfl) ?_
              refine wi1 (pc := 86) (len_s := 3) (Y := 40) rfl rfl (by decide) (fun c22 => ?_) (fun c22 => ?_)
              · exact absurd c22 c6_s
              · skip
                refine w_t (pc := 116) (e_s := (3, 1, 0, 0, 0, .null, [])) (y_s := (117, [some (.ref _), some (.ref _), some (.int _), some (.int _), some (.int _)], [.ref _], _)) rfl (u_ rfl) ?_
                refine w_t (pc := 117) (e_s := (3, 1, 1, 0, 0, .null, [])) (y_s := (118, [some (.ref _), some (.ref _), some (.int _), some (.int _), some (.int _)], [.ref _, .ref _], _)) rfl (u_ rfl) ?_
                refine w_t (pc := 118) (e_s := (1, 1, 2, 0, 0, .null, [])) (y_s := (119, [some (.ref _), some (.ref _), some (.int _), some (.int _), some (.int _)], [.int _, .ref _, .ref _], _)) rfl (u_ rfl) ?_
                refine w_t (pc := 119) (e_s := (0, 1, 0, 0, 0, .int 1, [])) (y_s := (120, [some (.ref _), some (.ref _), some (.int _), some (.int _), some (.int _)], [.int _, .int _, .ref _, .ref _], _)) rfl (u_ rfl) ?_
                refine w_t (pc := 120) (e_s := (7, 1, 0, 0, 0, .null, [])) (y_s := (121, [some (.ref _), some (.ref _), some (.int _), some (.int _), some (.int _)], [.int (_ + _), .ref _, .ref _], _)) rfl (u_ rfl) ?_
                refine wcI (pc := 121) (len_s := 3) rfl rfl (l := [some (.ref _), some (.ref _), some (.int _), none, none]) rfl (wmI t_s (fun v23 h23 hk t_s => ?_))
                replace t_s := t_s hk
                refine wq1 (pc := 124) (len_s := 3) rfl rfl (fun c24_s => ?_) (fun c24_s => ?_)
                · replace t_s := t_s.1 c24_s
                  refine w_t (pc := 127) (e_s := (0, 1, 0, 0, 0, .int 0, [])) (y_s := (128, [some (.ref _), some (.ref _), some (.int _), some (.int _), some (.int _)], [.int _], _)) rfl (u_ rfl) ?_
                  exact wrI (pc := 128) (len_s := 1) rfl hk t_s
                · replace t_s := t_s.2 c24_s
                  refine w_t (pc := 129) (e_s := (3, 1, 1, 0, 0, .null, [])) (y_s := (130, [some (.ref _), some (.ref _), some (.int _), some (.int _), some (.int _)], [.ref _], _)) rfl (u_ rfl) ?_
                  refine w_t (pc := 130) (e_s := (1, 1, 3, 0, 0, .null, [])) (y_s := (131, [some (.ref _), some (.ref _), some (.int _), some (.int _), some (.int _)], [.int _, .ref _], _)) rfl (u_ rfl) ?_
                  refine w_t (pc := 131) (e_s := (0, 2, 0, 0, 0, .int 33, [])) (y_s := (133, [some (.ref _), some (.ref _), some (.int _), some (.int _), some (.int _)], [.int _, .int _, .ref _], _)) rfl (u_ rfl) ?_
                  refine wi1 (pc := 133) (len_s := 3) (Y := 33) rfl rfl (by decide) (fun c25_s => ?_) (fun c25_s => ?_)
                  · exact absurd c25_s c13_s
                  · skip
                    refine w_t (pc := 141) (e_s := (0, 2, 0, 0, 0, .int 126, [])) (y_s := (143, [some (.ref _), some (.ref _), some (.int _), some (.int _), some (.int _)], [.int _, .ref _], _)) rfl (u_ rfl) ?_
                    refine wcV (pc := 143) (len_s := 3) rfl rfl (l := [some (.ref _), some (.int _)]) rfl (wmV t_s (fun h26 hk t_s => ?_))
                    replace t_s := t_s hk
                    refine w_t (pc := 146) (e_s := (0, 1, 0, 0, 0, .int 1, [])) (y_s := (147, [some (.ref _), some (.ref _), some (.int _), some (.int _), some (.int _)], [.int _], _)) rfl (u_ rfl) ?_
                    exact wrI (pc := 147) (len_s := 1) rfl hk t_s
            · replace t_s := t_s.2 c21
              refine w_t (pc := 71) (e_s := (0, 1, 0, 0, 0, .int 0, [])) (y_s := (72, [some (.ref _), some (.ref _), some (.int _), some (.int _), some (.int _)], [.int _], _)) rfl (u_ rfl) ?_
              exact wrI (pc := 72) (len_s := 1) rfl hk t_s
          · replace t_s := t_s.2 c20_s
            refine w_t (pc := 71) (e_s := (0, 1, 0, 0, 0, .int 0, [])) (y_s := (72, [some (.ref _), some (.ref _), some (.int _), some (.int _), some (.int _)], [.int _], _)) rfl (u_ rfl) ?_
            exact wrI (pc := 72) (len_s := 1) rfl hk t_s
    · replace t_s := t_s.2 c5_s
      refine w_t (pc := 29) (e_s := (3, 1, 1, 0, 0, .null, [])) (y_s := (30, [some (.ref _), some (.ref _), some (.int _), some (.int _), some (.int _)], [.ref _], _)) rfl (u_ rfl) ?_
      refine w_t (pc := 30) (e_s := (1, 2, 4, 0, 0, .null, [])) (y_s := (32, [some (.ref _), some (.ref _), some (.int _), some (.int _), some (.int _)], [.int _, .ref _], _)) rfl (u_ rfl) ?_
      refine wcV (pc := 32) (len_s := 3) rfl rfl (l := [some (.ref _), some (.int _)]) rfl (wmV t_s (fun h27 hk t_s => ?_))
      replace t_s := t_s hk
      refine w_t (pc := 35) (e_s := (3, 1, 0, 0, 0, .null, [])) (y_s := (36, [some (.ref _), some (.ref _), some (.int _), some (.int _), some (.int _)], [.ref _], _)) rfl (u_ rfl) ?_
      refine w_t (pc := 36) (e_s := (39, 1, 0, 0, 0, .null, [])) (y_s := (37, [some (.ref _), some (.ref _), some (.int _), some (.int _), some (.int _)], [.ref _, .ref _], _)) rfl (u_ rfl) ?_
      refine w20 (pc := 37) (len_s := 3) rfl ?_
      refine w_t (pc := 40) (e_s := (0, 1, 0, 0, 0, .int 1, [])) (y_s := (41, [some (.ref _), some (.ref _), some (.int _), some (.int _), some (.int _)], [.int _, .int _, .ref _], _)) rfl (u_ rfl) ?_
      refine w_t (pc := 41) (e_s := (7, 1, 0, 0, 0, .null, [])) (y_s := (42, [some (.ref _), some (.ref _), some (.int _), some (.int _), some (.int _)], [.int (_ + _), .ref _], _)) rfl (u_ rfl) ?_
      refine w21 (pc := 42) (len_s := 3) rfl ?_
      refine w_t (pc := 45) (e_s := (0, 1, 0, 0, 0, .int 1, [])) (y_s := (46, [some (.ref _), some (.ref _), some (.int _), some (.int _), some (.int _)], [.int _], _)) rfl (u_ rfl) ?_
      exact wrI (pc := 46) (len_s := 1) rfl hk t_s
  · replace t_s := t_s.2 c3_s
    refine w_t (pc := 12) (e_s := (3, 1, 0, 0, 0, .null, [])) (y_s := (13, [some (.ref _), some (.ref _), some (.int _), some (.int _), none], [.ref _], _)) rfl (u_ rfl) ?_
    refine w_t (pc := 13) (e_s := (3, 1, 1, 0, 0, .null, [])) (y_s := (14, [some (.ref _), some (.ref _), some (.int _), some (.int _), none], [.ref _, .ref _], _)) rfl (u_ rfl) ?_
    refine wcI (pc := 14) (len_s := 3) rfl rfl (l := [some (.ref _), some (.ref _), none, none]) rfl (wmI t_s (fun v28 h28 hk t_s => ?_))
    replace t_s := t_s hk
    exact wrI (pc := 17) (len_s := 1) rfl hk t_s
/-- ColdShod$LawText.readLevel(LColdShod$LawCode;II)Z, from 0 on -/
theorem sg_65_0 {F_s : Nat} {q_s : Nat} {x2_s x3 : Int32} {h_s : zH} {K_s : Int32 → zH → Prop} (hm_s : q_s = 14 ∨ q_s = 17) (hk : hKn h_s) (t_s : (x2_s.toInt < 5 → wF F_s 65 (0, [some (.ref 40), some (.ref q_s), some (.int (x2_s + 1)), some (.int x3), none, none, none], [], h_s) (gI (fun v2 h2 => hKn h2 → (v2.toInt = 0 → K_s 0 h2) ∧ (¬ v2.toInt = 0 → ((x2_s.toInt = 2 → wF F_s 65 (42, [some (.ref 40), some (.ref q_s), some (.int x2_s), some (.int x3), some (.int 1), some (.int 0), none], [], h2) (gI K_s)) ∧ (¬ x2_s.toInt = 2 → wF F_s 65 (42, [some (.ref 40), some (.ref q_s), some (.int x2_s), some (.int x3), some (.int 120), some (.int 0), none], [], h2) (gI K_s))))))) ∧ (¬ x2_s.toInt < 5 → wF F_s 66 (0, [some (.ref 40), some (.ref q_s), some (.int x3), none, none], [], h_s) (gI (fun v5 h5 => hKn h5 → K_s v5 h5)))) : wF (F_s + 1) 65 (0, [some (.ref 40), some (.ref q_s), some (.int x2_s), some (.int x3), none, none, none], [], h_s) (gI K_s) := by
  refine w_0 (pc := 0) (e_s := (1, 1, 2, 0, 0, .null, [])) (y_s := (1, [some (.ref _), some (.ref _), some (.int _), some (.int _), none, none, none], [.int _], _)) rfl (u_ rfl) ?_
  refine w_t (pc := 1) (e_s := (0, 1, 0, 0, 0, .int 5, [])) (y_s := (2, [some (.ref _), some (.ref _), some (.int _), some (.int _), none, none, none], [.int _, .int _], _)) rfl (u_ rfl) ?_
  refine wi2 (pc := 2) (len_s := 3) (Y := 5) rfl rfl (by decide) (fun c1_s => ?_) (fun c1_s => ?_)
  · replace t_s := t_s.1 c1_s
    refine w_t (pc := 12) (e_s := (3, 1, 0, 0, 0, .null, [])) (y_s := (13, [some (.ref _), some (.ref _), some (.int _), some (.int _), none, none, none], [.ref _], _)) rfl (u_ rfl) ?_
    refine w_t (pc := 13) (e_s := (3, 1, 1, 0, 0, .null, [])) (y_s := (14, [some (.ref _), some (.ref _), some (.int _), some (.int _), none, none, none], [.ref _, .ref _], _)) rfl (u_ rfl) ?_
    refine w_t (pc := 14) (e_s := (1, 1, 2, 0, 0, .null, [])) (y_s := (15, [some (.ref _), some (.ref _), some (.int _), some (.int _), none, none, none], [.int _, .ref _, .ref _], _)) rfl (u_ rfl) ?_
    refine w_t (pc := 15) (e_s := (0, 1, 0, 0, 0, .int 1, [])) (y_s := (16, [some (.ref _), some (.ref _), some (.int _), some (.int _), none, none, none], [.int _, .int _, .ref _, .ref _], _)) rfl (u_ rfl) ?_
    refine w_t (pc := 16) (e_s := (7, 1, 0, 0, 0, .null, [])) (y_s := (17, [some (.ref _), some (.ref _), some (.int _), some (.int _), none, none, none], [.int (_ + _), .ref _, .ref _], _)) rfl (u_ rfl) ?_
    refine w_t (pc := 17) (e_s := (1, 1, 3, 0, 0, .null, [])) (y_s := (18, [some (.ref _), some (.ref _), some (.int _), some (.int _), none, none, none], [.int _, .int _, .ref _, .ref _], _)) rfl (u_ rfl) ?_
    refine wcI (pc := 18) (len_s := 3) rfl rfl (l := [some (.ref _), some (.ref _), some (.int _), some (.int _), none, none, none]) rfl (wmI t_s (fun v2 h2 hk t_s => ?_))
    replace t_s := t_s hk
    refine wq1 (pc := 21) (len_s := 3) rfl rfl (fun c3_s => ?_) (fun c3_s => ?_)
    · replace t_s := t_s.1 c3_s
      refine w_t (pc := 24) (e_s := (0, 1, 0, 0, 0, .int 0, [])) (y_s := (25, [some (.ref _), some (.ref _), some (.int _), some (.int _), none, none, none], [.int _], _)) rfl (u_ rfl) ?_
      exact wrI (pc := 25) (len_s := 1) rfl hk t_s
    · replace t_s := t_s.2 c3_s
      refine w_t (pc := 26) (e_s := (1, 1, 2, 0, 0, .null, [])) (y_s := (27, [some (.ref _), some (.ref _), some (.int _), some (.int _), none, none, none], [.int _], _)) rfl (u_ rfl) ?_
      refine w_t (pc := 27) (e_s := (0, 1, 0, 0, 0, .int 2, [])) (y_s := (28, [some (.ref _), some (.ref _), some (.int _), some (.int _), none, none, none], [.int _, .int _], _)) rfl (u_ rfl) ?_
      refine wi1 (pc := 28) (len_s := 3) (Y := 2) rfl rfl (by decide) (fun c4_s => ?_) (fun c4_s => ?_)
      · replace t_s := t_s.1 c4_s
        refine w_t (pc := 31) (e_s := (0, 1, 0, 0, 0, .int 1, [])) (y_s := (32, [some (.ref _), some (.ref _), some (.int _), some (.int _), none, none, none], [.int _], _)) rfl (u_ rfl) ?_
        refine w_t (pc := 32) (e_s := (17, 3, 37, 0, 0, .null, [])) (y_s := (37, [some (.ref _), some (.ref _), some (.int _), some (.int _), none, none, none], [.int _], _)) rfl (u_ rfl) ?_
        refine w_t (pc := 37) (e_s := (4, 2, 4, 0, 0, .null, [])) (y_s := (39, [some (.ref _), some (.ref _), some (.int _), some (.int _), some (.int _), none, none], [], _)) rfl (u_ rfl) ?_
        refine w_t (pc := 39) (e_s := (0, 1, 0, 0, 0, .int 0, [])) (y_s := (40, [some (.ref _), some (.ref _), some (.int _), some (.int _), some (.int _), none, none], [.int _], _)) rfl (u_ rfl) ?_
        refine w_t (pc := 40) (e_s := (4, 2, 5, 0, 0, .null, [])) (y_s := (42, [some (.ref _), some (.ref _), some (.int _), some (.int _), some (.int _), some (.int _), none], [], _)) rfl (u_ rfl) ?_
        exact t_s
      · replace t_s := t_s.2 c4_s
        refine w_t (pc := 35) (e_s := (0, 2, 0, 0, 0, .int 120, [])) (y_s := (37, [some (.ref _), some (.ref _), some (.int _), some (.int _), none, none, none], [.int _], _)) rfl (u_ rfl) ?_
        refine w_t (pc := 37) (e_s := (4, 2, 4, 0, 0, .null, [])) (y_s := (39, [some (.ref _), some (.ref _), some (.int _), some (.int _), some (.int _), none, none], [], _)) rfl (u_ rfl) ?_
        refine w_t (pc := 39) (e_s := (0, 1, 0, 0, 0, .int 0, [])) (y_s := (40, [some (.ref _), some (.ref _), some (.int _), some (.int _), some (.int _), none, none], [.int _], _)) rfl (u_ rfl) ?_
        refine w_t (pc := 40) (e_s := (4, 2, 5, 0, 0, .null, [])) (y_s := (42, [some (.ref _), some (.ref _), some (.int _), some (.int _), some (.int _), some (.int _), none], [], _)) rfl (u_ rfl) ?_
        exact t_s
  · replace t_s := t_s.2 c1_s
    refine w_t (pc := 5) (e_s := (3, 1, 0, 0, 0, .null, [])) (y_s := (6, [some (.ref _), some (.ref _), some (.int _), some (.int _), none, none, none], [.ref _], _)) rfl (u_ rfl) ?_
    refine w_t (pc := 6) (e_s := (3, 1, 1, 0, 0, .null, [])) (y_s := (7, [some (.ref _), some (.ref _), some (.int _), some (.int _), none, none, none], [.ref _, .ref _], _)) rfl (u_ rfl) ?_
    refine w_t (pc := 7) (e_s := (1, 1, 3, 0, 0, .null, [])) (y_s := (8, [some (.ref _), some (.ref _), some (.int _), some (.int _), none, none, none], [.int _, .ref _, .ref _], _)) rfl (u_ rfl) ?_
    refine wcI (pc := 8) (len_s := 3) rfl rfl (l := [some (.ref _), some (.ref _), some (.int _), none, none]) rfl (wmI t_s (fun v5 h5 hk t_s => ?_))
    replace t_s := t_s hk
    exact wrI (pc := 11) (len_s := 1) rfl hk t_s
/-- ColdShod$LawText.readLevel(LColdShod$LawCode;II)Z, from 42 on -/
theorem sg_65_42 {F_s : Nat} {q_s : Nat} {x2_s x3 x4_s x5_s : Int32} {l6 : Option Value} {h_s : zH} {K_s : Int32 → zH → Prop} (hm_s : q_s = 14 ∨ q_s = 17) (hk : hKn h_s) (t_s : (x5_s.toInt < x4_s.toInt → wF F_s 68 (0, [some (.ref 40)], [], h_s) (gI (fun v2 h2 => hKn h2 → wF F_s 72 (0, [some (.int v2)], [], h2) (gI (fun v3 h3 => hKn h3 → (v3.toInt = x2_s.toInt → wF F_s 65 (0, [some (.ref 40), some (.ref q_s), some (.int (x2_s + 1)), some (.int x3), none, none, none], [], (h3.1, zup h3.2.1 40 2 ((h3.2.1 40 2) + 1), h3.2.2.1, h3.2.2.2)) (gI (fun v5 h5 => hKn h5 → (v5.toInt = 0 → K_s 0 h5) ∧ (¬ v5.toInt = 0 → wF F_s 54 (0, [some (.ref q_s), some (.int v2)], [], h5) (gV (fun h7 => hKn h7 → wF F_s 65 (42, [some (.ref 40), some (.ref q_s), some (.int x2_s), some (.int x3), some (.int x4_s), some (.int (x5_s + 1)), some (.int v2)], [], h7) (gI K_s))))))) ∧ (¬ v3.toInt = x2_s.toInt → K_s 1 h3)))))) ∧ (¬ x5_s.toInt < x4_s.toInt → K_s 1 h_s)) : wF (F_s + 1) 65 (42, [some (.ref 40), some (.ref q_s), some (.int x2_s), some (.int x3), some (.int x4_s), some (.int x5_s), l6], [], h_s) (gI K_s) := by
  refine w_0 (pc := 42) (e_s := (1, 2, 5, 0, 0, .null, [])) (y_s := (44, [some (.ref _), some (.ref _), some (.int _), some (.int _), some (.int _), some (.int _), _], [.int _], _)) rfl (u_ rfl) ?_
  refine w_t (pc := 44) (e_s := (1, 2, 4, 0, 0, .null, [])) (y_s := (46, [some (.ref _), some (.ref _), some (.int _), some (.int _), some (.int _), some (.int _), _], [.int _, .int _], _)) rfl (u_ rfl) ?_
  refine wi3 (pc := 46) (len_s := 3) rfl rfl rfl (fun c1_s => ?_) (fun c1_s => ?_)
  · replace t_s := t_s.1 c1_s
    refine w_t (pc := 49) (e_s := (3, 1, 0, 0, 0, .null, [])) (y_s := (50, [some (.ref _), some (.ref _), some (.int _), some (.int _), some (.int _), some (.int _), _], [.ref _], _)) rfl (u_ rfl) ?_
    refine wcI (pc := 50) (len_s := 3) rfl rfl (l := [some (.ref _)]) rfl (wmI t_s (fun v2 h2 hk t_s => ?_))
    replace t_s := t_s hk
    refine w_t (pc := 53) (e_s := (4, 2, 6, 0, 0, .null, [])) (y_s := (55, [some (.ref _), some (.ref _), some (.int _), some (.int _), some (.int _), some (.int _), some (.int _)], [], _)) rfl (u_ rfl) ?_
    refine w_t (pc := 55) (e_s := (1, 2, 6, 0, 0, .null, [])) (y_s := (57, [some (.ref _), some (.ref _), some (.int _), some (.int _), some (.int _), some (.int _), some (.int _)], [.int _], _)) rfl (u_ rfl) ?_
    refine wcI (pc := 57) (len_s := 3) rfl rfl (l := [some (.int _)]) rfl (wmI t_s (fun v3 h3 hk t_s => ?_))
    replace t_s := t_s hk
    refine w_t (pc := 60) (e_s := (1, 1, 2, 0, 0, .null, [])) (y_s := (61, [some (.ref _), some (.ref _), some (.int _), some (.int _), some (.int _), some (.int _), some (.int _)], [.int _, .int _], _)) rfl (u_ rfl) ?_
    refine wi0 (pc := 61) (len_s := 3) rfl rfl rfl (fun c4_s => ?_) (fun c4_s => ?_)
    · replace t_s := t_s.1 c4_s
      refine w_t (pc := 66) (e_s := (3, 1, 0, 0, 0, .null, [])) (y_s := (67, [some (.ref _), some (.ref _), some (.int _), some (.int _), some (.int _), some (.int _), some (.int _)], [.ref _], _)) rfl (u_ rfl) ?_
      refine w_t (pc := 67) (e_s := (39, 1, 0, 0, 0, .null, [])) (y_s := (68, [some (.ref _), some (.ref _), some (.int _), some (.int _), some (.int _), some (.int _), some (.int _)], [.ref _, .ref _], _)) rfl (u_ rfl) ?_
      refine w20 (pc := 68) (len_s := 3) rfl ?_
      refine w_t (pc := 71) (e_s := (0, 1, 0, 0, 0, .int 1, [])) (y_s := (72, [some (.ref _), some (.ref _), some (.int _), some (.int _), some (.int _), some (.int _), some (.int _)], [.int _, .int _, .ref _], _)) rfl (u_ rfl) ?_
      refine w_t (pc := 72) (e_s := (7, 1, 0, 0, 0, .null, [])) (y_s := (73, [some (.ref _), some (.ref _), some (.int _), some (.int _), some (.int _), some (.int _), some (.int _)], [.int (_ + _), .ref _], _)) rfl (u_ rfl) ?_
      refine w21 (pc := 73) (len_s := 3) rfl ?_
      refine w_t (pc := 76) (e_s := (3, 1, 0, 0, 0, .null, [])) (y_s := (77, [some (.ref _), some (.ref _), some (.int _), some (.int _), some (.int _), some (.int _), some (.int _)], [.ref _], _)) rfl (u_ rfl) ?_
      refine w_t (pc := 77) (e_s := (3, 1, 1, 0, 0, .null, [])) (y_s := (78, [some (.ref _), some (.ref _), some (.int _), some (.int _), some (.int _), some (.int _), some (.int _)], [.ref _, .ref _], _)) rfl (u_ rfl) ?_
      refine w_t (pc := 78) (e_s := (1, 1, 2, 0, 0, .null, [])) (y_s := (79, [some (.ref _), some (.ref _), some (.int _), some (.int _), some (.int _), some (.int _), some (.int _)], [.int _, .ref _, .ref _], _)) rfl (u_ rfl) ?_
      refine w_t (pc := 79) (e_s := (0, 1, 0, 0, 0, .int 1, [])) (y_s := (80, [some (.ref _), some (.ref _), some (.int _), some (.int _), some (.int _), some (.int _), some (.int _)], [.int _, .int _, .ref _, .ref _], _)) rfl (u_ rfl) ?_
      refine w_t (pc := 80) (e_s := (7, 1, 0, 0, 0, .null, [])) (y_s := (81, [some (.ref _), some (.ref _), some (.int _), some (.int _), some (.int _), some (.int _), some (.int _)], [.int (_ + _), .ref _, .ref _], _)) rfl (u_ rfl) ?_
      refine w_t (pc := 81) (e_s := (1, 1, 3, 0, 0, .null, [])) (y_s := (82, [some (.ref _), some (.ref _), some (.int _), some (.int _), some (.int _), some (.int _), some (.int _)], [.int _, .int _, .ref _, .ref _], _)) rfl (u_ rfl) ?_
      refine wcI (pc := 82) (len_s := 3) rfl rfl (l := [some (.ref _), some (.ref _), some (.int _), some (.int _), none, none, none]) rfl (wmI t_s (fun v5 h5 hk t_s => ?_))
      replace t_s := t_s hk
      refine wq1 (pc := 85) (len_s := 3) rfl rfl (fun c6_s => ?_) (fun c6_s => ?_)
      · replace t_s := t_s.1 c6_s
        refine w_t (pc := 88) (e_s := (0, 1, 0, 0, 0, .int 0, [])) (y_s := (89, [some (.ref _), some (.ref _), some (.int _), some (.int _), some (.int _), some (.int _), some (.int _)], [.int _], _)) rfl (u_ rfl) ?_
        exact wrI (pc := 89) (len_s := 1) rfl hk t_s
      · replace t_s := t_s.2 c6_s
        refine w_t (pc := 90) (e_s := (3, 1, 1, 0, 0, .null, [])) (y_s := (91, [some (.ref _), some (.ref _), some (.int _), some (.int _), some (.int _), some (.int _), some (.int _)], [.ref _], _)) rfl (u_ rfl) ?_
        refine w_t (pc := 91) (e_s := (1, 2, 6, 0, 0, .null, [])) (y_s := (93, [some (.ref _), some (.ref _), some (.int _), some (.int _), some (.int _), some (.int _), some (.int _)], [.int _, .ref _], _)) rfl (u_ rfl) ?_
        refine wcV (pc := 93) (len_s := 3) rfl rfl (l := [some (.ref _), some (.int _)]) rfl (wmV t_s (fun h7 hk t_s => ?_))
        replace t_s := t_s hk
        refine w_t (pc := 96) (e_s := (19, 3, 5, 0, 0, .int 1, [])) (y_s := (99, [some (.ref _), some (.ref _), some (.int _), some (.int _), some (.int _), some (.int _), some (.int _)], [], _)) rfl (u_ rfl) ?_
        refine w_t (pc := 99) (e_s := (17, 3, 42, 0, 0, .null, [])) (y_s := (42, [some (.ref _), some (.ref _), some (.int _), some (.int _), some (.int _), some (.int _), some (.int _)], [], _)) rfl (u_ rfl) ?_
        exact t_s
    · replace t_s := t_s.2 c4_s
      refine w_t (pc := 64) (e_s := (0, 1, 0, 0, 0, .int 1, [])) (y_s := (65, [some (.ref _), some (.ref _), some (.int _), some (.int _), some (.int _), some (.int _), some (.int _)], [.int _], _)) rfl (u_ rfl) ?_
      exact wrI (pc := 65) (len_s := 1) rfl hk t_s
  · replace t_s := t_s.2 c1_s
    refine w_t (pc := 102) (e_s := (0, 1, 0, 0, 0, .int 1, [])) (y_s := (103, [some (.ref _), some (.ref _), some (.int _), some (.int _), some (.int _), some (.int _), _], [.int _], _)) rfl (u_ rfl) ?_
    exact wrI (pc := 103) (len_s := 1) rfl hk t_s
/-- ColdShod$LawText.readLine(LColdShod$LawCode;)Z, from 0 on -/
theorem sg_64_0 {F_s : Nat} {q_s : Nat} {h_s : zH} {K_s : Int32 → zH → Prop} (hm_s : q_s = 14 ∨ q_s = 17) (hk : hKn h_s) (t_s : wF F_s 65 (0, [some (.ref 40), some (.ref q_s), some (.int 0), some (.int 0), none, none, none], [], h_s) (gI (fun v1_s h1 => hKn h1 → (v1_s.toInt = 0 → K_s 0 h1) ∧ (¬ v1_s.toInt = 0 → wF F_s 69 (0, [some (.ref 40), some (.int 63)], [], h1) (gI (fun v3 h3 => hKn h3 → (v3.toInt = 0 → wF F_s 54 (0, [some (.ref q_s), some (.int 59)], [], h3) (gV (fun h5 => hKn h5 → K_s 1 h5))) ∧ (¬ v3.toInt = 0 → wF F_s 56 (0, [some (.ref q_s)], [], h3) (gI (fun v6 h6 => hKn h6 → wF F_s 65 (0, [some (.ref 40), some (.ref q_s), some (.int 0), some (.int 0), none, none, none], [], h6) (gI (fun v7 h7 => hKn h7 → (v7.toInt = 0 → K_s 0 h7) ∧ (¬ v7.toInt = 0 → wF F_s 54 (0, [some (.ref q_s), some (.int 59)], [], h7) (gV (fun h9 => hKn h9 → wF F_s 57 (0, [some (.ref q_s), some (.int v6)], [], h9) (gV (fun h10 => hKn h10 → K_s 1 h10)))))))))))))))) : wF (F_s + 1) 64 (0, [some (.ref 40), some (.ref q_s), none], [], h_s) (gI K_s) := by
  refine w_0 (pc := 0) (e_s := (3, 1, 0, 0, 0, .null, [])) (y_s := (1, [some (.ref _), some (.ref _), none], [.ref _], _)) rfl (u_ rfl) ?_
  refine w_t (pc := 1) (e_s := (3, 1, 1, 0, 0, .null, [])) (y_s := (2, [some (.ref _), some (.ref _), none], [.ref _, .ref _], _)) rfl (u_ rfl) ?_
  refine w_t (pc := 2) (e_s := (0, 1, 0, 0, 0, .int 0, [])) (y_s := (3, [some (.ref _), some (.ref _), none], [.int _, .ref _, .ref _], _)) rfl (u_ rfl) ?_
  refine w_t (pc := 3) (e_s := (0, 1, 0, 0, 0, .int 0, [])) (y_s := (4, [some (.ref _), some (.ref _), none], [.int _, .int _, .ref _, .ref _], _)) rfl (u_ rfl) ?_
  refine wcI (pc := 4) (len_s := 3) rfl rfl (l := [some (.ref _), some (.ref _), some (.int _), some (.int _), none, none, none]) rfl (wmI t_s (fun v1_s h1 hk t_s => ?_))
  replace t_s := t_s hk
  refine wq1 (pc := 7) (len_s := 3) rfl rfl (fun c2_s => ?_) (fun c2_s => ?_)
  · replace t_s := t_s.1 c2_s
    refine w_t (pc := 10) (e_s := (0, 1, 0, 0, 0, .int 0, [])) (y_s := (11, [some (.ref _), some (.ref _), none], [.int _], _)) rfl (u_ rfl) ?_
    exact wrI (pc := 11) (len_s := 1) rfl hk t_s
  · replace t_s := t_s.2 c2_s
    refine w_t (pc := 12) (e_s := (3, 1, 0, 0, 0, .null, [])) (y_s := (13, [some (.ref _), some (.ref _), none], [.ref _], _)) rfl (u_ rfl) ?_
    refine w_t (pc := 13) (e_s := (0, 2, 0, 0, 0, .int 63, [])) (y_s := (15, [some (.ref _), some (.ref _), none], [.int _, .ref _], _)) rfl (u_ rfl) ?_
    refine wcI (pc := 15) (len_s := 3) rfl rfl (l := [some (.ref _), some (.int _)]) rfl (wmI t_s (fun v3 h3 hk t_s => ?_))
    replace t_s := t_s hk
    refine wq1 (pc := 18) (len_s := 3) rfl rfl (fun c4_s => ?_) (fun c4_s => ?_)
    · replace t_s := t_s.1 c4_s
      refine w_t (pc := 21) (e_s := (3, 1, 1, 0, 0, .null, [])) (y_s := (22, [some (.ref _), some (.ref _), none], [.ref _], _)) rfl (u_ rfl) ?_
      refine w_t (pc := 22) (e_s := (0, 2, 0, 0, 0, .int 59, [])) (y_s := (24, [some (.ref _), some (.ref _), none], [.int _, .ref _], _)) rfl (u_ rfl) ?_
      refine wcV (pc := 24) (len_s := 3) rfl rfl (l := [some (.ref _), some (.int _)]) rfl (wmV t_s (fun h5 hk t_s => ?_))
      replace t_s := t_s hk
      refine w_t (pc := 27) (e_s := (0, 1, 0, 0, 0, .int 1, [])) (y_s := (28, [some (.ref _), some (.ref _), none], [.int _], _)) rfl (u_ rfl) ?_
      exact wrI (pc := 28) (len_s := 1) rfl hk t_s
    · replace t_s := t_s.2 c4_s
      refine w_t (pc := 29) (e_s := (3, 1, 1, 0, 0, .null, [])) (y_s := (30, [some (.ref _), some (.ref _), none], [.ref _], _)) rfl (u_ rfl) ?_
      refine wcI (pc := 30) (len_s := 3) rfl rfl (l := [some (.ref _)]) rfl (wmI t_s (fun v6 h6 hk t_s => ?_))
      replace t_s := t_s hk
      refine w_t (pc := 33) (e_s := (4, 1, 2, 0, 0, .null, [])) (y_s := (34, [some (.ref _), some (.ref _), some (.int _)], [], _)) rfl (u_ rfl) ?_
      refine w_t (pc := 34) (e_s := (3, 1, 0, 0, 0, .null, [])) (y_s := (35, [some (.ref _), some (.ref _), some (.int _)], [.ref _], _)) rfl (u_ rfl) ?_
      refine w_t (pc := 35) (e_s := (3, 1, 1, 0, 0, .null, [])) (y_s := (36, [some (.ref _), some (.ref _), some (.int _)], [.ref _, .ref _], _)) rfl (u_ rfl) ?_
      refine w_t (pc := 36) (e_s := (0, 1, 0, 0, 0, .int 0, [])) (y_s := (37, [some (.ref _), some (.ref _), some (.int _)], [.int _, .ref _, .ref _], _)) rfl (u_ rfl) ?_
      refine w_t (pc := 37) (e_s := (0, 1, 0, 0, 0, .int 0, [])) (y_s := (38, [some (.ref _), some (.ref _), some (.int _)], [.int _, .int _, .ref _, .ref _], _)) rfl (u_ rfl) ?_
      refine wcI (pc := 38) (len_s := 3) rfl rfl (l := [some (.ref _), some (.ref _), some (.int _), some (.int _), none, none, none]) rfl (wmI t_s (fun v7 h7 hk t_s => ?_))
      replace t_s := t_s hk
      refine wq1 (pc := 41) (len_s := 3) rfl rfl (fun c8_s => ?_) (fun c8_s => ?_)
      · replace t_s := t_s.1 c8_s
        refine w_t (pc := 44) (e_s := (0, 1, 0, 0, 0, .int 0, [])) (y_s := (45, [some (.ref _), some (.ref _), some (.int _)], [.int _], _)) rfl (u_ rfl) ?_
        exact wrI (pc := 45) (len_s := 1) rfl hk t_s
      · replace t_s := t_s.2 c8_s
        refine w_t (pc := 46) (e_s := (3, 1, 1, 0, 0, .null, [])) (y_s := (47, [some (.ref _), some (.ref _), some (.int _)], [.ref _], _)) rfl (u_ rfl) ?_
        refine w_t (pc := 47) (e_s := (0, 2, 0, 0, 0, .int 59, [])) (y_s := (49, [some (.ref _), some (.ref _), some (.int _)], [.int _, .ref _], _)) rfl (u_ rfl) ?_
        refine wcV (pc := 49) (len_s := 3) rfl rfl (l := [some (.ref _), some (.int _)]) rfl (wmV t_s (fun h9 hk t_s => ?_))
        replace t_s := t_s hk
        refine w_t (pc := 52) (e_s := (3, 1, 1, 0, 0, .null, [])) (y_s := (53, [some (.ref _), some (.ref _), some (.int _)], [.ref _], _)) rfl (u_ rfl) ?_
        refine w_t (pc := 53) (e_s := (1, 1, 2, 0, 0, .null, [])) (y_s := (54, [some (.ref _), some (.ref _), some (.int _)], [.int _, .ref _], _)) rfl (u_ rfl) ?_
        refine wcV (pc := 54) (len_s := 3) rfl rfl (l := [some (.ref _), some (.int _)]) rfl (wmV t_s (fun h10 hk t_s => ?_))
        replace t_s := t_s hk
        refine w_t (pc := 57) (e_s := (0, 1, 0, 0, 0, .int 1, [])) (y_s := (58, [some (.ref _), some (.ref _), some (.int _)], [.int _], _)) rfl (u_ rfl) ?_
        exact wrI (pc := 58) (len_s := 1) rfl hk t_s
/-- ColdShod$LawText.readInto(LColdShod$LawCode;)I, from 0 on -/
theorem sg_63_0 {F_s : Nat} {q_s : Nat} {h_s : zH} {K_s : Int32 → zH → Prop} (hm_s : q_s = 14 ∨ q_s = 17) (hk : hKn h_s) (t_s : wF F_s 63 (11, [some (.ref 40), some (.ref q_s), some (.int 0)], [], (h_s.1, zup (zup (zup h_s.2.1 q_s 2 0) q_s 0 0) 40 2 0, h_s.2.2.1, h_s.2.2.2)) (gI K_s)) : wF (F_s + 1) 63 (0, [some (.ref 40), some (.ref q_s), none], [], h_s) (gI K_s) := by
  refine w_0 (pc := 0) (e_s := (3, 1, 1, 0, 0, .null, [])) (y_s := (1, [some (.ref _), some (.ref _), none], [.ref _], _)) rfl (u_ rfl) ?_
  refine wcV (pc := 1) (len_s := 3) rfl rfl (l := [some (.ref _)]) rfl ?_
  refine w_t (pc := 0) (e_s := (3, 1, 0, 0, 0, .null, [])) (y_s := (1, [some (.ref _)], [.ref _], _)) rfl (u_ rfl) ?_
  refine w_t (pc := 1) (e_s := (0, 1, 0, 0, 0, .int 0, [])) (y_s := (2, [some (.ref _)], [.int _, .ref _], _)) rfl (u_ rfl) ?_
  refine w21 (pc := 2) (len_s := 3) rfl ?_
  refine w_t (pc := 5) (e_s := (3, 1, 0, 0, 0, .null, [])) (y_s := (6, [some (.ref _)], [.ref _], _)) rfl (u_ rfl) ?_
  refine w_t (pc := 6) (e_s := (0, 1, 0, 0, 0, .int 0, [])) (y_s := (7, [some (.ref _)], [.int _, .ref _], _)) rfl (u_ rfl) ?_
  refine w21b (pc := 7) (len_s := 3) rfl ?_
  refine wrV (pc := 10) (len_s := 1) rfl hk ?_
  show wF _ 63 (4, [some (.ref _), some (.ref _), none], [], _) _
  refine w_t (pc := 4) (e_s := (3, 1, 0, 0, 0, .null, [])) (y_s := (5, [some (.ref _), some (.ref _), none], [.ref _], _)) rfl (u_ rfl) ?_
  refine w_t (pc := 5) (e_s := (0, 1, 0, 0, 0, .int 0, [])) (y_s := (6, [some (.ref _), some (.ref _), none], [.int _, .ref _], _)) rfl (u_ rfl) ?_
  refine w21 (pc := 6) (len_s := 3) rfl ?_
  refine w_t (pc := 9) (e_s := (0, 1, 0, 0, 0, .int 0, [])) (y_s := (10, [some (.ref _), some (.ref _), none], [.int _], _)) rfl (u_ rfl) ?_
  refine w_t (pc := 10) (e_s := (4, 1, 2, 0, 0, .null, [])) (y_s := (11, [some (.ref _), some (.ref _), some (.int _)], [], _)) rfl (u_ rfl) ?_
  exact t_s
/-- ColdShod$LawText.readInto(LColdShod$LawCode;)I, from 11 on -/
theorem sg_63_11 {F_s : Nat} {q_s : Nat} {x2_s : Int32} {h_s : zH} {K_s : Int32 → zH → Prop} (hm_s : q_s = 14 ∨ q_s = 17) (hk : hKn h_s) (t_s : (120 < x2_s.toInt → K_s (h_s.2.1 40 2) h_s) ∧ (¬ 120 < x2_s.toInt → wF F_s 64 (0, [some (.ref 40), some (.ref q_s), none], [], h_s) (gI (fun v2 h2 => hKn h2 → (v2.toInt = 0 → K_s (h2.2.1 40 2) h2) ∧ (¬ v2.toInt = 0 → (((h2.2.1 40 2).toInt < (h2.2.1 40 1).toInt → wF F_s 69 (0, [some (.ref 40), some (.int 59)], [], h2) (gI (fun v5 h5 => hKn h5 → (v5.toInt = 0 → K_s (h5.2.1 40 2) h5) ∧ (¬ v5.toInt = 0 → wF F_s 63 (11, [some (.ref 40), some (.ref q_s), some (.int (x2_s + 1))], [], h5) (gI K_s))))) ∧ (¬ (h2.2.1 40 2).toInt < (h2.2.1 40 1).toInt → K_s (-1) h2))))))) : wF (F_s + 1) 63 (11, [some (.ref 40), some (.ref q_s), some (.int x2_s)], [], h_s) (gI K_s) := by
  refine w_0 (pc := 11) (e_s := (1, 1, 2, 0, 0, .null, [])) (y_s := (12, [some (.ref _), some (.ref _), some (.int _)], [.int _], _)) rfl (u_ rfl) ?_
  refine w_t (pc := 12) (e_s := (0, 2, 0, 0, 0, .int 120, [])) (y_s := (14, [some (.ref _), some (.ref _), some (.int _)], [.int _, .int _], _)) rfl (u_ rfl) ?_
  refine wi4 (pc := 14) (len_s := 3) (Y := 120) rfl rfl (by decide) (fun c1_s => ?_) (fun c1_s => ?_)
  · replace t_s := t_s.1 c1_s
    refine w_t (pc := 63) (e_s := (3, 1, 0, 0, 0, .null, [])) (y_s := (64, [some (.ref _), some (.ref _), some (.int _)], [.ref _], _)) rfl (u_ rfl) ?_
    refine w20 (pc := 64) (len_s := 3) rfl ?_
    exact wrI (pc := 67) (len_s := 1) rfl hk t_s
  · replace t_s := t_s.2 c1_s
    refine w_t (pc := 17) (e_s := (3, 1, 0, 0, 0, .null, [])) (y_s := (18, [some (.ref _), some (.ref _), some (.int _)], [.ref _], _)) rfl (u_ rfl) ?_
    refine w_t (pc := 18) (e_s := (3, 1, 1, 0, 0, .null, [])) (y_s := (19, [some (.ref _), some (.ref _), some (.int _)], [.ref _, .ref _], _)) rfl (u_ rfl) ?_
    refine wcI (pc := 19) (len_s := 3) rfl rfl (l := [some (.ref _), some (.ref _), none]) rfl (wmI t_s (fun v2 h2 hk t_s => ?_))
    replace t_s := t_s hk
    refine wq1 (pc := 22) (len_s := 3) rfl rfl (fun c3_s => ?_) (fun c3_s => ?_)
    · replace t_s := t_s.1 c3_s
      refine w_t (pc := 25) (e_s := (3, 1, 0, 0, 0, .null, [])) (y_s := (26, [some (.ref _), some (.ref _), some (.int _)], [.ref _], _)) rfl (u_ rfl) ?_
      refine w20 (pc := 26) (len_s := 3) rfl ?_
      exact wrI (pc := 29) (len_s := 1) rfl hk t_s
    · replace t_s := t_s.2 c3_s
      refine w_t (pc := 30) (e_s := (3, 1, 0, 0, 0, .null, [])) (y_s := (31, [some (.ref _), some (.ref _), some (.int _)], [.ref _], _)) rfl (u_ rfl) ?_
      refine w20 (pc := 31) (len_s := 3) rfl ?_
      refine w_t (pc := 34) (e_s := (3, 1, 0, 0, 0, .null, [])) (y_s := (35, [some (.ref _), some (.ref _), some (.int _)], [.ref _, .int _], _)) rfl (u_ rfl) ?_
      refine w20 (pc := 35) (len_s := 3) rfl ?_
      refine wi2 (pc := 38) (len_s := 3) rfl rfl rfl (fun c4_s => ?_) (fun c4_s => ?_)
      · replace t_s := t_s.1 c4_s
        refine w_t (pc := 43) (e_s := (3, 1, 0, 0, 0, .null, [])) (y_s := (44, [some (.ref _), some (.ref _), some (.int _)], [.ref _], _)) rfl (u_ rfl) ?_
        refine w_t (pc := 44) (e_s := (0, 2, 0, 0, 0, .int 59, [])) (y_s := (46, [some (.ref _), some (.ref _), some (.int _)], [.int _, .ref _], _)) rfl (u_ rfl) ?_
        refine wcI (pc := 46) (len_s := 3) rfl rfl (l := [some (.ref _), some (.int _)]) rfl (wmI t_s (fun v5 h5 hk t_s => ?_))
        replace t_s := t_s hk
        refine wq1 (pc := 49) (len_s := 3) rfl rfl (fun c6_s => ?_) (fun c6_s => ?_)
        · replace t_s := t_s.1 c6_s
          refine w_t (pc := 52) (e_s := (3, 1, 0, 0, 0, .null, [])) (y_s := (53, [some (.ref _), some (.ref _), some (.int _)], [.ref _], _)) rfl (u_ rfl) ?_
          refine w20 (pc := 53) (len_s := 3) rfl ?_
          exact wrI (pc := 56) (len_s := 1) rfl hk t_s
        · replace t_s := t_s.2 c6_s
          refine w_t (pc := 57) (e_s := (19, 3, 2, 0, 0, .int 1, [])) (y_s := (60, [some (.ref _), some (.ref _), some (.int _)], [], _)) rfl (u_ rfl) ?_
          refine w_t (pc := 60) (e_s := (17, 3, 11, 0, 0, .null, [])) (y_s := (11, [some (.ref _), some (.ref _), some (.int _)], [], _)) rfl (u_ rfl) ?_
          exact t_s
      · replace t_s := t_s.2 c4_s
        refine w_t (pc := 41) (e_s := (0, 1, 0, 0, 0, .int (-1), [])) (y_s := (42, [some (.ref _), some (.ref _), some (.int _)], [.int _], _)) rfl (u_ rfl) ?_
        exact wrI (pc := 42) (len_s := 1) rfl hk t_s
/-- ColdShod.feed(I)I, from 0 on -/
theorem sg_100_0 {F_s : Nat} {x1_s : Int32} {h_s : zH} {K_s : Int32 → zH → Prop} (hk : hKn h_s) (t_s : (x1_s.toInt < 0 → K_s (-1) h_s) ∧ (¬ x1_s.toInt < 0 → ((255 < x1_s.toInt → K_s (-1) h_s) ∧ (¬ 255 < x1_s.toInt → (((h_s.2.1 40 1).toInt < 120 → (zix (h_s.2.1 40 1) < 120 → K_s ((h_s.2.1 40 1) + 1) (h_s.1, zup (zup h_s.2.1 41 (zix (h_s.2.1 40 1)) x1_s) 40 1 ((h_s.2.1 40 1) + 1), h_s.2.2.1, h_s.2.2.2))) ∧ (¬ (h_s.2.1 40 1).toInt < 120 → K_s (-3) h_s)))))) : wF (F_s + 1) 100 (0, [some (.ref 6), some (.int x1_s)], [], h_s) (gI K_s) := by
  refine w_0 (pc := 0) (e_s := (1, 1, 1, 0, 0, .null, [])) (y_s := (1, [some (.ref _), some (.int _)], [.int _], _)) rfl (u_ rfl) ?_
  refine wq2 (pc := 1) (len_s := 3) rfl rfl (fun c1_s => ?_) (fun c1_s => ?_)
  · replace t_s := t_s.1 c1_s
    refine w_t (pc := 11) (e_s := (0, 1, 0, 0, 0, .int (-1), [])) (y_s := (12, [some (.ref _), some (.int _)], [.int _], _)) rfl (u_ rfl) ?_
    exact wrI (pc := 12) (len_s := 1) rfl hk t_s
  · replace t_s := t_s.2 c1_s
    refine w_t (pc := 4) (e_s := (1, 1, 1, 0, 0, .null, [])) (y_s := (5, [some (.ref _), some (.int _)], [.int _], _)) rfl (u_ rfl) ?_
    refine w_t (pc := 5) (e_s := (0, 3, 0, 0, 0, .int 255, [])) (y_s := (8, [some (.ref _), some (.int _)], [.int _, .int _], _)) rfl (u_ rfl) ?_
    refine wi5 (pc := 8) (len_s := 3) (Y := 255) rfl rfl (by decide) (fun c2_s => ?_) (fun c2_s => ?_)
    · replace t_s := t_s.1 c2_s
      refine w_t (pc := 11) (e_s := (0, 1, 0, 0, 0, .int (-1), [])) (y_s := (12, [some (.ref _), some (.int _)], [.int _], _)) rfl (u_ rfl) ?_
      exact wrI (pc := 12) (len_s := 1) rfl hk t_s
    · replace t_s := t_s.2 c2_s
      refine w_t (pc := 13) (e_s := (3, 1, 0, 0, 0, .null, [])) (y_s := (14, [some (.ref _), some (.int _)], [.ref _], _)) rfl (u_ rfl) ?_
      refine w20r (pc := 14) (len_s := 3) (q_s := 40) rfl (krq hk rfl) ?_
      refine w_t (pc := 17) (e_s := (1, 1, 1, 0, 0, .null, [])) (y_s := (18, [some (.ref _), some (.int _)], [.int _, .ref _], _)) rfl (u_ rfl) ?_
      refine wcI (pc := 18) (len_s := 3) rfl rfl (l := [some (.ref _), some (.int _)]) rfl ?_
      refine w_t (pc := 0) (e_s := (3, 1, 0, 0, 0, .null, [])) (y_s := (1, [some (.ref _), some (.int _)], [.ref _], _)) rfl (u_ rfl) ?_
      refine w20 (pc := 1) (len_s := 3) rfl ?_
      refine w_t (pc := 4) (e_s := (0, 2, 0, 0, 0, .int 120, [])) (y_s := (6, [some (.ref _), some (.int _)], [.int _, .int _], _)) rfl (u_ rfl) ?_
      refine wi2 (pc := 6) (len_s := 3) (Y := 120) rfl rfl (by decide) (fun c3_s => ?_) (fun c3_s => ?_)
      · replace t_s := t_s.1 c3_s
        refine w_t (pc := 11) (e_s := (3, 1, 0, 0, 0, .null, [])) (y_s := (12, [some (.ref _), some (.int _)], [.ref _], _)) rfl (u_ rfl) ?_
        refine w20r (pc := 12) (len_s := 3) (q_s := 41) rfl (krq hk rfl) ?_
        refine w_t (pc := 15) (e_s := (3, 1, 0, 0, 0, .null, [])) (y_s := (16, [some (.ref _), some (.int _)], [.ref _, .ref _], _)) rfl (u_ rfl) ?_
        refine w20 (pc := 16) (len_s := 3) rfl ?_
        refine w_t (pc := 19) (e_s := (1, 1, 1, 0, 0, .null, [])) (y_s := (20, [some (.ref _), some (.int _)], [.int _, .int _, .ref _], _)) rfl (u_ rfl) ?_
        refine w25 (pc := 20) (len_s := 1) rfl (hk.1 41 0 120 rfl rfl) (fun c4_s => ?_)
        replace t_s := t_s c4_s
        refine w_t (pc := 21) (e_s := (3, 1, 0, 0, 0, .null, [])) (y_s := (22, [some (.ref _), some (.int _)], [.ref _], _)) rfl (u_ rfl) ?_
        refine w_t (pc := 22) (e_s := (39, 1, 0, 0, 0, .null, [])) (y_s := (23, [some (.ref _), some (.int _)], [.ref _, .ref _], _)) rfl (u_ rfl) ?_
        refine w20 (pc := 23) (len_s := 3) rfl ?_
        refine w_t (pc := 26) (e_s := (0, 1, 0, 0, 0, .int 1, [])) (y_s := (27, [some (.ref _), some (.int _)], [.int _, .int _, .ref _], _)) rfl (u_ rfl) ?_
        refine w_t (pc := 27) (e_s := (7, 1, 0, 0, 0, .null, [])) (y_s := (28, [some (.ref _), some (.int _)], [.int (_ + _), .ref _], _)) rfl (u_ rfl) ?_
        refine w21 (pc := 28) (len_s := 3) rfl ?_
        refine w_t (pc := 31) (e_s := (0, 1, 0, 0, 0, .int 1, [])) (y_s := (32, [some (.ref _), some (.int _)], [.int _], _)) rfl (u_ rfl) ?_
        refine wrI (pc := 32) (len_s := 1) rfl hk ?_
        show wF _ 100 (21, [some (.ref _), some (.int _)], [.int _], _) _
        refine w_t (pc := 21) (e_s := (15, 3, 34, 0, 0, .null, [])) (y_s := (24, [some (.ref _), some (.int _)], [], _)) rfl (u_ rfl) ?_
        refine w_t (pc := 24) (e_s := (3, 1, 0, 0, 0, .null, [])) (y_s := (25, [some (.ref _), some (.int _)], [.ref _], _)) rfl (u_ rfl) ?_
        refine w20r (pc := 25) (len_s := 3) (q_s := 40) rfl (krq hk rfl) ?_
        refine w20 (pc := 28) (len_s := 3) rfl ?_
        refine w_t (pc := 31) (e_s := (17, 3, 36, 0, 0, .null, [])) (y_s := (36, [some (.ref _), some (.int _)], [.int _], _)) rfl (u_ rfl) ?_
        exact wrI (pc := 36) (len_s := 1) rfl hk t_s
      · replace t_s := t_s.2 c3_s
        refine w_t (pc := 9) (e_s := (0, 1, 0, 0, 0, .int 0, [])) (y_s := (10, [some (.ref _), some (.int _)], [.int _], _)) rfl (u_ rfl) ?_
        refine wrI (pc := 10) (len_s := 1) rfl hk ?_
        show wF _ 100 (21, [some (.ref _), some (.int _)], [.int _], _) _
        refine w_t (pc := 21) (e_s := (15, 3, 34, 0, 0, .null, [])) (y_s := (34, [some (.ref _), some (.int _)], [], _)) rfl (u_ rfl) ?_
        refine w_t (pc := 34) (e_s := (0, 2, 0, 0, 0, .int (-3), [])) (y_s := (36, [some (.ref _), some (.int _)], [.int _], _)) rfl (u_ rfl) ?_
        exact wrI (pc := 36) (len_s := 1) rfl hk t_s
/-- ColdShod.law()I, from 0 on -/
theorem sg_101_0 {F_s : Nat}  {h_s : zH} {K_s : Int32 → zH → Prop} (hk : hKn h_s) (t_s : ∀ q1_s, h_s.2.2.2 7 10 = some q1_s → q1_s = 14 ∨ q1_s = 17 → wF F_s 63 (0, [some (.ref 40), some (.ref q1_s), none], [], h_s) (gI (fun v2 h2 => hKn h2 → (v2.toInt = -1 → (∀ q4_s, h2.2.2.2 7 9 = some q4_s → q4_s = 14 ∨ q4_s = 17 → K_s 1 (h2.1, zup h2.2.1 40 1 0, h2.2.2.1, zup (zup h2.2.2.2 7 10 (some q4_s)) 7 9 (some q1_s)))) ∧ (¬ v2.toInt = -1 → K_s ((-100) - v2) (h2.1, zup h2.2.1 40 1 0, h2.2.2.1, h2.2.2.2))))) : wF (F_s + 1) 101 (0, [some (.ref 6), none, none], [], h_s) (gI K_s) := by
  refine w_0 (pc := 0) (e_s := (3, 1, 0, 0, 0, .null, [])) (y_s := (1, [some (.ref _), none, none], [.ref _], _)) rfl (u_ rfl) ?_
  refine w20r (pc := 1) (len_s := 3) (q_s := 7) rfl (krq hk rfl) ?_
  obtain ⟨q1_s, r1_s, m1_s⟩ := krm hk (o := 7) (b_s := 10) rfl
  replace t_s := t_s q1_s r1_s m1_s
  refine w20r (pc := 4) (len_s := 3) (q_s := q1_s) rfl r1_s ?_
  refine w_t (pc := 7) (e_s := (6, 1, 1, 0, 0, .null, [])) (y_s := (8, [some (.ref _), some (.ref _), none], [], _)) rfl (u_ rfl) ?_
  refine w_t (pc := 8) (e_s := (3, 1, 0, 0, 0, .null, [])) (y_s := (9, [some (.ref _), some (.ref _), none], [.ref _], _)) rfl (u_ rfl) ?_
  refine w20r (pc := 9) (len_s := 3) (q_s := 40) rfl (krq hk rfl) ?_
  refine w_t (pc := 12) (e_s := (3, 1, 1, 0, 0, .null, [])) (y_s := (13, [some (.ref _), some (.ref _), none], [.ref _, .ref _], _)) rfl (u_ rfl) ?_
  refine wcI (pc := 13) (len_s := 3) rfl rfl (l := [some (.ref _), some (.ref _), none]) rfl (wmI t_s (fun v2 h2 hk t_s => ?_))
  replace t_s := t_s hk
  refine w_t (pc := 16) (e_s := (4, 1, 2, 0, 0, .null, [])) (y_s := (17, [some (.ref _), some (.ref _), some (.int _)], [], _)) rfl (u_ rfl) ?_
  refine w_t (pc := 17) (e_s := (3, 1, 0, 0, 0, .null, [])) (y_s := (18, [some (.ref _), some (.ref _), some (.int _)], [.ref _], _)) rfl (u_ rfl) ?_
  refine w20r (pc := 18) (len_s := 3) (q_s := 40) rfl (krq hk rfl) ?_
  refine w_t (pc := 21) (e_s := (0, 1, 0, 0, 0, .int 0, [])) (y_s := (22, [some (.ref _), some (.ref _), some (.int _)], [.int _, .ref _], _)) rfl (u_ rfl) ?_
  refine w21 (pc := 22) (len_s := 3) rfl ?_
  refine w_t (pc := 25) (e_s := (1, 1, 2, 0, 0, .null, [])) (y_s := (26, [some (.ref _), some (.ref _), some (.int _)], [.int _], _)) rfl (u_ rfl) ?_
  refine w_t (pc := 26) (e_s := (0, 1, 0, 0, 0, .int (-1), [])) (y_s := (27, [some (.ref _), some (.ref _), some (.int _)], [.int _, .int _], _)) rfl (u_ rfl) ?_
  refine wi0 (pc := 27) (len_s := 3) (Y := -1) rfl rfl (by decide) (fun c3_s => ?_) (fun c3_s => ?_)
  · replace t_s := t_s.1 c3_s
    refine w_t (pc := 35) (e_s := (3, 1, 0, 0, 0, .null, [])) (y_s := (36, [some (.ref _), some (.ref _), some (.int _)], [.ref _], _)) rfl (u_ rfl) ?_
    refine w20r (pc := 36) (len_s := 3) (q_s := 7) rfl (krq hk rfl) ?_
    refine w_t (pc := 39) (e_s := (3, 1, 0, 0, 0, .null, [])) (y_s := (40, [some (.ref _), some (.ref _), some (.int _)], [.ref _, .ref _], _)) rfl (u_ rfl) ?_
    refine w20r (pc := 40) (len_s := 3) (q_s := 7) rfl (krq hk rfl) ?_
    obtain ⟨q4_s, r4, m4_s⟩ := krm hk (o := 7) (b_s := 9) rfl
    replace t_s := t_s q4_s r4 m4_s
    refine w20r (pc := 43) (len_s := 3) (q_s := q4_s) rfl r4 ?_
    refine w21r (pc := 46) (len_s := 3) rfl ?_
    replace hk := hkr10 hk m4_s
    refine w_t (pc := 49) (e_s := (3, 1, 0, 0, 0, .null, [])) (y_s := (50, [some (.ref _), some (.ref _), some (.int _)], [.ref _], _)) rfl (u_ rfl) ?_
    refine w20r (pc := 50) (len_s := 3) (q_s := 7) rfl (krq hk rfl) ?_
    refine w_t (pc := 53) (e_s := (3, 1, 1, 0, 0, .null, [])) (y_s := (54, [some (.ref _), some (.ref _), some (.int _)], [.ref _, .ref _], _)) rfl (u_ rfl) ?_
    refine w21r (pc := 54) (len_s := 3) rfl ?_
    replace hk := hkr9 hk m1_s
    refine w_t (pc := 57) (e_s := (0, 1, 0, 0, 0, .int 1, [])) (y_s := (58, [some (.ref _), some (.ref _), some (.int _)], [.int _], _)) rfl (u_ rfl) ?_
    exact wrI (pc := 58) (len_s := 1) rfl hk t_s
  · replace t_s := t_s.2 c3_s
    refine w_t (pc := 30) (e_s := (0, 2, 0, 0, 0, .int (-100), [])) (y_s := (32, [some (.ref _), some (.ref _), some (.int _)], [.int _], _)) rfl (u_ rfl) ?_
    refine w_t (pc := 32) (e_s := (1, 1, 2, 0, 0, .null, [])) (y_s := (33, [some (.ref _), some (.ref _), some (.int _)], [.int _, .int _], _)) rfl (u_ rfl) ?_
    refine w_t (pc := 33) (e_s := (7, 1, 0, 1, 0, .null, [])) (y_s := (34, [some (.ref _), some (.ref _), some (.int _)], [.int (_ - _)], _)) rfl (u_ rfl) ?_
    exact wrI (pc := 34) (len_s := 1) rfl hk t_s
/-- ColdShodModel.byteAt()I, from 0 on -/
theorem sg_166_0 {F_s : Nat}  {h_s : zH} {K_s : Int32 → zH → Prop} (hk : hKn h_s) (t_s : ((h_s.2.1 102 16).toInt < (h_s.2.1 102 17).toInt → (((h_s.2.1 102 15).toInt < 0 → (zix (h_s.2.1 102 16) < 120 → K_s (h_s.2.1 109 (zix (h_s.2.1 102 16))) h_s)) ∧ (¬ (h_s.2.1 102 15).toInt < 0 → (zix ((h_s.2.1 102 15) + (h_s.2.1 102 16)) < 120 → K_s (h_s.2.1 110 (zix ((h_s.2.1 102 15) + (h_s.2.1 102 16)))) h_s)))) ∧ (¬ (h_s.2.1 102 16).toInt < (h_s.2.1 102 17).toInt → K_s 0 h_s)) : wF (F_s + 1) 166 (0, [some (.ref 102)], [], h_s) (gI K_s) := by
  refine w_0 (pc := 0) (e_s := (3, 1, 0, 0, 0, .null, [])) (y_s := (1, [some (.ref _)], [.ref _], _)) rfl (u_ rfl) ?_
  refine w20 (pc := 1) (len_s := 3) rfl ?_
  refine w_t (pc := 4) (e_s := (3, 1, 0, 0, 0, .null, [])) (y_s := (5, [some (.ref _)], [.ref _, .int _], _)) rfl (u_ rfl) ?_
  refine w20 (pc := 5) (len_s := 3) rfl ?_
  refine wi3 (pc := 8) (len_s := 3) rfl rfl rfl (fun c1_s => ?_) (fun c1_s => ?_)
  · replace t_s := t_s.1 c1_s
    refine w_t (pc := 11) (e_s := (3, 1, 0, 0, 0, .null, [])) (y_s := (12, [some (.ref _)], [.ref _], _)) rfl (u_ rfl) ?_
    refine w20 (pc := 12) (len_s := 3) rfl ?_
    refine wq3 (pc := 15) (len_s := 3) rfl rfl (fun c2_s => ?_) (fun c2_s => ?_)
    · replace t_s := t_s.1 c2_s
      refine w_t (pc := 18) (e_s := (3, 1, 0, 0, 0, .null, [])) (y_s := (19, [some (.ref _)], [.ref _], _)) rfl (u_ rfl) ?_
      refine w20r (pc := 19) (len_s := 3) (q_s := 109) rfl (krq hk rfl) ?_
      refine w_t (pc := 22) (e_s := (3, 1, 0, 0, 0, .null, [])) (y_s := (23, [some (.ref _)], [.ref _, .ref _], _)) rfl (u_ rfl) ?_
      refine w20 (pc := 23) (len_s := 3) rfl ?_
      refine w22 (pc := 26) (len_s := 1) rfl (hk.1 109 0 120 rfl rfl) (fun c3_s => ?_)
      replace t_s := t_s c3_s
      refine w_t (pc := 27) (e_s := (17, 3, 48, 0, 0, .null, [])) (y_s := (48, [some (.ref _)], [.int _], _)) rfl (u_ rfl) ?_
      exact wrI (pc := 48) (len_s := 1) rfl hk t_s
    · replace t_s := t_s.2 c2_s
      refine w_t (pc := 30) (e_s := (3, 1, 0, 0, 0, .null, [])) (y_s := (31, [some (.ref _)], [.ref _], _)) rfl (u_ rfl) ?_
      refine w20r (pc := 31) (len_s := 3) (q_s := 110) rfl (krq hk rfl) ?_
      refine w_t (pc := 34) (e_s := (3, 1, 0, 0, 0, .null, [])) (y_s := (35, [some (.ref _)], [.ref _, .ref _], _)) rfl (u_ rfl) ?_
      refine w20 (pc := 35) (len_s := 3) rfl ?_
      refine w_t (pc := 38) (e_s := (3, 1, 0, 0, 0, .null, [])) (y_s := (39, [some (.ref _)], [.ref _, .int _, .ref _], _)) rfl (u_ rfl) ?_
      refine w20 (pc := 39) (len_s := 3) rfl ?_
      refine w_t (pc := 42) (e_s := (7, 1, 0, 0, 0, .null, [])) (y_s := (43, [some (.ref _)], [.int (_ + _), .ref _], _)) rfl (u_ rfl) ?_
      refine w22 (pc := 43) (len_s := 1) rfl (hk.1 110 0 120 rfl rfl) (fun c4_s => ?_)
      replace t_s := t_s c4_s
      refine w_t (pc := 44) (e_s := (17, 3, 48, 0, 0, .null, [])) (y_s := (48, [some (.ref _)], [.int _], _)) rfl (u_ rfl) ?_
      exact wrI (pc := 48) (len_s := 1) rfl hk t_s
  · replace t_s := t_s.2 c1_s
    refine w_t (pc := 47) (e_s := (0, 1, 0, 0, 0, .int 0, [])) (y_s := (48, [some (.ref _)], [.int _], _)) rfl (u_ rfl) ?_
    exact wrI (pc := 48) (len_s := 1) rfl hk t_s
/-- ColdShodModel.wrong()I, from 0 on -/
theorem sg_167_0 {F_s : Nat}  {h_s : zH} {K_s : Int32 → zH → Prop} (hk : hKn h_s) (t_s : ((h_s.2.1 102 18).toInt < 0 → K_s 0 (h_s.1, zup h_s.2.1 102 18 (h_s.2.1 102 16), h_s.2.2.1, h_s.2.2.2)) ∧ (¬ (h_s.2.1 102 18).toInt < 0 → K_s 0 (h_s.1, zup h_s.2.1 102 18 (h_s.2.1 102 18), h_s.2.2.1, h_s.2.2.2))) : wF (F_s + 1) 167 (0, [some (.ref 102)], [], h_s) (gI K_s) := by
  refine w_0 (pc := 0) (e_s := (3, 1, 0, 0, 0, .null, [])) (y_s := (1, [some (.ref _)], [.ref _], _)) rfl (u_ rfl) ?_
  refine w_t (pc := 1) (e_s := (3, 1, 0, 0, 0, .null, [])) (y_s := (2, [some (.ref _)], [.ref _, .ref _], _)) rfl (u_ rfl) ?_
  refine w20 (pc := 2) (len_s := 3) rfl ?_
  refine wq3 (pc := 5) (len_s := 3) rfl rfl (fun c1_s => ?_) (fun c1_s => ?_)
  · replace t_s := t_s.1 c1_s
    refine w_t (pc := 8) (e_s := (3, 1, 0, 0, 0, .null, [])) (y_s := (9, [some (.ref _)], [.ref _, .ref _], _)) rfl (u_ rfl) ?_
    refine w20 (pc := 9) (len_s := 3) rfl ?_
    refine w_t (pc := 12) (e_s := (17, 3, 19, 0, 0, .null, [])) (y_s := (19, [some (.ref _)], [.int _, .ref _], _)) rfl (u_ rfl) ?_
    refine w21 (pc := 19) (len_s := 3) rfl ?_
    refine w_t (pc := 22) (e_s := (0, 1, 0, 0, 0, .int 0, [])) (y_s := (23, [some (.ref _)], [.int _], _)) rfl (u_ rfl) ?_
    exact wrI (pc := 23) (len_s := 1) rfl hk t_s
  · replace t_s := t_s.2 c1_s
    refine w_t (pc := 15) (e_s := (3, 1, 0, 0, 0, .null, [])) (y_s := (16, [some (.ref _)], [.ref _, .ref _], _)) rfl (u_ rfl) ?_
    refine w20 (pc := 16) (len_s := 3) rfl ?_
    refine w21 (pc := 19) (len_s := 3) rfl ?_
    refine w_t (pc := 22) (e_s := (0, 1, 0, 0, 0, .int 0, [])) (y_s := (23, [some (.ref _)], [.int _], _)) rfl (u_ rfl) ?_
    exact wrI (pc := 23) (len_s := 1) rfl hk t_s
/-- ColdShodModel.takes(I)Z, from 0 on -/
theorem sg_168_0 {F_s : Nat} {x1_s : Int32} {h_s : zH} {K_s : Int32 → zH → Prop} (hk : hKn h_s) (t_s : ((h_s.2.1 102 18).toInt < 0 → wF F_s 166 (0, [some (.ref 102)], [], h_s) (gI (fun v2 h2 => hKn h2 → (v2.toInt = x1_s.toInt → K_s 1 (h2.1, zup h2.2.1 102 16 ((h2.2.1 102 16) + 1), h2.2.2.1, h2.2.2.2)) ∧ (¬ v2.toInt = x1_s.toInt → K_s 0 h2)))) ∧ (¬ (h_s.2.1 102 18).toInt < 0 → K_s 0 h_s)) : wF (F_s + 1) 168 (0, [some (.ref 102), some (.int x1_s)], [], h_s) (gI K_s) := by
  refine w_0 (pc := 0) (e_s := (3, 1, 0, 0, 0, .null, [])) (y_s := (1, [some (.ref _), some (.int _)], [.ref _], _)) rfl (u_ rfl) ?_
  refine w20 (pc := 1) (len_s := 3) rfl ?_
  refine wq3 (pc := 4) (len_s := 3) rfl rfl (fun c1_s => ?_) (fun c1_s => ?_)
  · replace t_s := t_s.1 c1_s
    refine w_t (pc := 7) (e_s := (3, 1, 0, 0, 0, .null, [])) (y_s := (8, [some (.ref _), some (.int _)], [.ref _], _)) rfl (u_ rfl) ?_
    refine wcI (pc := 8) (len_s := 3) rfl rfl (l := [some (.ref _)]) rfl (wmI t_s (fun v2 h2 hk t_s => ?_))
    replace t_s := t_s hk
    refine w_t (pc := 11) (e_s := (1, 1, 1, 0, 0, .null, [])) (y_s := (12, [some (.ref _), some (.int _)], [.int _, .int _], _)) rfl (u_ rfl) ?_
    refine wi0 (pc := 12) (len_s := 3) rfl rfl rfl (fun c3_s => ?_) (fun c3_s => ?_)
    · replace t_s := t_s.1 c3_s
      refine w_t (pc := 17) (e_s := (3, 1, 0, 0, 0, .null, [])) (y_s := (18, [some (.ref _), some (.int _)], [.ref _], _)) rfl (u_ rfl) ?_
      refine w_t (pc := 18) (e_s := (39, 1, 0, 0, 0, .null, [])) (y_s := (19, [some (.ref _), some (.int _)], [.ref _, .ref _], _)) rfl (u_ rfl) ?_
      refine w20 (pc := 19) (len_s := 3) rfl ?_
      refine w_t (pc := 22) (e_s := (0, 1, 0, 0, 0, .int 1, [])) (y_s := (23, [some (.ref _), some (.int _)], [.int _, .int _, .ref _], _)) rfl (u_ rfl) ?_
      refine w_t (pc := 23) (e_s := (7, 1, 0, 0, 0, .null, [])) (y_s := (24, [some (.ref _), some (.int _)], [.int (_ + _), .ref _], _)) rfl (u_ rfl) ?_
      refine w21 (pc := 24) (len_s := 3) rfl ?_
      refine w_t (pc := 27) (e_s := (0, 1, 0, 0, 0, .int 1, [])) (y_s := (28, [some (.ref _), some (.int _)], [.int _], _)) rfl (u_ rfl) ?_
      exact wrI (pc := 28) (len_s := 1) rfl hk t_s
    · replace t_s := t_s.2 c3_s
      refine w_t (pc := 15) (e_s := (0, 1, 0, 0, 0, .int 0, [])) (y_s := (16, [some (.ref _), some (.int _)], [.int _], _)) rfl (u_ rfl) ?_
      exact wrI (pc := 16) (len_s := 1) rfl hk t_s
  · replace t_s := t_s.2 c1_s
    refine w_t (pc := 15) (e_s := (0, 1, 0, 0, 0, .int 0, [])) (y_s := (16, [some (.ref _), some (.int _)], [.int _], _)) rfl (u_ rfl) ?_
    exact wrI (pc := 16) (len_s := 1) rfl hk t_s
/-- ColdShodModel.nameOf(I)I, from 0 on -/
theorem sg_174_0 {F_s : Nat} {x1_s : Int32} {h_s : zH} {K_s : Int32 → zH → Prop} (hk : hKn h_s) (t_s : (x1_s.toInt = 102 → K_s 3 h_s) ∧ (¬ x1_s.toInt = 102 → (x1_s.toInt = 103 → K_s (-1) h_s) ∧ (¬ x1_s.toInt = 103 → (x1_s.toInt = 104 → K_s 2 h_s) ∧ (¬ x1_s.toInt = 104 → (x1_s.toInt = 105 → K_s (-1) h_s) ∧ (¬ x1_s.toInt = 105 → (x1_s.toInt = 106 → K_s (-1) h_s) ∧ (¬ x1_s.toInt = 106 → (x1_s.toInt = 107 → K_s 5 h_s) ∧ (¬ x1_s.toInt = 107 → (x1_s.toInt = 108 → K_s (-1) h_s) ∧ (¬ x1_s.toInt = 108 → (x1_s.toInt = 109 → K_s 0 h_s) ∧ (¬ x1_s.toInt = 109 → (x1_s.toInt = 110 → K_s (-1) h_s) ∧ (¬ x1_s.toInt = 110 → (x1_s.toInt = 111 → K_s (-1) h_s) ∧ (¬ x1_s.toInt = 111 → (x1_s.toInt = 112 → K_s (-1) h_s) ∧ (¬ x1_s.toInt = 112 → (x1_s.toInt = 113 → K_s (-1) h_s) ∧ (¬ x1_s.toInt = 113 → (x1_s.toInt = 114 → K_s (-1) h_s) ∧ (¬ x1_s.toInt = 114 → (x1_s.toInt = 115 → K_s 4 h_s) ∧ (¬ x1_s.toInt = 115 → (x1_s.toInt = 116 → K_s (-1) h_s) ∧ (¬ x1_s.toInt = 116 → (x1_s.toInt = 117 → K_s (-1) h_s) ∧ (¬ x1_s.toInt = 117 → (x1_s.toInt = 118 → K_s (-1) h_s) ∧ (¬ x1_s.toInt = 118 → (x1_s.toInt = 119 → K_s 1 h_s) ∧ (¬ x1_s.toInt = 119 → K_s (-1) h_s))))))))))))))))))) : wF (F_s + 1) 174 (0, [some (.int x1_s)], [], h_s) (gI K_s) := by
  refine w_0 (pc := 0) (e_s := (1, 1, 0, 0, 0, .null, [])) (y_s := (1, [some (.int _)], [.int _], _)) rfl (u_ rfl) ?_
  refine wsw (pc := 1) (len_s := 87) rfl ?_
  refine wsc (X_s := 102) rfl (by decide) (fun c1_s => ?_) (fun c1_s => ?_)
  · replace t_s := t_s.1 c1_s
    refine w_t (pc := 94) (e_s := (0, 1, 0, 0, 0, .int 3, [])) (y_s := (95, [some (.int _)], [.int _], _)) rfl (u_ rfl) ?_
    exact wrI (pc := 95) (len_s := 1) rfl hk t_s
  · replace t_s := t_s.2 c1_s
    refine wsc (X_s := 103) rfl (by decide) (fun c2_s => ?_) (fun c2_s => ?_)
    · replace t_s := t_s.1 c2_s
      refine w_t (pc := 100) (e_s := (0, 1, 0, 0, 0, .int (-1), [])) (y_s := (101, [some (.int _)], [.int _], _)) rfl (u_ rfl) ?_
      exact wrI (pc := 101) (len_s := 1) rfl hk t_s
    · replace t_s := t_s.2 c2_s
      refine wsc (X_s := 104) rfl (by decide) (fun c3_s => ?_) (fun c3_s => ?_)
      · replace t_s := t_s.1 c3_s
        refine w_t (pc := 92) (e_s := (0, 1, 0, 0, 0, .int 2, [])) (y_s := (93, [some (.int _)], [.int _], _)) rfl (u_ rfl) ?_
        exact wrI (pc := 93) (len_s := 1) rfl hk t_s
      · replace t_s := t_s.2 c3_s
        refine wsc (X_s := 105) rfl (by decide) (fun c4_s => ?_) (fun c4_s => ?_)
        · replace t_s := t_s.1 c4_s
          refine w_t (pc := 100) (e_s := (0, 1, 0, 0, 0, .int (-1), [])) (y_s := (101, [some (.int _)], [.int _], _)) rfl (u_ rfl) ?_
          exact wrI (pc := 101) (len_s := 1) rfl hk t_s
        · replace t_s := t_s.2 c4_s
          refine wsc (X_s := 106) rfl (by decide) (fun c5_s => ?_) (fun c5_s => ?_)
          · replace t_s := t_s.1 c5_s
            refine w_t (pc := 100) (e_s := (0, 1, 0, 0, 0, .int (-1), [])) (y_s := (101, [some (.int _)], [.int _], _)) rfl (u_ rfl) ?_
            exact wrI (pc := 101) (len_s := 1) rfl hk t_s
          · replace t_s := t_s.2 c5_s
            refine wsc (X_s := 107) rfl (by decide) (fun c6_s => ?_) (fun c6_s => ?_)
            · replace t_s := t_s.1 c6_s
              refine w_t (pc := 98) (e_s := (0, 1, 0, 0, 0, .int 5, [])) (y_s := (99, [some (.int _)], [.int _], _)) rfl (u_ rfl) ?_
              exact wrI (pc := 99) (len_s := 1) rfl hk t_s
            · replace t_s := t_s.2 c6_s
              refine wsc (X_s := 108) rfl (by decide) (fun c7_s => ?_) (fun c7_s => ?_)
              · replace t_s := t_s.1 c7_s
                refine w_t (pc := 100) (e_s := (0, 1, 0, 0, 0, .int (-1), [])) (y_s := (101, [some (.int _)], [.int _], _)) rfl (u_ rfl) ?_
                exact wrI (pc := 101) (len_s := 1) rfl hk t_s
              · replace t_s := t_s.2 c7_s
                refine wsc (X_s := 109) rfl (by decide) (fun c8_s => ?_) (fun c8_s => ?_)
                · replace t_s := t_s.1 c8_s
                  refine w_t (pc := 88) (e_s := (0, 1, 0, 0, 0, .int 0, [])) (y_s := (89, [some (.int _)], [.int _], _)) rfl (u_ rfl) ?_
                  exact wrI (pc := 89) (len_s := 1) rfl hk t_s
                · replace t_s := t_s.2 c8_s
                  refine wsc (X_s := 110) rfl (by decide) (fun c9_s => ?_) (fun c9_s => ?_)
                  · replace t_s := t_s.1 c9_s
                    refine w_t (pc := 100) (e_s := (0, 1, 0, 0, 0, .int (-1), [])) (y_s := (101, [some (.int _)], [.int _], _)) rfl (u_ rfl) ?_
                    exact wrI (pc := 101) (len_s := 1) rfl hk t_s
                  · replace t_s := t_s.2 c9_s
                    refine wsc (X_s := 111) rfl (by decide) (fun c10_s => ?_) (fun c10_s => ?_)
                    · replace t_s := t_s.1 c10_s
                      refine w_t (pc := 100) (e_s := (0, 1, 0, 0, 0, .int (-1), [])) (y_s := (101, [some (.int _)], [.int _], _)) rfl (u_ rfl) ?_
                      exact wrI (pc := 101) (len_s := 1) rfl hk t_s
                    · replace t_s := t_s.2 c10_s
                      refine wsc (X_s := 112) rfl (by decide) (fun c11 => ?_) (fun c11 => ?_)
                      · replace t_s := t_s.1 c11
                        refine w_t (pc := 100) (e_s := (0, 1, 0, 0, 0, .int (-1), [])) (y_s := (101, [some (.int _)], [.int _], _)) rfl (u_ rfl) ?_
                        exact wrI (pc := 101) (len_s := 1) rfl hk t_s
                      · replace t_s := t_s.2 c11
                        refine wsc (X_s := 113) rfl (by decide) (fun c12_s => ?_) (fun c12_s => ?_)
                        · replace t_s := t_s.1 c12_s
                          refine w_t (pc := 100) (e_s := (0, 1, 0, 0, 0, .int (-1), [])) (y_s := (101, [some (.int _)], [.int _], _)) rfl (u_ rfl) ?_
                          exact wrI (pc := 101) (len_s := 1) rfl hk t_s
                        · replace t_s := t_s.2 c12_s
                          refine wsc (X_s := 114) rfl (by decide) (fun c13_s => ?_) (fun c13_s => ?_)
                          · replace t_s := t_s.1 c13_s
                            refine w_t (pc := 100) (e_s := (0, 1, 0, 0, 0, .int (-1), [])) (y_s := (101, [some (.int _)], [.int _], _)) rfl (u_ rfl) ?_
                            exact wrI (pc := 101) (len_s := 1) rfl hk t_s
                          · replace t_s := t_s.2 c13_s
                            refine wsc (X_s := 115) rfl (by decide) (fun c14_s => ?_) (fun c14_s => ?_)
                            · replace t_s := t_s.1 c14_s
                              refine w_t (pc := 96) (e_s := (0, 1, 0, 0, 0, .int 4, [])) (y_s := (97, [some (.int _)], [.int _], _)) rfl (u_ rfl) ?_
                              exact wrI (pc := 97) (len_s := 1) rfl hk t_s
                            · replace t_s := t_s.2 c14_s
                              refine wsc (X_s := 116) rfl (by decide) (fun c15_s => ?_) (fun c15_s => ?_)
                              · replace t_s := t_s.1 c15_s
                                refine w_t (pc := 100) (e_s := (0, 1, 0, 0, 0, .int (-1), [])) (y_s := (101, [some (.int _)], [.int _], _)) rfl (u_ rfl) ?_
                                exact wrI (pc := 101) (len_s := 1) rfl hk t_s
                              · replace t_s := t_s.2 c15_s
                                refine wsc (X_s := 117) rfl (by decide) (fun c16 => ?_) (fun c16 => ?_)
                                · replace t_s := t_s.1 c16
                                  refine w_t (pc := 100) (e_s := (0, 1, 0, 0, 0, .int (-1), [])) (y_s := (101, [some (.int _)], [.int _], _)) rfl (u_ rfl) ?_
                                  exact wrI (pc := 101) (len_s := 1) rfl hk t_s
                                · replace t_s := t_s.2 c16
                                  refine wsc (X_s := 118) rfl (by decide) (fun c17 => ?_) (fun c17 => ?_)
                                  · replace t_s := t_s.1 c17
                                    refine w_t (pc := 100) (e_s := (0, 1, 0, 0, 0, .int (-1), [])) (y_s := (101, [some (.int _)], [.int _], _)) rfl (u_ rfl) ?_
                                    exact wrI (pc := 101) (len_s := 1) rfl hk t_s
                                  · replace t_s := t_s.2 c17
                                    refine wsc (X_s := 119) rfl (by decide) (fun c18_s => ?_) (fun c18_s => ?_)
                                    · replace t_s := t_s.1 c18_s
                                      refine w_t (pc := 90) (e_s := (0, 1, 0, 0, 0, .int 1, [])) (y_s := (91, [some (.int _)], [.int _], _)) rfl (u_ rfl) ?_
                                      exact wrI (pc := 91) (len_s := 1) rfl hk t_s
                                    · replace t_s := t_s.2 c18_s
                                      show wF _ _ (100, _, _, _) _
                                      refine w_t (pc := 100) (e_s := (0, 1, 0, 0, 0, .int (-1), [])) (y_s := (101, [some (.int _)], [.int _], _)) rfl (u_ rfl) ?_
                                      exact wrI (pc := 101) (len_s := 1) rfl hk t_s
/-- ColdShodModel.feed(I)I, from 0 on -/
theorem sg_165_0 {F_s : Nat} {x1_s : Int32} {h_s : zH} {K_s : Int32 → zH → Prop} (hk : hKn h_s) (t_s : (x1_s.toInt < 0 → K_s (-1) h_s) ∧ (¬ x1_s.toInt < 0 → ((255 < x1_s.toInt → K_s (-1) h_s) ∧ (¬ 255 < x1_s.toInt → (((h_s.2.1 102 12).toInt = 120 → K_s (-3) h_s) ∧ (¬ (h_s.2.1 102 12).toInt = 120 → (zix (h_s.2.1 102 12) < 120 → K_s ((h_s.2.1 102 12) + 1) (h_s.1, zup (zup h_s.2.1 109 (zix (h_s.2.1 102 12)) x1_s) 102 12 ((h_s.2.1 102 12) + 1), h_s.2.2.1, h_s.2.2.2)))))))) : wF (F_s + 1) 165 (0, [some (.ref 102), some (.int x1_s)], [], h_s) (gI K_s) := by
  refine w_0 (pc := 0) (e_s := (1, 1, 1, 0, 0, .null, [])) (y_s := (1, [some (.ref _), some (.int _)], [.int _], _)) rfl (u_ rfl) ?_
  refine w_t (pc := 1) (e_s := (10, 1, 0, 0, 0, .null, [])) (y_s := (2, [some (.ref _), some (.int _)], [.long (Int32.toInt64 _)], _)) rfl (u_ rfl) ?_
  refine w_t (pc := 2) (e_s := (0, 1, 0, 0, 0, .long 0, [])) (y_s := (3, [some (.ref _), some (.int _)], [.long _, .long _], _)) rfl (u_ rfl) ?_
  refine w_t (pc := 3) (e_s := (0, 3, 0, 0, 0, .long 255, [(0, 1083)])) (y_s := (6, [some (.ref _), some (.int _)], [.long _, .long _, .long _], _)) rfl (u_ rfl) ?_
  refine wcI (pc := 6) (len_s := 3) rfl rfl (l := [some (.long _), none, some (.long _), none, some (.long _), none]) rfl ?_
  refine w_t (pc := 0) (e_s := (2, 1, 0, 0, 0, .null, [])) (y_s := (1, [some (.long _), none, some (.long _), none, some (.long _), none], [.long _], _)) rfl (u_ rfl) ?_
  refine w_t (pc := 1) (e_s := (2, 1, 2, 0, 0, .null, [])) (y_s := (2, [some (.long _), none, some (.long _), none, some (.long _), none], [.long _, .long _], _)) rfl (u_ rfl) ?_
  refine w_t (pc := 2) (e_s := (14, 1, 0, 0, 0, .null, [])) (y_s := (3, [some (.long _), none, some (.long _), none, some (.long _), none], [.int (lg_cmp _ _)], _)) rfl (u_ rfl) ?_
  refine wl2 (pc := 3) (len_s := 3) (Y := 0) rfl (Int32.toInt_toInt64 _) (by decide) (fun c1_s => ?_) (fun c1_s => ?_)
  · replace t_s := t_s.1 c1_s
    refine w_t (pc := 17) (e_s := (0, 1, 0, 0, 0, .int 0, [])) (y_s := (18, [some (.long _), none, some (.long _), none, some (.long _), none], [.int _], _)) rfl (u_ rfl) ?_
    refine wrI (pc := 18) (len_s := 1) rfl hk ?_
    show wF _ 165 (9, [some (.ref _), some (.int _)], [.int _], _) _
    refine w_t (pc := 9) (e_s := (15, 3, 14, 1, 0, .null, [])) (y_s := (12, [some (.ref _), some (.int _)], [], _)) rfl (u_ rfl) ?_
    refine w_t (pc := 12) (e_s := (0, 1, 0, 0, 0, .int (-1), [])) (y_s := (13, [some (.ref _), some (.int _)], [.int _], _)) rfl (u_ rfl) ?_
    exact wrI (pc := 13) (len_s := 1) rfl hk t_s
  · replace t_s := t_s.2 c1_s
    refine w_t (pc := 6) (e_s := (2, 1, 0, 0, 0, .null, [])) (y_s := (7, [some (.long _), none, some (.long _), none, some (.long _), none], [.long _], _)) rfl (u_ rfl) ?_
    refine w_t (pc := 7) (e_s := (2, 2, 4, 0, 0, .null, [])) (y_s := (9, [some (.long _), none, some (.long _), none, some (.long _), none], [.long _, .long _], _)) rfl (u_ rfl) ?_
    refine w_t (pc := 9) (e_s := (14, 1, 0, 0, 0, .null, [])) (y_s := (10, [some (.long _), none, some (.long _), none, some (.long _), none], [.int (lg_cmp _ _)], _)) rfl (u_ rfl) ?_
    refine wl4 (pc := 10) (len_s := 3) (Y := 255) rfl (Int32.toInt_toInt64 _) (by decide) (fun c2_s => ?_) (fun c2_s => ?_)
    · replace t_s := t_s.1 c2_s
      refine w_t (pc := 17) (e_s := (0, 1, 0, 0, 0, .int 0, [])) (y_s := (18, [some (.long _), none, some (.long _), none, some (.long _), none], [.int _], _)) rfl (u_ rfl) ?_
      refine wrI (pc := 18) (len_s := 1) rfl hk ?_
      show wF _ 165 (9, [some (.ref _), some (.int _)], [.int _], _) _
      refine w_t (pc := 9) (e_s := (15, 3, 14, 1, 0, .null, [])) (y_s := (12, [some (.ref _), some (.int _)], [], _)) rfl (u_ rfl) ?_
      refine w_t (pc := 12) (e_s := (0, 1, 0, 0, 0, .int (-1), [])) (y_s := (13, [some (.ref _), some (.int _)], [.int _], _)) rfl (u_ rfl) ?_
      exact wrI (pc := 13) (len_s := 1) rfl hk t_s
    · replace t_s := t_s.2 c2_s
      refine w_t (pc := 13) (e_s := (0, 1, 0, 0, 0, .int 1, [])) (y_s := (14, [some (.long _), none, some (.long _), none, some (.long _), none], [.int _], _)) rfl (u_ rfl) ?_
      refine w_t (pc := 14) (e_s := (17, 3, 18, 0, 0, .null, [])) (y_s := (18, [some (.long _), none, some (.long _), none, some (.long _), none], [.int _], _)) rfl (u_ rfl) ?_
      refine wrI (pc := 18) (len_s := 1) rfl hk ?_
      show wF _ 165 (9, [some (.ref _), some (.int _)], [.int _], _) _
      refine w_t (pc := 9) (e_s := (15, 3, 14, 1, 0, .null, [])) (y_s := (14, [some (.ref _), some (.int _)], [], _)) rfl (u_ rfl) ?_
      refine w_t (pc := 14) (e_s := (3, 1, 0, 0, 0, .null, [])) (y_s := (15, [some (.ref _), some (.int _)], [.ref _], _)) rfl (u_ rfl) ?_
      refine w20 (pc := 15) (len_s := 3) rfl ?_
      refine w_t (pc := 18) (e_s := (0, 2, 0, 0, 0, .int 120, [])) (y_s := (20, [some (.ref _), some (.int _)], [.int _, .int _], _)) rfl (u_ rfl) ?_
      refine wi1 (pc := 20) (len_s := 3) (Y := 120) rfl rfl (by decide) (fun c3_s => ?_) (fun c3_s => ?_)
      · replace t_s := t_s.1 c3_s
        refine w_t (pc := 23) (e_s := (0, 2, 0, 0, 0, .int (-3), [])) (y_s := (25, [some (.ref _), some (.int _)], [.int _], _)) rfl (u_ rfl) ?_
        exact wrI (pc := 25) (len_s := 1) rfl hk t_s
      · replace t_s := t_s.2 c3_s
        refine w_t (pc := 26) (e_s := (3, 1, 0, 0, 0, .null, [])) (y_s := (27, [some (.ref _), some (.int _)], [.ref _], _)) rfl (u_ rfl) ?_
        refine w20r (pc := 27) (len_s := 3) (q_s := 109) rfl (krq hk rfl) ?_
        refine w_t (pc := 30) (e_s := (3, 1, 0, 0, 0, .null, [])) (y_s := (31, [some (.ref _), some (.int _)], [.ref _, .ref _], _)) rfl (u_ rfl) ?_
        refine w20 (pc := 31) (len_s := 3) rfl ?_
        refine w_t (pc := 34) (e_s := (1, 1, 1, 0, 0, .null, [])) (y_s := (35, [some (.ref _), some (.int _)], [.int _, .int _, .ref _], _)) rfl (u_ rfl) ?_
        refine w25 (pc := 35) (len_s := 1) rfl (hk.1 109 0 120 rfl rfl) (fun c4_s => ?_)
        replace t_s := t_s c4_s
        refine w_t (pc := 36) (e_s := (3, 1, 0, 0, 0, .null, [])) (y_s := (37, [some (.ref _), some (.int _)], [.ref _], _)) rfl (u_ rfl) ?_
        refine w_t (pc := 37) (e_s := (39, 1, 0, 0, 0, .null, [])) (y_s := (38, [some (.ref _), some (.int _)], [.ref _, .ref _], _)) rfl (u_ rfl) ?_
        refine w20 (pc := 38) (len_s := 3) rfl ?_
        refine w_t (pc := 41) (e_s := (0, 1, 0, 0, 0, .int 1, [])) (y_s := (42, [some (.ref _), some (.int _)], [.int _, .int _, .ref _], _)) rfl (u_ rfl) ?_
        refine w_t (pc := 42) (e_s := (7, 1, 0, 0, 0, .null, [])) (y_s := (43, [some (.ref _), some (.int _)], [.int (_ + _), .ref _], _)) rfl (u_ rfl) ?_
        refine w21 (pc := 43) (len_s := 3) rfl ?_
        refine w_t (pc := 46) (e_s := (3, 1, 0, 0, 0, .null, [])) (y_s := (47, [some (.ref _), some (.int _)], [.ref _], _)) rfl (u_ rfl) ?_
        refine w20 (pc := 47) (len_s := 3) rfl ?_
        exact wrI (pc := 50) (len_s := 1) rfl hk t_s
/-- ColdShodModel.either()I, from 0 on -/
theorem sg_169_0 {F_s : Nat}  {h_s : zH} {K_s : Int32 → zH → Prop} (hk : hKn h_s) (t_s : wF F_s 170 (0, [some (.ref 102), none, none], [], h_s) (gI (fun v1_s h1 => hKn h1 → wF F_s 169 (5, [some (.ref 102), some (.int v1_s), none], [], h1) (gI K_s)))) : wF (F_s + 1) 169 (0, [some (.ref 102), none, none], [], h_s) (gI K_s) := by
  refine w_0 (pc := 0) (e_s := (3, 1, 0, 0, 0, .null, [])) (y_s := (1, [some (.ref _), none, none], [.ref _], _)) rfl (u_ rfl) ?_
  refine wcI (pc := 1) (len_s := 3) rfl rfl (l := [some (.ref _), none, none]) rfl (wmI t_s (fun v1_s h1 hk t_s => ?_))
  replace t_s := t_s hk
  refine w_t (pc := 4) (e_s := (4, 1, 1, 0, 0, .null, [])) (y_s := (5, [some (.ref _), some (.int _), none], [], _)) rfl (u_ rfl) ?_
  exact t_s
/-- ColdShodModel.either()I, from 5 on -/
theorem sg_169_5 {F_s : Nat} {x1_s : Int32} {l2 : Option Value} {h_s : zH} {K_s : Int32 → zH → Prop} (hk : hKn h_s) (t_s : wF F_s 168 (0, [some (.ref 102), some (.int 124)], [], h_s) (gI (fun v1_s h1 => hKn h1 → (v1_s.toInt = 0 → K_s x1_s h1) ∧ (¬ v1_s.toInt = 0 → wF F_s 170 (0, [some (.ref 102), none, none], [], h1) (gI (fun v3 h3 => hKn h3 → (x1_s.toInt = 0 → ((v3.toInt = 0 → wF F_s 169 (5, [some (.ref 102), some (.int 0), some (.int v3)], [], h3) (gI K_s)) ∧ (¬ v3.toInt = 0 → wF F_s 169 (5, [some (.ref 102), some (.int 1), some (.int v3)], [], h3) (gI K_s)))) ∧ (¬ x1_s.toInt = 0 → wF F_s 169 (5, [some (.ref 102), some (.int 1), some (.int v3)], [], h3) (gI K_s)))))))) : wF (F_s + 1) 169 (5, [some (.ref 102), some (.int x1_s), l2], [], h_s) (gI K_s) := by
  refine w_0 (pc := 5) (e_s := (3, 1, 0, 0, 0, .null, [])) (y_s := (6, [some (.ref _), some (.int _), _], [.ref _], _)) rfl (u_ rfl) ?_
  refine w_t (pc := 6) (e_s := (0, 2, 0, 0, 0, .int 124, [])) (y_s := (8, [some (.ref _), some (.int _), _], [.int _, .ref _], _)) rfl (u_ rfl) ?_
  refine wcI (pc := 8) (len_s := 3) rfl rfl (l := [some (.ref _), some (.int _)]) rfl (wmI t_s (fun v1_s h1 hk t_s => ?_))
  replace t_s := t_s hk
  refine wq0 (pc := 11) (len_s := 3) rfl rfl (fun c2_s => ?_) (fun c2_s => ?_)
  · replace t_s := t_s.1 c2_s
    refine w_t (pc := 36) (e_s := (1, 1, 1, 0, 0, .null, [])) (y_s := (37, [some (.ref _), some (.int _), _], [.int _], _)) rfl (u_ rfl) ?_
    exact wrI (pc := 37) (len_s := 1) rfl hk t_s
  · replace t_s := t_s.2 c2_s
    refine w_t (pc := 14) (e_s := (3, 1, 0, 0, 0, .null, [])) (y_s := (15, [some (.ref _), some (.int _), _], [.ref _], _)) rfl (u_ rfl) ?_
    refine wcI (pc := 15) (len_s := 3) rfl rfl (l := [some (.ref _), none, none]) rfl (wmI t_s (fun v3 h3 hk t_s => ?_))
    replace t_s := t_s hk
    refine w_t (pc := 18) (e_s := (4, 1, 2, 0, 0, .null, [])) (y_s := (19, [some (.ref _), some (.int _), some (.int _)], [], _)) rfl (u_ rfl) ?_
    refine w_t (pc := 19) (e_s := (1, 1, 1, 0, 0, .null, [])) (y_s := (20, [some (.ref _), some (.int _), some (.int _)], [.int _], _)) rfl (u_ rfl) ?_
    refine wq1 (pc := 20) (len_s := 3) rfl rfl (fun c4_s => ?_) (fun c4_s => ?_)
    · replace t_s := t_s.1 c4_s
      refine w_t (pc := 23) (e_s := (1, 1, 2, 0, 0, .null, [])) (y_s := (24, [some (.ref _), some (.int _), some (.int _)], [.int _], _)) rfl (u_ rfl) ?_
      refine wq0 (pc := 24) (len_s := 3) rfl rfl (fun c5_s => ?_) (fun c5_s => ?_)
      · replace t_s := t_s.1 c5_s
        refine w_t (pc := 31) (e_s := (0, 1, 0, 0, 0, .int 0, [])) (y_s := (32, [some (.ref _), some (.int _), some (.int _)], [.int _], _)) rfl (u_ rfl) ?_
        refine w_t (pc := 32) (e_s := (4, 1, 1, 0, 0, .null, [])) (y_s := (33, [some (.ref _), some (.int _), some (.int _)], [], _)) rfl (u_ rfl) ?_
        refine w_t (pc := 33) (e_s := (17, 3, 5, 0, 0, .null, [])) (y_s := (5, [some (.ref _), some (.int _), some (.int _)], [], _)) rfl (u_ rfl) ?_
        exact t_s
      · replace t_s := t_s.2 c5_s
        refine w_t (pc := 27) (e_s := (0, 1, 0, 0, 0, .int 1, [])) (y_s := (28, [some (.ref _), some (.int _), some (.int _)], [.int _], _)) rfl (u_ rfl) ?_
        refine w_t (pc := 28) (e_s := (17, 3, 32, 0, 0, .null, [])) (y_s := (32, [some (.ref _), some (.int _), some (.int _)], [.int _], _)) rfl (u_ rfl) ?_
        refine w_t (pc := 32) (e_s := (4, 1, 1, 0, 0, .null, [])) (y_s := (33, [some (.ref _), some (.int _), some (.int _)], [], _)) rfl (u_ rfl) ?_
        refine w_t (pc := 33) (e_s := (17, 3, 5, 0, 0, .null, [])) (y_s := (5, [some (.ref _), some (.int _), some (.int _)], [], _)) rfl (u_ rfl) ?_
        exact t_s
    · replace t_s := t_s.2 c4_s
      refine w_t (pc := 27) (e_s := (0, 1, 0, 0, 0, .int 1, [])) (y_s := (28, [some (.ref _), some (.int _), some (.int _)], [.int _], _)) rfl (u_ rfl) ?_
      refine w_t (pc := 28) (e_s := (17, 3, 32, 0, 0, .null, [])) (y_s := (32, [some (.ref _), some (.int _), some (.int _)], [.int _], _)) rfl (u_ rfl) ?_
      refine w_t (pc := 32) (e_s := (4, 1, 1, 0, 0, .null, [])) (y_s := (33, [some (.ref _), some (.int _), some (.int _)], [], _)) rfl (u_ rfl) ?_
      refine w_t (pc := 33) (e_s := (17, 3, 5, 0, 0, .null, [])) (y_s := (5, [some (.ref _), some (.int _), some (.int _)], [], _)) rfl (u_ rfl) ?_
      exact t_s
/-- ColdShodModel.both()I, from 0 on -/
theorem sg_170_0 {F_s : Nat}  {h_s : zH} {K_s : Int32 → zH → Prop} (hk : hKn h_s) (t_s : wF F_s 171 (0, [some (.ref 102), none, none, none], [], h_s) (gI (fun v1_s h1 => hKn h1 → wF F_s 170 (5, [some (.ref 102), some (.int v1_s), none], [], h1) (gI K_s)))) : wF (F_s + 1) 170 (0, [some (.ref 102), none, none], [], h_s) (gI K_s) := by
  refine w_0 (pc := 0) (e_s := (3, 1, 0, 0, 0, .null, [])) (y_s := (1, [some (.ref _), none, none], [.ref _], _)) rfl (u_ rfl) ?_
  refine wcI (pc := 1) (len_s := 3) rfl rfl (l := [some (.ref _), none, none, none]) rfl (wmI t_s (fun v1_s h1 hk t_s => ?_))
  replace t_s := t_s hk
  refine w_t (pc := 4) (e_s := (4, 1, 1, 0, 0, .null, [])) (y_s := (5, [some (.ref _), some (.int _), none], [], _)) rfl (u_ rfl) ?_
  exact t_s
/-- ColdShodModel.both()I, from 5 on -/
theorem sg_170_5 {F_s : Nat} {x1_s : Int32} {l2 : Option Value} {h_s : zH} {K_s : Int32 → zH → Prop} (hk : hKn h_s) (t_s : wF F_s 168 (0, [some (.ref 102), some (.int 38)], [], h_s) (gI (fun v1_s h1 => hKn h1 → (v1_s.toInt = 0 → K_s x1_s h1) ∧ (¬ v1_s.toInt = 0 → wF F_s 171 (0, [some (.ref 102), none, none, none], [], h1) (gI (fun v3 h3 => hKn h3 → (x1_s.toInt = 0 → wF F_s 170 (5, [some (.ref 102), some (.int 0), some (.int v3)], [], h3) (gI K_s)) ∧ (¬ x1_s.toInt = 0 → ((v3.toInt = 0 → wF F_s 170 (5, [some (.ref 102), some (.int 0), some (.int v3)], [], h3) (gI K_s)) ∧ (¬ v3.toInt = 0 → wF F_s 170 (5, [some (.ref 102), some (.int 1), some (.int v3)], [], h3) (gI K_s)))))))))) : wF (F_s + 1) 170 (5, [some (.ref 102), some (.int x1_s), l2], [], h_s) (gI K_s) := by
  refine w_0 (pc := 5) (e_s := (3, 1, 0, 0, 0, .null, [])) (y_s := (6, [some (.ref _), some (.int _), _], [.ref _], _)) rfl (u_ rfl) ?_
  refine w_t (pc := 6) (e_s := (0, 2, 0, 0, 0, .int 38, [])) (y_s := (8, [some (.ref _), some (.int _), _], [.int _, .ref _], _)) rfl (u_ rfl) ?_
  refine wcI (pc := 8) (len_s := 3) rfl rfl (l := [some (.ref _), some (.int _)]) rfl (wmI t_s (fun v1_s h1 hk t_s => ?_))
  replace t_s := t_s hk
  refine wq0 (pc := 11) (len_s := 3) rfl rfl (fun c2_s => ?_) (fun c2_s => ?_)
  · replace t_s := t_s.1 c2_s
    refine w_t (pc := 36) (e_s := (1, 1, 1, 0, 0, .null, [])) (y_s := (37, [some (.ref _), some (.int _), _], [.int _], _)) rfl (u_ rfl) ?_
    exact wrI (pc := 37) (len_s := 1) rfl hk t_s
  · replace t_s := t_s.2 c2_s
    refine w_t (pc := 14) (e_s := (3, 1, 0, 0, 0, .null, [])) (y_s := (15, [some (.ref _), some (.int _), _], [.ref _], _)) rfl (u_ rfl) ?_
    refine wcI (pc := 15) (len_s := 3) rfl rfl (l := [some (.ref _), none, none, none]) rfl (wmI t_s (fun v3 h3 hk t_s => ?_))
    replace t_s := t_s hk
    refine w_t (pc := 18) (e_s := (4, 1, 2, 0, 0, .null, [])) (y_s := (19, [some (.ref _), some (.int _), some (.int _)], [], _)) rfl (u_ rfl) ?_
    refine w_t (pc := 19) (e_s := (1, 1, 1, 0, 0, .null, [])) (y_s := (20, [some (.ref _), some (.int _), some (.int _)], [.int _], _)) rfl (u_ rfl) ?_
    refine wq0 (pc := 20) (len_s := 3) rfl rfl (fun c4_s => ?_) (fun c4_s => ?_)
    · replace t_s := t_s.1 c4_s
      refine w_t (pc := 31) (e_s := (0, 1, 0, 0, 0, .int 0, [])) (y_s := (32, [some (.ref _), some (.int _), some (.int _)], [.int _], _)) rfl (u_ rfl) ?_
      refine w_t (pc := 32) (e_s := (4, 1, 1, 0, 0, .null, [])) (y_s := (33, [some (.ref _), some (.int _), some (.int _)], [], _)) rfl (u_ rfl) ?_
      refine w_t (pc := 33) (e_s := (17, 3, 5, 0, 0, .null, [])) (y_s := (5, [some (.ref _), some (.int _), some (.int _)], [], _)) rfl (u_ rfl) ?_
      exact t_s
    · replace t_s := t_s.2 c4_s
      refine w_t (pc := 23) (e_s := (1, 1, 2, 0, 0, .null, [])) (y_s := (24, [some (.ref _), some (.int _), some (.int _)], [.int _], _)) rfl (u_ rfl) ?_
      refine wq0 (pc := 24) (len_s := 3) rfl rfl (fun c5_s => ?_) (fun c5_s => ?_)
      · replace t_s := t_s.1 c5_s
        refine w_t (pc := 31) (e_s := (0, 1, 0, 0, 0, .int 0, [])) (y_s := (32, [some (.ref _), some (.int _), some (.int _)], [.int _], _)) rfl (u_ rfl) ?_
        refine w_t (pc := 32) (e_s := (4, 1, 1, 0, 0, .null, [])) (y_s := (33, [some (.ref _), some (.int _), some (.int _)], [], _)) rfl (u_ rfl) ?_
        refine w_t (pc := 33) (e_s := (17, 3, 5, 0, 0, .null, [])) (y_s := (5, [some (.ref _), some (.int _), some (.int _)], [], _)) rfl (u_ rfl) ?_
        exact t_s
      · replace t_s := t_s.2 c5_s
        refine w_t (pc := 27) (e_s := (0, 1, 0, 0, 0, .int 1, [])) (y_s := (28, [some (.ref _), some (.int _), some (.int _)], [.int _], _)) rfl (u_ rfl) ?_
        refine w_t (pc := 28) (e_s := (17, 3, 32, 0, 0, .null, [])) (y_s := (32, [some (.ref _), some (.int _), some (.int _)], [.int _], _)) rfl (u_ rfl) ?_
        refine w_t (pc := 32) (e_s := (4, 1, 1, 0, 0, .null, [])) (y_s := (33, [some (.ref _), some (.int _), some (.int _)], [], _)) rfl (u_ rfl) ?_
        refine w_t (pc := 33) (e_s := (17, 3, 5, 0, 0, .null, [])) (y_s := (5, [some (.ref _), some (.int _), some (.int _)], [], _)) rfl (u_ rfl) ?_
        exact t_s
/-- ColdShodModel.compared()I, from 0 on -/
theorem sg_171_0 {F_s : Nat}  {h_s : zH} {K_s : Int32 → zH → Prop} (hk : hKn h_s) (t_s : wF F_s 172 (0, [some (.ref 102), none, none, none], [], h_s) (gI (fun v1_s h1 => hKn h1 → wF F_s 166 (0, [some (.ref 102)], [], h1) (gI (fun v2 h2 => hKn h2 → ((h2.2.1 102 18).toInt < 0 → ((v2.toInt = 60 → wF F_s 172 (0, [some (.ref 102), none, none, none], [], (h2.1, zup h2.2.1 102 16 ((h2.2.1 102 16) + 1), h2.2.2.1, h2.2.2.2)) (gI (fun v5 h5 => hKn h5 → (v1_s.toInt < v5.toInt → K_s 1 h5) ∧ (¬ v1_s.toInt < v5.toInt → K_s 0 h5)))) ∧ (¬ v2.toInt = 60 → ((v2.toInt = 61 → wF F_s 172 (0, [some (.ref 102), none, none, none], [], (h2.1, zup h2.2.1 102 16 ((h2.2.1 102 16) + 1), h2.2.2.1, h2.2.2.2)) (gI (fun v9 h9 => hKn h9 → (v1_s.toInt = v9.toInt → K_s 1 h9) ∧ (¬ v1_s.toInt = v9.toInt → K_s 0 h9)))) ∧ (¬ v2.toInt = 61 → ((v2.toInt = 62 → wF F_s 172 (0, [some (.ref 102), none, none, none], [], (h2.1, zup h2.2.1 102 16 ((h2.2.1 102 16) + 1), h2.2.2.1, h2.2.2.2)) (gI (fun v14 h14 => hKn h14 → (v14.toInt < v1_s.toInt → K_s 1 h14) ∧ (¬ v14.toInt < v1_s.toInt → K_s 0 h14)))) ∧ (¬ v2.toInt = 62 → K_s v1_s h2))))))) ∧ (¬ (h2.2.1 102 18).toInt < 0 → K_s v1_s h2)))))) : wF (F_s + 1) 171 (0, [some (.ref 102), none, none, none], [], h_s) (gI K_s) := by
  refine w_0 (pc := 0) (e_s := (3, 1, 0, 0, 0, .null, [])) (y_s := (1, [some (.ref _), none, none, none], [.ref _], _)) rfl (u_ rfl) ?_
  refine wcI (pc := 1) (len_s := 3) rfl rfl (l := [some (.ref _), none, none, none]) rfl (wmI t_s (fun v1_s h1 hk t_s => ?_))
  replace t_s := t_s hk
  refine w_t (pc := 4) (e_s := (4, 1, 1, 0, 0, .null, [])) (y_s := (5, [some (.ref _), some (.int _), none, none], [], _)) rfl (u_ rfl) ?_
  refine w_t (pc := 5) (e_s := (3, 1, 0, 0, 0, .null, [])) (y_s := (6, [some (.ref _), some (.int _), none, none], [.ref _], _)) rfl (u_ rfl) ?_
  refine wcI (pc := 6) (len_s := 3) rfl rfl (l := [some (.ref _)]) rfl (wmI t_s (fun v2 h2 hk t_s => ?_))
  replace t_s := t_s hk
  refine w_t (pc := 9) (e_s := (4, 1, 2, 0, 0, .null, [])) (y_s := (10, [some (.ref _), some (.int _), some (.int _), none], [], _)) rfl (u_ rfl) ?_
  refine w_t (pc := 10) (e_s := (3, 1, 0, 0, 0, .null, [])) (y_s := (11, [some (.ref _), some (.int _), some (.int _), none], [.ref _], _)) rfl (u_ rfl) ?_
  refine w20 (pc := 11) (len_s := 3) rfl ?_
  refine wq3 (pc := 14) (len_s := 3) rfl rfl (fun c3_s => ?_) (fun c3_s => ?_)
  · replace t_s := t_s.1 c3_s
    refine w_t (pc := 17) (e_s := (1, 1, 2, 0, 0, .null, [])) (y_s := (18, [some (.ref _), some (.int _), some (.int _), none], [.int _], _)) rfl (u_ rfl) ?_
    refine w_t (pc := 18) (e_s := (0, 2, 0, 0, 0, .int 60, [])) (y_s := (20, [some (.ref _), some (.int _), some (.int _), none], [.int _, .int _], _)) rfl (u_ rfl) ?_
    refine wi0 (pc := 20) (len_s := 3) (Y := 60) rfl rfl (by decide) (fun c4_s => ?_) (fun c4_s => ?_)
    · replace t_s := t_s.1 c4_s
      refine w_t (pc := 37) (e_s := (3, 1, 0, 0, 0, .null, [])) (y_s := (38, [some (.ref _), some (.int _), some (.int _), none], [.ref _], _)) rfl (u_ rfl) ?_
      refine w_t (pc := 38) (e_s := (39, 1, 0, 0, 0, .null, [])) (y_s := (39, [some (.ref _), some (.int _), some (.int _), none], [.ref _, .ref _], _)) rfl (u_ rfl) ?_
      refine w20 (pc := 39) (len_s := 3) rfl ?_
      refine w_t (pc := 42) (e_s := (0, 1, 0, 0, 0, .int 1, [])) (y_s := (43, [some (.ref _), some (.int _), some (.int _), none], [.int _, .int _, .ref _], _)) rfl (u_ rfl) ?_
      refine w_t (pc := 43) (e_s := (7, 1, 0, 0, 0, .null, [])) (y_s := (44, [some (.ref _), some (.int _), some (.int _), none], [.int (_ + _), .ref _], _)) rfl (u_ rfl) ?_
      refine w21 (pc := 44) (len_s := 3) rfl ?_
      refine w_t (pc := 47) (e_s := (3, 1, 0, 0, 0, .null, [])) (y_s := (48, [some (.ref _), some (.int _), some (.int _), none], [.ref _], _)) rfl (u_ rfl) ?_
      refine wcI (pc := 48) (len_s := 3) rfl rfl (l := [some (.ref _), none, none, none]) rfl (wmI t_s (fun v5 h5 hk t_s => ?_))
      replace t_s := t_s hk
      refine w_t (pc := 51) (e_s := (4, 1, 3, 0, 0, .null, [])) (y_s := (52, [some (.ref _), some (.int _), some (.int _), some (.int _)], [], _)) rfl (u_ rfl) ?_
      refine w_t (pc := 52) (e_s := (1, 1, 2, 0, 0, .null, [])) (y_s := (53, [some (.ref _), some (.int _), some (.int _), some (.int _)], [.int _], _)) rfl (u_ rfl) ?_
      refine w_t (pc := 53) (e_s := (0, 2, 0, 0, 0, .int 60, [])) (y_s := (55, [some (.ref _), some (.int _), some (.int _), some (.int _)], [.int _, .int _], _)) rfl (u_ rfl) ?_
      refine wi1 (pc := 55) (len_s := 3) (Y := 60) rfl rfl (by decide) (fun c6_s => ?_) (fun c6_s => ?_)
      · skip
        refine w_t (pc := 58) (e_s := (1, 1, 1, 0, 0, .null, [])) (y_s := (59, [some (.ref _), some (.int _), some (.int _), some (.int _)], [.int _], _)) rfl (u_ rfl) ?_
        refine w_t (pc := 59) (e_s := (1, 1, 3, 0, 0, .null, [])) (y_s := (60, [some (.ref _), some (.int _), some (.int _), some (.int _)], [.int _, .int _], _)) rfl (u_ rfl) ?_
        refine wi3 (pc := 60) (len_s := 3) rfl rfl rfl (fun c7_s => ?_) (fun c7_s => ?_)
        · replace t_s := t_s.1 c7_s
          refine w_t (pc := 63) (e_s := (17, 3, 85, 0, 0, .null, [])) (y_s := (85, [some (.ref _), some (.int _), some (.int _), some (.int _)], [], _)) rfl (u_ rfl) ?_
          refine w_t (pc := 85) (e_s := (0, 1, 0, 0, 0, .int 1, [])) (y_s := (86, [some (.ref _), some (.int _), some (.int _), some (.int _)], [.int _], _)) rfl (u_ rfl) ?_
          refine w_t (pc := 86) (e_s := (17, 3, 90, 0, 0, .null, [])) (y_s := (90, [some (.ref _), some (.int _), some (.int _), some (.int _)], [.int _], _)) rfl (u_ rfl) ?_
          exact wrI (pc := 90) (len_s := 1) rfl hk t_s
        · replace t_s := t_s.2 c7_s
          refine w_t (pc := 89) (e_s := (0, 1, 0, 0, 0, .int 0, [])) (y_s := (90, [some (.ref _), some (.int _), some (.int _), some (.int _)], [.int _], _)) rfl (u_ rfl) ?_
          exact wrI (pc := 90) (len_s := 1) rfl hk t_s
      · exact absurd c4_s c6_s
    · replace t_s := t_s.2 c4_s
      refine w_t (pc := 23) (e_s := (1, 1, 2, 0, 0, .null, [])) (y_s := (24, [some (.ref _), some (.int _), some (.int _), none], [.int _], _)) rfl (u_ rfl) ?_
      refine w_t (pc := 24) (e_s := (0, 2, 0, 0, 0, .int 61, [])) (y_s := (26, [some (.ref _), some (.int _), some (.int _), none], [.int _, .int _], _)) rfl (u_ rfl) ?_
      refine wi0 (pc := 26) (len_s := 3) (Y := 61) rfl rfl (by decide) (fun c8_s => ?_) (fun c8_s => ?_)
      · replace t_s := t_s.1 c8_s
        refine w_t (pc := 37) (e_s := (3, 1, 0, 0, 0, .null, [])) (y_s := (38, [some (.ref _), some (.int _), some (.int _), none], [.ref _], _)) rfl (u_ rfl) ?_
        refine w_t (pc := 38) (e_s := (39, 1, 0, 0, 0, .null, [])) (y_s := (39, [some (.ref _), some (.int _), some (.int _), none], [.ref _, .ref _], _)) rfl (u_ rfl) ?_
        refine w20 (pc := 39) (len_s := 3) rfl ?_
        refine w_t (pc := 42) (e_s := (0, 1, 0, 0, 0, .int 1, [])) (y_s := (43, [some (.ref _), some (.int _), some (.int _), none], [.int _, .int _, .ref _], _)) rfl (u_ rfl) ?_
        refine w_t (pc := 43) (e_s := (7, 1, 0, 0, 0, .null, [])) (y_s := (44, [some (.ref _), some (.int _), some (.int _), none], [.int (_ + _), .ref _], _)) rfl (u_ rfl) ?_
        refine w21 (pc := 44) (len_s := 3) rfl ?_
        refine w_t (pc := 47) (e_s := (3, 1, 0, 0, 0, .null, [])) (y_s := (48, [some (.ref _), some (.int _), some (.int _), none], [.ref _], _)) rfl (u_ rfl) ?_
        refine wcI (pc := 48) (len_s := 3) rfl rfl (l := [some (.ref _), none, none, none]) rfl (wmI t_s (fun v9 h9 hk t_s => ?_))
        replace t_s := t_s hk
        refine w_t (pc := 51) (e_s := (4, 1, 3, 0, 0, .null, [])) (y_s := (52, [some (.ref _), some (.int _), some (.int _), some (.int _)], [], _)) rfl (u_ rfl) ?_
        refine w_t (pc := 52) (e_s := (1, 1, 2, 0, 0, .null, [])) (y_s := (53, [some (.ref _), some (.int _), some (.int _), some (.int _)], [.int _], _)) rfl (u_ rfl) ?_
        refine w_t (pc := 53) (e_s := (0, 2, 0, 0, 0, .int 60, [])) (y_s := (55, [some (.ref _), some (.int _), some (.int _), some (.int _)], [.int _, .int _], _)) rfl (u_ rfl) ?_
        refine wi1 (pc := 55) (len_s := 3) (Y := 60) rfl rfl (by decide) (fun c10_s => ?_) (fun c10_s => ?_)
        · exact absurd c10_s c4_s
        · skip
          refine w_t (pc := 66) (e_s := (1, 1, 2, 0, 0, .null, [])) (y_s := (67, [some (.ref _), some (.int _), some (.int _), some (.int _)], [.int _], _)) rfl (u_ rfl) ?_
          refine w_t (pc := 67) (e_s := (0, 2, 0, 0, 0, .int 61, [])) (y_s := (69, [some (.ref _), some (.int _), some (.int _), some (.int _)], [.int _, .int _], _)) rfl (u_ rfl) ?_
          refine wi1 (pc := 69) (len_s := 3) (Y := 61) rfl rfl (by decide) (fun c11 => ?_) (fun c11 => ?_)
          · skip
            refine w_t (pc := 72) (e_s := (1, 1, 1, 0, 0, .null, [])) (y_s := (73, [some (.ref _), some (.int _), some (.int _), some (.int _)], [.int _], _)) rfl (u_ rfl) ?_
            refine w_t (pc := 73) (e_s := (1, 1, 3, 0, 0, .null, [])) (y_s := (74, [some (.ref _), some (.int _), some (.int _), some (.int _)], [.int _, .int _], _)) rfl (u_ rfl) ?_
            refine wi1 (pc := 74) (len_s := 3) rfl rfl rfl (fun c12_s => ?_) (fun c12_s => ?_)
            · replace t_s := t_s.1 c12_s
              refine w_t (pc := 77) (e_s := (17, 3, 85, 0, 0, .null, [])) (y_s := (85, [some (.ref _), some (.int _), some (.int _), some (.int _)], [], _)) rfl (u_ rfl) ?_
              refine w_t (pc := 85) (e_s := (0, 1, 0, 0, 0, .int 1, [])) (y_s := (86, [some (.ref _), some (.int _), some (.int _), some (.int _)], [.int _], _)) rfl (u_ rfl) ?_
              refine w_t (pc := 86) (e_s := (17, 3, 90, 0, 0, .null, [])) (y_s := (90, [some (.ref _), some (.int _), some (.int _), some (.int _)], [.int _], _)) rfl (u_ rfl) ?_
              exact wrI (pc := 90) (len_s := 1) rfl hk t_s
            · replace t_s := t_s.2 c12_s
              refine w_t (pc := 89) (e_s := (0, 1, 0, 0, 0, .int 0, [])) (y_s := (90, [some (.ref _), some (.int _), some (.int _), some (.int _)], [.int _], _)) rfl (u_ rfl) ?_
              exact wrI (pc := 90) (len_s := 1) rfl hk t_s
          · exact absurd c8_s c11
      · replace t_s := t_s.2 c8_s
        refine w_t (pc := 29) (e_s := (1, 1, 2, 0, 0, .null, [])) (y_s := (30, [some (.ref _), some (.int _), some (.int _), none], [.int _], _)) rfl (u_ rfl) ?_
        refine w_t (pc := 30) (e_s := (0, 2, 0, 0, 0, .int 62, [])) (y_s := (32, [some (.ref _), some (.int _), some (.int _), none], [.int _, .int _], _)) rfl (u_ rfl) ?_
        refine wi0 (pc := 32) (len_s := 3) (Y := 62) rfl rfl (by decide) (fun c13_s => ?_) (fun c13_s => ?_)
        · replace t_s := t_s.1 c13_s
          refine w_t (pc := 37) (e_s := (3, 1, 0, 0, 0, .null, [])) (y_s := (38, [some (.ref _), some (.int _), some (.int _), none], [.ref _], _)) rfl (u_ rfl) ?_
          refine w_t (pc := 38) (e_s := (39, 1, 0, 0, 0, .null, [])) (y_s := (39, [some (.ref _), some (.int _), some (.int _), none], [.ref _, .ref _], _)) rfl (u_ rfl) ?_
          refine w20 (pc := 39) (len_s := 3) rfl ?_
          refine w_t (pc := 42) (e_s := (0, 1, 0, 0, 0, .int 1, [])) (y_s := (43, [some (.ref _), some (.int _), some (.int _), none], [.int _, .int _, .ref _], _)) rfl (u_ rfl) ?_
          refine w_t (pc := 43) (e_s := (7, 1, 0, 0, 0, .null, [])) (y_s := (44, [some (.ref _), some (.int _), some (.int _), none], [.int (_ + _), .ref _], _)) rfl (u_ rfl) ?_
          refine w21 (pc := 44) (len_s := 3) rfl ?_
          refine w_t (pc := 47) (e_s := (3, 1, 0, 0, 0, .null, [])) (y_s := (48, [some (.ref _), some (.int _), some (.int _), none], [.ref _], _)) rfl (u_ rfl) ?_
          refine wcI (pc := 48) (len_s := 3) rfl rfl (l := [some (.ref _), none, none, none]) rfl (wmI t_s (fun v14 h14 hk t_s => ?_))
          replace t_s := t_s hk
          refine w_t (pc := 51) (e_s := (4, 1, 3, 0, 0, .null, [])) (y_s := (52, [some (.ref _), some (.int _), some (.int _), some (.int _)], [], _)) rfl (u_ rfl) ?_
          refine w_t (pc := 52) (e_s := (1, 1, 2, 0, 0, .null, [])) (y_s := (53, [some (.ref _), some (.int _), some (.int _), some (.int _)], [.int _], _)) rfl (u_ rfl) ?_
          refine w_t (pc := 53) (e_s := (0, 2, 0, 0, 0, .int 60, [])) (y_s := (55, [some (.ref _), some (.int _), some (.int _), some (.int _)], [.int _, .int _], _)) rfl (u_ rfl) ?_
          refine wi1 (pc := 55) (len_s := 3) (Y := 60) rfl rfl (by decide) (fun c15_s => ?_) (fun c15_s => ?_)
          · exact absurd c15_s c4_s
          · skip
            refine w_t (pc := 66) (e_s := (1, 1, 2, 0, 0, .null, [])) (y_s := (67, [some (.ref _), some (.int _), some (.int _), some (.int _)], [.int _], _)) rfl (u_ rfl) ?_
            refine w_t (pc := 67) (e_s := (0, 2, 0, 0, 0, .int 61, [])) (y_s := (69, [some (.ref _), some (.int _), some (.int _), some (.int _)], [.int _, .int _], _)) rfl (u_ rfl) ?_
            refine wi1 (pc := 69) (len_s := 3) (Y := 61) rfl rfl (by decide) (fun c16 => ?_) (fun c16 => ?_)
            · exact absurd c16 c8_s
            · skip
              refine w_t (pc := 80) (e_s := (1, 1, 1, 0, 0, .null, [])) (y_s := (81, [some (.ref _), some (.int _), some (.int _), some (.int _)], [.int _], _)) rfl (u_ rfl) ?_
              refine w_t (pc := 81) (e_s := (1, 1, 3, 0, 0, .null, [])) (y_s := (82, [some (.ref _), some (.int _), some (.int _), some (.int _)], [.int _, .int _], _)) rfl (u_ rfl) ?_
              refine wi5 (pc := 82) (len_s := 3) rfl rfl rfl (fun c17 => ?_) (fun c17 => ?_)
              · replace t_s := t_s.1 c17
                refine w_t (pc := 85) (e_s := (0, 1, 0, 0, 0, .int 1, [])) (y_s := (86, [some (.ref _), some (.int _), some (.int _), some (.int _)], [.int _], _)) rfl (u_ rfl) ?_
                refine w_t (pc := 86) (e_s := (17, 3, 90, 0, 0, .null, [])) (y_s := (90, [some (.ref _), some (.int _), some (.int _), some (.int _)], [.int _], _)) rfl (u_ rfl) ?_
                exact wrI (pc := 90) (len_s := 1) rfl hk t_s
              · replace t_s := t_s.2 c17
                refine w_t (pc := 89) (e_s := (0, 1, 0, 0, 0, .int 0, [])) (y_s := (90, [some (.ref _), some (.int _), some (.int _), some (.int _)], [.int _], _)) rfl (u_ rfl) ?_
                exact wrI (pc := 90) (len_s := 1) rfl hk t_s
        · replace t_s := t_s.2 c13_s
          refine w_t (pc := 35) (e_s := (1, 1, 1, 0, 0, .null, [])) (y_s := (36, [some (.ref _), some (.int _), some (.int _), none], [.int _], _)) rfl (u_ rfl) ?_
          exact wrI (pc := 36) (len_s := 1) rfl hk t_s
  · replace t_s := t_s.2 c3_s
    refine w_t (pc := 35) (e_s := (1, 1, 1, 0, 0, .null, [])) (y_s := (36, [some (.ref _), some (.int _), some (.int _), none], [.int _], _)) rfl (u_ rfl) ?_
    exact wrI (pc := 36) (len_s := 1) rfl hk t_s
/-- ColdShodModel.sums()I, from 0 on -/
theorem sg_172_0 {F_s : Nat}  {h_s : zH} {K_s : Int32 → zH → Prop} (hk : hKn h_s) (t_s : wF F_s 173 (0, [some (.ref 102), none, none, none], [], h_s) (gI (fun v1_s h1 => hKn h1 → wF F_s 172 (5, [some (.ref 102), some (.int v1_s), none, none], [], h1) (gI K_s)))) : wF (F_s + 1) 172 (0, [some (.ref 102), none, none, none], [], h_s) (gI K_s) := by
  refine w_0 (pc := 0) (e_s := (3, 1, 0, 0, 0, .null, [])) (y_s := (1, [some (.ref _), none, none, none], [.ref _], _)) rfl (u_ rfl) ?_
  refine wcI (pc := 1) (len_s := 3) rfl rfl (l := [some (.ref _), none, none, none]) rfl (wmI t_s (fun v1_s h1 hk t_s => ?_))
  replace t_s := t_s hk
  refine w_t (pc := 4) (e_s := (4, 1, 1, 0, 0, .null, [])) (y_s := (5, [some (.ref _), some (.int _), none, none], [], _)) rfl (u_ rfl) ?_
  exact t_s
/-- ColdShodModel.sums()I, from 5 on -/
theorem sg_172_5 {F_s : Nat} {x1_s : Int32} {l2 l3 : Option Value} {h_s : zH} {K_s : Int32 → zH → Prop} (hk : hKn h_s) (t_s : ((h_s.2.1 102 18).toInt < 0 → wF F_s 166 (0, [some (.ref 102)], [], h_s) (gI (fun v2 h2 => hKn h2 → (v2.toInt = 43 → wF F_s 166 (0, [some (.ref 102)], [], h2) (gI (fun v4_s h4 => hKn h4 → (v4_s.toInt = 43 → wF F_s 173 (0, [some (.ref 102), none, none, none], [], (h4.1, zup h4.2.1 102 16 ((h4.2.1 102 16) + 1), h4.2.2.1, h4.2.2.2)) (gI (fun v6 h6 => hKn h6 → wF F_s 172 (5, [some (.ref 102), some (.int (x1_s + v6)), some (.int 1), some (.int v6)], [], h6) (gI K_s)))) ∧ (¬ v4_s.toInt = 43 → wF F_s 173 (0, [some (.ref 102), none, none, none], [], (h4.1, zup h4.2.1 102 16 ((h4.2.1 102 16) + 1), h4.2.2.1, h4.2.2.2)) (gI (fun v7 h7 => hKn h7 → wF F_s 172 (5, [some (.ref 102), some (.int (x1_s - v7)), some (.int 0), some (.int v7)], [], h7) (gI K_s))))))) ∧ (¬ v2.toInt = 43 → wF F_s 166 (0, [some (.ref 102)], [], h2) (gI (fun v8 h8 => hKn h8 → (v8.toInt = 45 → wF F_s 166 (0, [some (.ref 102)], [], h8) (gI (fun v10 h10 => hKn h10 → (v10.toInt = 43 → wF F_s 173 (0, [some (.ref 102), none, none, none], [], (h10.1, zup h10.2.1 102 16 ((h10.2.1 102 16) + 1), h10.2.2.1, h10.2.2.2)) (gI (fun v12 h12 => hKn h12 → wF F_s 172 (5, [some (.ref 102), some (.int (x1_s + v12)), some (.int 1), some (.int v12)], [], h12) (gI K_s)))) ∧ (¬ v10.toInt = 43 → wF F_s 173 (0, [some (.ref 102), none, none, none], [], (h10.1, zup h10.2.1 102 16 ((h10.2.1 102 16) + 1), h10.2.2.1, h10.2.2.2)) (gI (fun v13 h13 => hKn h13 → wF F_s 172 (5, [some (.ref 102), some (.int (x1_s - v13)), some (.int 0), some (.int v13)], [], h13) (gI K_s))))))) ∧ (¬ v8.toInt = 45 → K_s x1_s h8))))))) ∧ (¬ (h_s.2.1 102 18).toInt < 0 → K_s x1_s h_s)) : wF (F_s + 1) 172 (5, [some (.ref 102), some (.int x1_s), l2, l3], [], h_s) (gI K_s) := by
  refine w_0 (pc := 5) (e_s := (3, 1, 0, 0, 0, .null, [])) (y_s := (6, [some (.ref _), some (.int _), _, _], [.ref _], _)) rfl (u_ rfl) ?_
  refine w20 (pc := 6) (len_s := 3) rfl ?_
  refine wq3 (pc := 9) (len_s := 3) rfl rfl (fun c1_s => ?_) (fun c1_s => ?_)
  · replace t_s := t_s.1 c1_s
    refine w_t (pc := 12) (e_s := (3, 1, 0, 0, 0, .null, [])) (y_s := (13, [some (.ref _), some (.int _), _, _], [.ref _], _)) rfl (u_ rfl) ?_
    refine wcI (pc := 13) (len_s := 3) rfl rfl (l := [some (.ref _)]) rfl (wmI t_s (fun v2 h2 hk t_s => ?_))
    replace t_s := t_s hk
    refine w_t (pc := 16) (e_s := (0, 2, 0, 0, 0, .int 43, [])) (y_s := (18, [some (.ref _), some (.int _), _, _], [.int _, .int _], _)) rfl (u_ rfl) ?_
    refine wi0 (pc := 18) (len_s := 3) (Y := 43) rfl rfl (by decide) (fun c3_s => ?_) (fun c3_s => ?_)
    · replace t_s := t_s.1 c3_s
      refine w_t (pc := 30) (e_s := (3, 1, 0, 0, 0, .null, [])) (y_s := (31, [some (.ref _), some (.int _), _, _], [.ref _], _)) rfl (u_ rfl) ?_
      refine wcI (pc := 31) (len_s := 3) rfl rfl (l := [some (.ref _)]) rfl (wmI t_s (fun v4_s h4 hk t_s => ?_))
      replace t_s := t_s hk
      refine w_t (pc := 34) (e_s := (0, 2, 0, 0, 0, .int 43, [])) (y_s := (36, [some (.ref _), some (.int _), _, _], [.int _, .int _], _)) rfl (u_ rfl) ?_
      refine wi1 (pc := 36) (len_s := 3) (Y := 43) rfl rfl (by decide) (fun c5_s => ?_) (fun c5_s => ?_)
      · replace t_s := t_s.1 c5_s
        refine w_t (pc := 39) (e_s := (0, 1, 0, 0, 0, .int 1, [])) (y_s := (40, [some (.ref _), some (.int _), _, _], [.int _], _)) rfl (u_ rfl) ?_
        refine w_t (pc := 40) (e_s := (17, 3, 44, 0, 0, .null, [])) (y_s := (44, [some (.ref _), some (.int _), _, _], [.int _], _)) rfl (u_ rfl) ?_
        refine w_t (pc := 44) (e_s := (4, 1, 2, 0, 0, .null, [])) (y_s := (45, [some (.ref _), some (.int _), some (.int _), _], [], _)) rfl (u_ rfl) ?_
        refine w_t (pc := 45) (e_s := (3, 1, 0, 0, 0, .null, [])) (y_s := (46, [some (.ref _), some (.int _), some (.int _), _], [.ref _], _)) rfl (u_ rfl) ?_
        refine w_t (pc := 46) (e_s := (39, 1, 0, 0, 0, .null, [])) (y_s := (47, [some (.ref _), some (.int _), some (.int _), _], [.ref _, .ref _], _)) rfl (u_ rfl) ?_
        refine w20 (pc := 47) (len_s := 3) rfl ?_
        refine w_t (pc := 50) (e_s := (0, 1, 0, 0, 0, .int 1, [])) (y_s := (51, [some (.ref _), some (.int _), some (.int _), _], [.int _, .int _, .ref _], _)) rfl (u_ rfl) ?_
        refine w_t (pc := 51) (e_s := (7, 1, 0, 0, 0, .null, [])) (y_s := (52, [some (.ref _), some (.int _), some (.int _), _], [.int (_ + _), .ref _], _)) rfl (u_ rfl) ?_
        refine w21 (pc := 52) (len_s := 3) rfl ?_
        refine w_t (pc := 55) (e_s := (3, 1, 0, 0, 0, .null, [])) (y_s := (56, [some (.ref _), some (.int _), some (.int _), _], [.ref _], _)) rfl (u_ rfl) ?_
        refine wcI (pc := 56) (len_s := 3) rfl rfl (l := [some (.ref _), none, none, none]) rfl (wmI t_s (fun v6 h6 hk t_s => ?_))
        replace t_s := t_s hk
        refine w_t (pc := 59) (e_s := (4, 1, 3, 0, 0, .null, [])) (y_s := (60, [some (.ref _), some (.int _), some (.int _), some (.int _)], [], _)) rfl (u_ rfl) ?_
        refine w_t (pc := 60) (e_s := (1, 1, 2, 0, 0, .null, [])) (y_s := (61, [some (.ref _), some (.int _), some (.int _), some (.int _)], [.int _], _)) rfl (u_ rfl) ?_
        refine w_t (pc := 61) (e_s := (15, 3, 70, 0, 0, .null, [])) (y_s := (64, [some (.ref _), some (.int _), some (.int _), some (.int _)], [], _)) rfl (u_ rfl) ?_
        refine w_t (pc := 64) (e_s := (1, 1, 1, 0, 0, .null, [])) (y_s := (65, [some (.ref _), some (.int _), some (.int _), some (.int _)], [.int _], _)) rfl (u_ rfl) ?_
        refine w_t (pc := 65) (e_s := (1, 1, 3, 0, 0, .null, [])) (y_s := (66, [some (.ref _), some (.int _), some (.int _), some (.int _)], [.int _, .int _], _)) rfl (u_ rfl) ?_
        refine w_t (pc := 66) (e_s := (7, 1, 0, 0, 0, .null, [])) (y_s := (67, [some (.ref _), some (.int _), some (.int _), some (.int _)], [.int (_ + _)], _)) rfl (u_ rfl) ?_
        refine w_t (pc := 67) (e_s := (17, 3, 73, 0, 0, .null, [])) (y_s := (73, [some (.ref _), some (.int _), some (.int _), some (.int _)], [.int _], _)) rfl (u_ rfl) ?_
        refine w_t (pc := 73) (e_s := (4, 1, 1, 0, 0, .null, [])) (y_s := (74, [some (.ref _), some (.int _), some (.int _), some (.int _)], [], _)) rfl (u_ rfl) ?_
        refine w_t (pc := 74) (e_s := (17, 3, 5, 0, 0, .null, [])) (y_s := (5, [some (.ref _), some (.int _), some (.int _), some (.int _)], [], _)) rfl (u_ rfl) ?_
        exact t_s
      · replace t_s := t_s.2 c5_s
        refine w_t (pc := 43) (e_s := (0, 1, 0, 0, 0, .int 0, [])) (y_s := (44, [some (.ref _), some (.int _), _, _], [.int _], _)) rfl (u_ rfl) ?_
        refine w_t (pc := 44) (e_s := (4, 1, 2, 0, 0, .null, [])) (y_s := (45, [some (.ref _), some (.int _), some (.int _), _], [], _)) rfl (u_ rfl) ?_
        refine w_t (pc := 45) (e_s := (3, 1, 0, 0, 0, .null, [])) (y_s := (46, [some (.ref _), some (.int _), some (.int _), _], [.ref _], _)) rfl (u_ rfl) ?_
        refine w_t (pc := 46) (e_s := (39, 1, 0, 0, 0, .null, [])) (y_s := (47, [some (.ref _), some (.int _), some (.int _), _], [.ref _, .ref _], _)) rfl (u_ rfl) ?_
        refine w20 (pc := 47) (len_s := 3) rfl ?_
        refine w_t (pc := 50) (e_s := (0, 1, 0, 0, 0, .int 1, [])) (y_s := (51, [some (.ref _), some (.int _), some (.int _), _], [.int _, .int _, .ref _], _)) rfl (u_ rfl) ?_
        refine w_t (pc := 51) (e_s := (7, 1, 0, 0, 0, .null, [])) (y_s := (52, [some (.ref _), some (.int _), some (.int _), _], [.int (_ + _), .ref _], _)) rfl (u_ rfl) ?_
        refine w21 (pc := 52) (len_s := 3) rfl ?_
        refine w_t (pc := 55) (e_s := (3, 1, 0, 0, 0, .null, [])) (y_s := (56, [some (.ref _), some (.int _), some (.int _), _], [.ref _], _)) rfl (u_ rfl) ?_
        refine wcI (pc := 56) (len_s := 3) rfl rfl (l := [some (.ref _), none, none, none]) rfl (wmI t_s (fun v7 h7 hk t_s => ?_))
        replace t_s := t_s hk
        refine w_t (pc := 59) (e_s := (4, 1, 3, 0, 0, .null, [])) (y_s := (60, [some (.ref _), some (.int _), some (.int _), some (.int _)], [], _)) rfl (u_ rfl) ?_
        refine w_t (pc := 60) (e_s := (1, 1, 2, 0, 0, .null, [])) (y_s := (61, [some (.ref _), some (.int _), some (.int _), some (.int _)], [.int _], _)) rfl (u_ rfl) ?_
        refine w_t (pc := 61) (e_s := (15, 3, 70, 0, 0, .null, [])) (y_s := (70, [some (.ref _), some (.int _), some (.int _), some (.int _)], [], _)) rfl (u_ rfl) ?_
        refine w_t (pc := 70) (e_s := (1, 1, 1, 0, 0, .null, [])) (y_s := (71, [some (.ref _), some (.int _), some (.int _), some (.int _)], [.int _], _)) rfl (u_ rfl) ?_
        refine w_t (pc := 71) (e_s := (1, 1, 3, 0, 0, .null, [])) (y_s := (72, [some (.ref _), some (.int _), some (.int _), some (.int _)], [.int _, .int _], _)) rfl (u_ rfl) ?_
        refine w_t (pc := 72) (e_s := (7, 1, 0, 1, 0, .null, [])) (y_s := (73, [some (.ref _), some (.int _), some (.int _), some (.int _)], [.int (_ - _)], _)) rfl (u_ rfl) ?_
        refine w_t (pc := 73) (e_s := (4, 1, 1, 0, 0, .null, [])) (y_s := (74, [some (.ref _), some (.int _), some (.int _), some (.int _)], [], _)) rfl (u_ rfl) ?_
        refine w_t (pc := 74) (e_s := (17, 3, 5, 0, 0, .null, [])) (y_s := (5, [some (.ref _), some (.int _), some (.int _), some (.int _)], [], _)) rfl (u_ rfl) ?_
        exact t_s
    · replace t_s := t_s.2 c3_s
      refine w_t (pc := 21) (e_s := (3, 1, 0, 0, 0, .null, [])) (y_s := (22, [some (.ref _), some (.int _), _, _], [.ref _], _)) rfl (u_ rfl) ?_
      refine wcI (pc := 22) (len_s := 3) rfl rfl (l := [some (.ref _)]) rfl (wmI t_s (fun v8 h8 hk t_s => ?_))
      replace t_s := t_s hk
      refine w_t (pc := 25) (e_s := (0, 2, 0, 0, 0, .int 45, [])) (y_s := (27, [some (.ref _), some (.int _), _, _], [.int _, .int _], _)) rfl (u_ rfl) ?_
      refine wi1 (pc := 27) (len_s := 3) (Y := 45) rfl rfl (by decide) (fun c9_s => ?_) (fun c9_s => ?_)
      · replace t_s := t_s.1 c9_s
        refine w_t (pc := 30) (e_s := (3, 1, 0, 0, 0, .null, [])) (y_s := (31, [some (.ref _), some (.int _), _, _], [.ref _], _)) rfl (u_ rfl) ?_
        refine wcI (pc := 31) (len_s := 3) rfl rfl (l := [some (.ref _)]) rfl (wmI t_s (fun v10 h10 hk t_s => ?_))
        replace t_s := t_s hk
        refine w_t (pc := 34) (e_s := (0, 2, 0, 0, 0, .int 43, [])) (y_s := (36, [some (.ref _), some (.int _), _, _], [.int _, .int _], _)) rfl (u_ rfl) ?_
        refine wi1 (pc := 36) (len_s := 3) (Y := 43) rfl rfl (by decide) (fun c11 => ?_) (fun c11 => ?_)
        · replace t_s := t_s.1 c11
          refine w_t (pc := 39) (e_s := (0, 1, 0, 0, 0, .int 1, [])) (y_s := (40, [some (.ref _), some (.int _), _, _], [.int _], _)) rfl (u_ rfl) ?_
          refine w_t (pc := 40) (e_s := (17, 3, 44, 0, 0, .null, [])) (y_s := (44, [some (.ref _), some (.int _), _, _], [.int _], _)) rfl (u_ rfl) ?_
          refine w_t (pc := 44) (e_s := (4, 1, 2, 0, 0, .null, [])) (y_s := (45, [some (.ref _), some (.int _), some (.int _), _], [], _)) rfl (u_ rfl) ?_
          refine w_t (pc := 45) (e_s := (3, 1, 0, 0, 0, .null, [])) (y_s := (46, [some (.ref _), some (.int _), some (.int _), _], [.ref _], _)) rfl (u_ rfl) ?_
          refine w_t (pc := 46) (e_s := (39, 1, 0, 0, 0, .null, [])) (y_s := (47, [some (.ref _), some (.int _), some (.int _), _], [.ref _, .ref _], _)) rfl (u_ rfl) ?_
          refine w20 (pc := 47) (len_s := 3) rfl ?_
          refine w_t (pc := 50) (e_s := (0, 1, 0, 0, 0, .int 1, [])) (y_s := (51, [some (.ref _), some (.int _), some (.int _), _], [.int _, .int _, .ref _], _)) rfl (u_ rfl) ?_
          refine w_t (pc := 51) (e_s := (7, 1, 0, 0, 0, .null, [])) (y_s := (52, [some (.ref _), some (.int _), some (.int _), _], [.int (_ + _), .ref _], _)) rfl (u_ rfl) ?_
          refine w21 (pc := 52) (len_s := 3) rfl ?_
          refine w_t (pc := 55) (e_s := (3, 1, 0, 0, 0, .null, [])) (y_s := (56, [some (.ref _), some (.int _), some (.int _), _], [.ref _], _)) rfl (u_ rfl) ?_
          refine wcI (pc := 56) (len_s := 3) rfl rfl (l := [some (.ref _), none, none, none]) rfl (wmI t_s (fun v12 h12 hk t_s => ?_))
          replace t_s := t_s hk
          refine w_t (pc := 59) (e_s := (4, 1, 3, 0, 0, .null, [])) (y_s := (60, [some (.ref _), some (.int _), some (.int _), some (.int _)], [], _)) rfl (u_ rfl) ?_
          refine w_t (pc := 60) (e_s := (1, 1, 2, 0, 0, .null, [])) (y_s := (61, [some (.ref _), some (.int _), some (.int _), some (.int _)], [.int _], _)) rfl (u_ rfl) ?_
          refine w_t (pc := 61) (e_s := (15, 3, 70, 0, 0, .null, [])) (y_s := (64, [some (.ref _), some (.int _), some (.int _), some (.int _)], [], _)) rfl (u_ rfl) ?_
          refine w_t (pc := 64) (e_s := (1, 1, 1, 0, 0, .null, [])) (y_s := (65, [some (.ref _), some (.int _), some (.int _), some (.int _)], [.int _], _)) rfl (u_ rfl) ?_
          refine w_t (pc := 65) (e_s := (1, 1, 3, 0, 0, .null, [])) (y_s := (66, [some (.ref _), some (.int _), some (.int _), some (.int _)], [.int _, .int _], _)) rfl (u_ rfl) ?_
          refine w_t (pc := 66) (e_s := (7, 1, 0, 0, 0, .null, [])) (y_s := (67, [some (.ref _), some (.int _), some (.int _), some (.int _)], [.int (_ + _)], _)) rfl (u_ rfl) ?_
          refine w_t (pc := 67) (e_s := (17, 3, 73, 0, 0, .null, [])) (y_s := (73, [some (.ref _), some (.int _), some (.int _), some (.int _)], [.int _], _)) rfl (u_ rfl) ?_
          refine w_t (pc := 73) (e_s := (4, 1, 1, 0, 0, .null, [])) (y_s := (74, [some (.ref _), some (.int _), some (.int _), some (.int _)], [], _)) rfl (u_ rfl) ?_
          refine w_t (pc := 74) (e_s := (17, 3, 5, 0, 0, .null, [])) (y_s := (5, [some (.ref _), some (.int _), some (.int _), some (.int _)], [], _)) rfl (u_ rfl) ?_
          exact t_s
        · replace t_s := t_s.2 c11
          refine w_t (pc := 43) (e_s := (0, 1, 0, 0, 0, .int 0, [])) (y_s := (44, [some (.ref _), some (.int _), _, _], [.int _], _)) rfl (u_ rfl) ?_
          refine w_t (pc := 44) (e_s := (4, 1, 2, 0, 0, .null, [])) (y_s := (45, [some (.ref _), some (.int _), some (.int _), _], [], _)) rfl (u_ rfl) ?_
          refine w_t (pc := 45) (e_s := (3, 1, 0, 0, 0, .null, [])) (y_s := (46, [some (.ref _), some (.int _), some (.int _), _], [.ref _], _)) rfl (u_ rfl) ?_
          refine w_t (pc := 46) (e_s := (39, 1, 0, 0, 0, .null, [])) (y_s := (47, [some (.ref _), some (.int _), some (.int _), _], [.ref _, .ref _], _)) rfl (u_ rfl) ?_
          refine w20 (pc := 47) (len_s := 3) rfl ?_
          refine w_t (pc := 50) (e_s := (0, 1, 0, 0, 0, .int 1, [])) (y_s := (51, [some (.ref _), some (.int _), some (.int _), _], [.int _, .int _, .ref _], _)) rfl (u_ rfl) ?_
          refine w_t (pc := 51) (e_s := (7, 1, 0, 0, 0, .null, [])) (y_s := (52, [some (.ref _), some (.int _), some (.int _), _], [.int (_ + _), .ref _], _)) rfl (u_ rfl) ?_
          refine w21 (pc := 52) (len_s := 3) rfl ?_
          refine w_t (pc := 55) (e_s := (3, 1, 0, 0, 0, .null, [])) (y_s := (56, [some (.ref _), some (.int _), some (.int _), _], [.ref _], _)) rfl (u_ rfl) ?_
          refine wcI (pc := 56) (len_s := 3) rfl rfl (l := [some (.ref _), none, none, none]) rfl (wmI t_s (fun v13 h13 hk t_s => ?_))
          replace t_s := t_s hk
          refine w_t (pc := 59) (e_s := (4, 1, 3, 0, 0, .null, [])) (y_s := (60, [some (.ref _), some (.int _), some (.int _), some (.int _)], [], _)) rfl (u_ rfl) ?_
          refine w_t (pc := 60) (e_s := (1, 1, 2, 0, 0, .null, [])) (y_s := (61, [some (.ref _), some (.int _), some (.int _), some (.int _)], [.int _], _)) rfl (u_ rfl) ?_
          refine w_t (pc := 61) (e_s := (15, 3, 70, 0, 0, .null, [])) (y_s := (70, [some (.ref _), some (.int _), some (.int _), some (.int _)], [], _)) rfl (u_ rfl) ?_
          refine w_t (pc := 70) (e_s := (1, 1, 1, 0, 0, .null, [])) (y_s := (71, [some (.ref _), some (.int _), some (.int _), some (.int _)], [.int _], _)) rfl (u_ rfl) ?_
          refine w_t (pc := 71) (e_s := (1, 1, 3, 0, 0, .null, [])) (y_s := (72, [some (.ref _), some (.int _), some (.int _), some (.int _)], [.int _, .int _], _)) rfl (u_ rfl) ?_
          refine w_t (pc := 72) (e_s := (7, 1, 0, 1, 0, .null, [])) (y_s := (73, [some (.ref _), some (.int _), some (.int _), some (.int _)], [.int (_ - _)], _)) rfl (u_ rfl) ?_
          refine w_t (pc := 73) (e_s := (4, 1, 1, 0, 0, .null, [])) (y_s := (74, [some (.ref _), some (.int _), some (.int _), some (.int _)], [], _)) rfl (u_ rfl) ?_
          refine w_t (pc := 74) (e_s := (17, 3, 5, 0, 0, .null, [])) (y_s := (5, [some (.ref _), some (.int _), some (.int _), some (.int _)], [], _)) rfl (u_ rfl) ?_
          exact t_s
      · replace t_s := t_s.2 c9_s
        refine w_t (pc := 77) (e_s := (1, 1, 1, 0, 0, .null, [])) (y_s := (78, [some (.ref _), some (.int _), _, _], [.int _], _)) rfl (u_ rfl) ?_
        exact wrI (pc := 78) (len_s := 1) rfl hk t_s
  · replace t_s := t_s.2 c1_s
    refine w_t (pc := 77) (e_s := (1, 1, 1, 0, 0, .null, [])) (y_s := (78, [some (.ref _), some (.int _), _, _], [.int _], _)) rfl (u_ rfl) ?_
    exact wrI (pc := 78) (len_s := 1) rfl hk t_s
/-- ColdShodModel.product()I, from 0 on -/
theorem sg_173_0 {F_s : Nat}  {h_s : zH} {K_s : Int32 → zH → Prop} (hk : hKn h_s) (t_s : wF F_s 175 (0, [some (.ref 102), none, none, none, none], [], h_s) (gI (fun v1_s h1 => hKn h1 → wF F_s 166 (0, [some (.ref 102)], [], h1) (gI (fun v2 h2 => hKn h2 → wF F_s 173 (10, [some (.ref 102), some (.int v1_s), some (.int v2), none], [], h2) (gI K_s)))))) : wF (F_s + 1) 173 (0, [some (.ref 102), none, none, none], [], h_s) (gI K_s) := by
  refine w_0 (pc := 0) (e_s := (3, 1, 0, 0, 0, .null, [])) (y_s := (1, [some (.ref _), none, none, none], [.ref _], _)) rfl (u_ rfl) ?_
  refine wcI (pc := 1) (len_s := 3) rfl rfl (l := [some (.ref _), none, none, none, none]) rfl (wmI t_s (fun v1_s h1 hk t_s => ?_))
  replace t_s := t_s hk
  refine w_t (pc := 4) (e_s := (4, 1, 1, 0, 0, .null, [])) (y_s := (5, [some (.ref _), some (.int _), none, none], [], _)) rfl (u_ rfl) ?_
  refine w_t (pc := 5) (e_s := (3, 1, 0, 0, 0, .null, [])) (y_s := (6, [some (.ref _), some (.int _), none, none], [.ref _], _)) rfl (u_ rfl) ?_
  refine wcI (pc := 6) (len_s := 3) rfl rfl (l := [some (.ref _)]) rfl (wmI t_s (fun v2 h2 hk t_s => ?_))
  replace t_s := t_s hk
  refine w_t (pc := 9) (e_s := (4, 1, 2, 0, 0, .null, [])) (y_s := (10, [some (.ref _), some (.int _), some (.int _), none], [], _)) rfl (u_ rfl) ?_
  exact t_s
/-- ColdShodModel.product()I, from 10 on -/
theorem sg_173_10 {F_s : Nat} {x1_s x2_s : Int32} {l3 : Option Value} {h_s : zH} {K_s : Int32 → zH → Prop} (hk : hKn h_s) (t_s : ((h_s.2.1 102 18).toInt < 0 → ((x2_s.toInt = 42 → wF F_s 175 (0, [some (.ref 102), none, none, none, none], [], (h_s.1, zup h_s.2.1 102 16 ((h_s.2.1 102 16) + 1), h_s.2.2.1, h_s.2.2.2)) (gI (fun v3 h3 => hKn h3 → wF F_s 166 (0, [some (.ref 102)], [], h3) (gI (fun v5 h5 => hKn h5 → wF F_s 173 (10, [some (.ref 102), some (.int (x1_s * v3)), some (.int v5), some (.int v3)], [], h5) (gI K_s)))))) ∧ (¬ x2_s.toInt = 42 → ((x2_s.toInt = 47 → wF F_s 175 (0, [some (.ref 102), none, none, none, none], [], (h_s.1, zup h_s.2.1 102 16 ((h_s.2.1 102 16) + 1), h_s.2.2.1, h_s.2.2.2)) (gI (fun v7 h7 => hKn h7 → (v7.toInt = 0 → wF F_s 166 (0, [some (.ref 102)], [], h7) (gI (fun v10 h10 => hKn h10 → wF F_s 173 (10, [some (.ref 102), some (.int 0), some (.int v10), some (.int v7)], [], h10) (gI K_s)))) ∧ (¬ v7.toInt = 0 → wF F_s 166 (0, [some (.ref 102)], [], h7) (gI (fun v12 h12 => hKn h12 → wF F_s 173 (10, [some (.ref 102), some (.int (x1_s / v7)), some (.int v12), some (.int v7)], [], h12) (gI K_s))))))) ∧ (¬ x2_s.toInt = 47 → ((x2_s.toInt = 37 → wF F_s 175 (0, [some (.ref 102), none, none, none, none], [], (h_s.1, zup h_s.2.1 102 16 ((h_s.2.1 102 16) + 1), h_s.2.2.1, h_s.2.2.2)) (gI (fun v14 h14 => hKn h14 → (v14.toInt = 0 → wF F_s 166 (0, [some (.ref 102)], [], h14) (gI (fun v17 h17 => hKn h17 → wF F_s 173 (10, [some (.ref 102), some (.int 0), some (.int v17), some (.int v14)], [], h17) (gI K_s)))) ∧ (¬ v14.toInt = 0 → wF F_s 166 (0, [some (.ref 102)], [], h14) (gI (fun v19 h19 => hKn h19 → wF F_s 173 (10, [some (.ref 102), some (.int (x1_s - x1_s / v14 * v14)), some (.int v19), some (.int v14)], [], h19) (gI K_s))))))) ∧ (¬ x2_s.toInt = 37 → K_s x1_s h_s))))))) ∧ (¬ (h_s.2.1 102 18).toInt < 0 → K_s x1_s h_s)) : wF (F_s + 1) 173 (10, [some (.ref 102), some (.int x1_s), some (.int x2_s), l3], [], h_s) (gI K_s) := by
  refine w_0 (pc := 10) (e_s := (3, 1, 0, 0, 0, .null, [])) (y_s := (11, [some (.ref _), some (.int _), some (.int _), _], [.ref _], _)) rfl (u_ rfl) ?_
  refine w20 (pc := 11) (len_s := 3) rfl ?_
  refine wq3 (pc := 14) (len_s := 3) rfl rfl (fun c1_s => ?_) (fun c1_s => ?_)
  · replace t_s := t_s.1 c1_s
    refine w_t (pc := 17) (e_s := (1, 1, 2, 0, 0, .null, [])) (y_s := (18, [some (.ref _), some (.int _), some (.int _), _], [.int _], _)) rfl (u_ rfl) ?_
    refine w_t (pc := 18) (e_s := (0, 2, 0, 0, 0, .int 42, [])) (y_s := (20, [some (.ref _), some (.int _), some (.int _), _], [.int _, .int _], _)) rfl (u_ rfl) ?_
    refine wi0 (pc := 20) (len_s := 3) (Y := 42) rfl rfl (by decide) (fun c2_s => ?_) (fun c2_s => ?_)
    · replace t_s := t_s.1 c2_s
      refine w_t (pc := 35) (e_s := (3, 1, 0, 0, 0, .null, [])) (y_s := (36, [some (.ref _), some (.int _), some (.int _), _], [.ref _], _)) rfl (u_ rfl) ?_
      refine w_t (pc := 36) (e_s := (39, 1, 0, 0, 0, .null, [])) (y_s := (37, [some (.ref _), some (.int _), some (.int _), _], [.ref _, .ref _], _)) rfl (u_ rfl) ?_
      refine w20 (pc := 37) (len_s := 3) rfl ?_
      refine w_t (pc := 40) (e_s := (0, 1, 0, 0, 0, .int 1, [])) (y_s := (41, [some (.ref _), some (.int _), some (.int _), _], [.int _, .int _, .ref _], _)) rfl (u_ rfl) ?_
      refine w_t (pc := 41) (e_s := (7, 1, 0, 0, 0, .null, [])) (y_s := (42, [some (.ref _), some (.int _), some (.int _), _], [.int (_ + _), .ref _], _)) rfl (u_ rfl) ?_
      refine w21 (pc := 42) (len_s := 3) rfl ?_
      refine w_t (pc := 45) (e_s := (3, 1, 0, 0, 0, .null, [])) (y_s := (46, [some (.ref _), some (.int _), some (.int _), _], [.ref _], _)) rfl (u_ rfl) ?_
      refine wcI (pc := 46) (len_s := 3) rfl rfl (l := [some (.ref _), none, none, none, none]) rfl (wmI t_s (fun v3 h3 hk t_s => ?_))
      replace t_s := t_s hk
      refine w_t (pc := 49) (e_s := (4, 1, 3, 0, 0, .null, [])) (y_s := (50, [some (.ref _), some (.int _), some (.int _), some (.int _)], [], _)) rfl (u_ rfl) ?_
      refine w_t (pc := 50) (e_s := (1, 1, 2, 0, 0, .null, [])) (y_s := (51, [some (.ref _), some (.int _), some (.int _), some (.int _)], [.int _], _)) rfl (u_ rfl) ?_
      refine w_t (pc := 51) (e_s := (0, 2, 0, 0, 0, .int 42, [])) (y_s := (53, [some (.ref _), some (.int _), some (.int _), some (.int _)], [.int _, .int _], _)) rfl (u_ rfl) ?_
      refine wi1 (pc := 53) (len_s := 3) (Y := 42) rfl rfl (by decide) (fun c4_s => ?_) (fun c4_s => ?_)
      · skip
        refine w_t (pc := 56) (e_s := (1, 1, 1, 0, 0, .null, [])) (y_s := (57, [some (.ref _), some (.int _), some (.int _), some (.int _)], [.int _], _)) rfl (u_ rfl) ?_
        refine w_t (pc := 57) (e_s := (1, 1, 3, 0, 0, .null, [])) (y_s := (58, [some (.ref _), some (.int _), some (.int _), some (.int _)], [.int _, .int _], _)) rfl (u_ rfl) ?_
        refine w_t (pc := 58) (e_s := (7, 1, 0, 2, 0, .null, [])) (y_s := (59, [some (.ref _), some (.int _), some (.int _), some (.int _)], [.int (_ * _)], _)) rfl (u_ rfl) ?_
        refine w_t (pc := 59) (e_s := (17, 3, 85, 0, 0, .null, [])) (y_s := (85, [some (.ref _), some (.int _), some (.int _), some (.int _)], [.int _], _)) rfl (u_ rfl) ?_
        refine w_t (pc := 85) (e_s := (4, 1, 1, 0, 0, .null, [])) (y_s := (86, [some (.ref _), some (.int _), some (.int _), some (.int _)], [], _)) rfl (u_ rfl) ?_
        refine w_t (pc := 86) (e_s := (3, 1, 0, 0, 0, .null, [])) (y_s := (87, [some (.ref _), some (.int _), some (.int _), some (.int _)], [.ref _], _)) rfl (u_ rfl) ?_
        refine wcI (pc := 87) (len_s := 3) rfl rfl (l := [some (.ref _)]) rfl (wmI t_s (fun v5 h5 hk t_s => ?_))
        replace t_s := t_s hk
        refine w_t (pc := 90) (e_s := (4, 1, 2, 0, 0, .null, [])) (y_s := (91, [some (.ref _), some (.int _), some (.int _), some (.int _)], [], _)) rfl (u_ rfl) ?_
        refine w_t (pc := 91) (e_s := (17, 3, 10, 0, 0, .null, [])) (y_s := (10, [some (.ref _), some (.int _), some (.int _), some (.int _)], [], _)) rfl (u_ rfl) ?_
        exact t_s
      · exact absurd c2_s c4_s
    · replace t_s := t_s.2 c2_s
      refine w_t (pc := 23) (e_s := (1, 1, 2, 0, 0, .null, [])) (y_s := (24, [some (.ref _), some (.int _), some (.int _), _], [.int _], _)) rfl (u_ rfl) ?_
      refine w_t (pc := 24) (e_s := (0, 2, 0, 0, 0, .int 47, [])) (y_s := (26, [some (.ref _), some (.int _), some (.int _), _], [.int _, .int _], _)) rfl (u_ rfl) ?_
      refine wi0 (pc := 26) (len_s := 3) (Y := 47) rfl rfl (by decide) (fun c6_s => ?_) (fun c6_s => ?_)
      · replace t_s := t_s.1 c6_s
        refine w_t (pc := 35) (e_s := (3, 1, 0, 0, 0, .null, [])) (y_s := (36, [some (.ref _), some (.int _), some (.int _), _], [.ref _], _)) rfl (u_ rfl) ?_
        refine w_t (pc := 36) (e_s := (39, 1, 0, 0, 0, .null, [])) (y_s := (37, [some (.ref _), some (.int _), some (.int _), _], [.ref _, .ref _], _)) rfl (u_ rfl) ?_
        refine w20 (pc := 37) (len_s := 3) rfl ?_
        refine w_t (pc := 40) (e_s := (0, 1, 0, 0, 0, .int 1, [])) (y_s := (41, [some (.ref _), some (.int _), some (.int _), _], [.int _, .int _, .ref _], _)) rfl (u_ rfl) ?_
        refine w_t (pc := 41) (e_s := (7, 1, 0, 0, 0, .null, [])) (y_s := (42, [some (.ref _), some (.int _), some (.int _), _], [.int (_ + _), .ref _], _)) rfl (u_ rfl) ?_
        refine w21 (pc := 42) (len_s := 3) rfl ?_
        refine w_t (pc := 45) (e_s := (3, 1, 0, 0, 0, .null, [])) (y_s := (46, [some (.ref _), some (.int _), some (.int _), _], [.ref _], _)) rfl (u_ rfl) ?_
        refine wcI (pc := 46) (len_s := 3) rfl rfl (l := [some (.ref _), none, none, none, none]) rfl (wmI t_s (fun v7 h7 hk t_s => ?_))
        replace t_s := t_s hk
        refine w_t (pc := 49) (e_s := (4, 1, 3, 0, 0, .null, [])) (y_s := (50, [some (.ref _), some (.int _), some (.int _), some (.int _)], [], _)) rfl (u_ rfl) ?_
        refine w_t (pc := 50) (e_s := (1, 1, 2, 0, 0, .null, [])) (y_s := (51, [some (.ref _), some (.int _), some (.int _), some (.int _)], [.int _], _)) rfl (u_ rfl) ?_
        refine w_t (pc := 51) (e_s := (0, 2, 0, 0, 0, .int 42, [])) (y_s := (53, [some (.ref _), some (.int _), some (.int _), some (.int _)], [.int _, .int _], _)) rfl (u_ rfl) ?_
        refine wi1 (pc := 53) (len_s := 3) (Y := 42) rfl rfl (by decide) (fun c8_s => ?_) (fun c8_s => ?_)
        · exact absurd c8_s c2_s
        · skip
          refine w_t (pc := 62) (e_s := (1, 1, 3, 0, 0, .null, [])) (y_s := (63, [some (.ref _), some (.int _), some (.int _), some (.int _)], [.int _], _)) rfl (u_ rfl) ?_
          refine wq1 (pc := 63) (len_s := 3) rfl rfl (fun c9_s => ?_) (fun c9_s => ?_)
          · replace t_s := t_s.1 c9_s
            refine w_t (pc := 66) (e_s := (0, 1, 0, 0, 0, .int 0, [])) (y_s := (67, [some (.ref _), some (.int _), some (.int _), some (.int _)], [.int _], _)) rfl (u_ rfl) ?_
            refine w_t (pc := 67) (e_s := (17, 3, 85, 0, 0, .null, [])) (y_s := (85, [some (.ref _), some (.int _), some (.int _), some (.int _)], [.int _], _)) rfl (u_ rfl) ?_
            refine w_t (pc := 85) (e_s := (4, 1, 1, 0, 0, .null, [])) (y_s := (86, [some (.ref _), some (.int _), some (.int _), some (.int _)], [], _)) rfl (u_ rfl) ?_
            refine w_t (pc := 86) (e_s := (3, 1, 0, 0, 0, .null, [])) (y_s := (87, [some (.ref _), some (.int _), some (.int _), some (.int _)], [.ref _], _)) rfl (u_ rfl) ?_
            refine wcI (pc := 87) (len_s := 3) rfl rfl (l := [some (.ref _)]) rfl (wmI t_s (fun v10 h10 hk t_s => ?_))
            replace t_s := t_s hk
            refine w_t (pc := 90) (e_s := (4, 1, 2, 0, 0, .null, [])) (y_s := (91, [some (.ref _), some (.int _), some (.int _), some (.int _)], [], _)) rfl (u_ rfl) ?_
            refine w_t (pc := 91) (e_s := (17, 3, 10, 0, 0, .null, [])) (y_s := (10, [some (.ref _), some (.int _), some (.int _), some (.int _)], [], _)) rfl (u_ rfl) ?_
            exact t_s
          · replace t_s := t_s.2 c9_s
            refine w_t (pc := 70) (e_s := (1, 1, 2, 0, 0, .null, [])) (y_s := (71, [some (.ref _), some (.int _), some (.int _), some (.int _)], [.int _], _)) rfl (u_ rfl) ?_
            refine w_t (pc := 71) (e_s := (0, 2, 0, 0, 0, .int 47, [])) (y_s := (73, [some (.ref _), some (.int _), some (.int _), some (.int _)], [.int _, .int _], _)) rfl (u_ rfl) ?_
            refine wi1 (pc := 73) (len_s := 3) (Y := 47) rfl rfl (by decide) (fun c11 => ?_) (fun c11 => ?_)
            · skip
              refine w_t (pc := 76) (e_s := (1, 1, 1, 0, 0, .null, [])) (y_s := (77, [some (.ref _), some (.int _), some (.int _), some (.int _)], [.int _], _)) rfl (u_ rfl) ?_
              refine w_t (pc := 77) (e_s := (1, 1, 3, 0, 0, .null, [])) (y_s := (78, [some (.ref _), some (.int _), some (.int _), some (.int _)], [.int _, .int _], _)) rfl (u_ rfl) ?_
              refine w8 (pc := 78) (len_s := 1) rfl ?_
              refine w_t (pc := 79) (e_s := (17, 3, 85, 0, 0, .null, [])) (y_s := (85, [some (.ref _), some (.int _), some (.int _), some (.int _)], [.int _], _)) rfl (u_ rfl) ?_
              refine w_t (pc := 85) (e_s := (4, 1, 1, 0, 0, .null, [])) (y_s := (86, [some (.ref _), some (.int _), some (.int _), some (.int _)], [], _)) rfl (u_ rfl) ?_
              refine w_t (pc := 86) (e_s := (3, 1, 0, 0, 0, .null, [])) (y_s := (87, [some (.ref _), some (.int _), some (.int _), some (.int _)], [.ref _], _)) rfl (u_ rfl) ?_
              refine wcI (pc := 87) (len_s := 3) rfl rfl (l := [some (.ref _)]) rfl (wmI t_s (fun v12 h12 hk t_s => ?_))
              replace t_s := t_s hk
              refine w_t (pc := 90) (e_s := (4, 1, 2, 0, 0, .null, [])) (y_s := (91, [some (.ref _), some (.int _), some (.int _), some (.int _)], [], _)) rfl (u_ rfl) ?_
              refine w_t (pc := 91) (e_s := (17, 3, 10, 0, 0, .null, [])) (y_s := (10, [some (.ref _), some (.int _), some (.int _), some (.int _)], [], _)) rfl (u_ rfl) ?_
              exact t_s
            · exact absurd c6_s c11
      · replace t_s := t_s.2 c6_s
        refine w_t (pc := 29) (e_s := (1, 1, 2, 0, 0, .null, [])) (y_s := (30, [some (.ref _), some (.int _), some (.int _), _], [.int _], _)) rfl (u_ rfl) ?_
        refine w_t (pc := 30) (e_s := (0, 2, 0, 0, 0, .int 37, [])) (y_s := (32, [some (.ref _), some (.int _), some (.int _), _], [.int _, .int _], _)) rfl (u_ rfl) ?_
        refine wi1 (pc := 32) (len_s := 3) (Y := 37) rfl rfl (by decide) (fun c13_s => ?_) (fun c13_s => ?_)
        · replace t_s := t_s.1 c13_s
          refine w_t (pc := 35) (e_s := (3, 1, 0, 0, 0, .null, [])) (y_s := (36, [some (.ref _), some (.int _), some (.int _), _], [.ref _], _)) rfl (u_ rfl) ?_
          refine w_t (pc := 36) (e_s := (39, 1, 0, 0, 0, .null, [])) (y_s := (37, [some (.ref _), some (.int _), some (.int _), _], [.ref _, .ref _], _)) rfl (u_ rfl) ?_
          refine w20 (pc := 37) (len_s := 3) rfl ?_
          refine w_t (pc := 40) (e_s := (0, 1, 0, 0, 0, .int 1, [])) (y_s := (41, [some (.ref _), some (.int _), some (.int _), _], [.int _, .int _, .ref _], _)) rfl (u_ rfl) ?_
          refine w_t (pc := 41) (e_s := (7, 1, 0, 0, 0, .null, [])) (y_s := (42, [some (.ref _), some (.int _), some (.int _), _], [.int (_ + _), .ref _], _)) rfl (u_ rfl) ?_
          refine w21 (pc := 42) (len_s := 3) rfl ?_
          refine w_t (pc := 45) (e_s := (3, 1, 0, 0, 0, .null, [])) (y_s := (46, [some (.ref _), some (.int _), some (.int _), _], [.ref _], _)) rfl (u_ rfl) ?_
          refine wcI (pc := 46) (len_s := 3) rfl rfl (l := [some (.ref _), none, none, none, none]) rfl (wmI t_s (fun v14 h14 hk t_s => ?_))
          replace t_s := t_s hk
          refine w_t (pc := 49) (e_s := (4, 1, 3, 0, 0, .null, [])) (y_s := (50, [some (.ref _), some (.int _), some (.int _), some (.int _)], [], _)) rfl (u_ rfl) ?_
          refine w_t (pc := 50) (e_s := (1, 1, 2, 0, 0, .null, [])) (y_s := (51, [some (.ref _), some (.int _), some (.int _), some (.int _)], [.int _], _)) rfl (u_ rfl) ?_
          refine w_t (pc := 51) (e_s := (0, 2, 0, 0, 0, .int 42, [])) (y_s := (53, [some (.ref _), some (.int _), some (.int _), some (.int _)], [.int _, .int _], _)) rfl (u_ rfl) ?_
          refine wi1 (pc := 53) (len_s := 3) (Y := 42) rfl rfl (by decide) (fun c15_s => ?_) (fun c15_s => ?_)
          · exact absurd c15_s c2_s
          · skip
            refine w_t (pc := 62) (e_s := (1, 1, 3, 0, 0, .null, [])) (y_s := (63, [some (.ref _), some (.int _), some (.int _), some (.int _)], [.int _], _)) rfl (u_ rfl) ?_
            refine wq1 (pc := 63) (len_s := 3) rfl rfl (fun c16 => ?_) (fun c16 => ?_)
            · replace t_s := t_s.1 c16
              refine w_t (pc := 66) (e_s := (0, 1, 0, 0, 0, .int 0, [])) (y_s := (67, [some (.ref _), some (.int _), some (.int _), some (.int _)], [.int _], _)) rfl (u_ rfl) ?_
              refine w_t (pc := 67) (e_s := (17, 3, 85, 0, 0, .null, [])) (y_s := (85, [some (.ref _), some (.int _), some (.int _), some (.int _)], [.int _], _)) rfl (u_ rfl) ?_
              refine w_t (pc := 85) (e_s := (4, 1, 1, 0, 0, .null, [])) (y_s := (86, [some (.ref _), some (.int _), some (.int _), some (.int _)], [], _)) rfl (u_ rfl) ?_
              refine w_t (pc := 86) (e_s := (3, 1, 0, 0, 0, .null, [])) (y_s := (87, [some (.ref _), some (.int _), some (.int _), some (.int _)], [.ref _], _)) rfl (u_ rfl) ?_
              refine wcI (pc := 87) (len_s := 3) rfl rfl (l := [some (.ref _)]) rfl (wmI t_s (fun v17 h17 hk t_s => ?_))
              replace t_s := t_s hk
              refine w_t (pc := 90) (e_s := (4, 1, 2, 0, 0, .null, [])) (y_s := (91, [some (.ref _), some (.int _), some (.int _), some (.int _)], [], _)) rfl (u_ rfl) ?_
              refine w_t (pc := 91) (e_s := (17, 3, 10, 0, 0, .null, [])) (y_s := (10, [some (.ref _), some (.int _), some (.int _), some (.int _)], [], _)) rfl (u_ rfl) ?_
              exact t_s
            · replace t_s := t_s.2 c16
              refine w_t (pc := 70) (e_s := (1, 1, 2, 0, 0, .null, [])) (y_s := (71, [some (.ref _), some (.int _), some (.int _), some (.int _)], [.int _], _)) rfl (u_ rfl) ?_
              refine w_t (pc := 71) (e_s := (0, 2, 0, 0, 0, .int 47, [])) (y_s := (73, [some (.ref _), some (.int _), some (.int _), some (.int _)], [.int _, .int _], _)) rfl (u_ rfl) ?_
              refine wi1 (pc := 73) (len_s := 3) (Y := 47) rfl rfl (by decide) (fun c18_s => ?_) (fun c18_s => ?_)
              · exact absurd c18_s c6_s
              · skip
                refine w_t (pc := 82) (e_s := (1, 1, 1, 0, 0, .null, [])) (y_s := (83, [some (.ref _), some (.int _), some (.int _), some (.int _)], [.int _], _)) rfl (u_ rfl) ?_
                refine w_t (pc := 83) (e_s := (1, 1, 3, 0, 0, .null, [])) (y_s := (84, [some (.ref _), some (.int _), some (.int _), some (.int _)], [.int _, .int _], _)) rfl (u_ rfl) ?_
                refine w8m (pc := 84) (len_s := 1) rfl ?_
                refine w_t (pc := 85) (e_s := (4, 1, 1, 0, 0, .null, [])) (y_s := (86, [some (.ref _), some (.int _), some (.int _), some (.int _)], [], _)) rfl (u_ rfl) ?_
                refine w_t (pc := 86) (e_s := (3, 1, 0, 0, 0, .null, [])) (y_s := (87, [some (.ref _), some (.int _), some (.int _), some (.int _)], [.ref _], _)) rfl (u_ rfl) ?_
                refine wcI (pc := 87) (len_s := 3) rfl rfl (l := [some (.ref _)]) rfl (wmI t_s (fun v19 h19 hk t_s => ?_))
                replace t_s := t_s hk
                refine w_t (pc := 90) (e_s := (4, 1, 2, 0, 0, .null, [])) (y_s := (91, [some (.ref _), some (.int _), some (.int _), some (.int _)], [], _)) rfl (u_ rfl) ?_
                refine w_t (pc := 91) (e_s := (17, 3, 10, 0, 0, .null, [])) (y_s := (10, [some (.ref _), some (.int _), some (.int _), some (.int _)], [], _)) rfl (u_ rfl) ?_
                exact t_s
        · replace t_s := t_s.2 c13_s
          refine w_t (pc := 94) (e_s := (1, 1, 1, 0, 0, .null, [])) (y_s := (95, [some (.ref _), some (.int _), some (.int _), _], [.int _], _)) rfl (u_ rfl) ?_
          exact wrI (pc := 95) (len_s := 1) rfl hk t_s
  · replace t_s := t_s.2 c1_s
    refine w_t (pc := 94) (e_s := (1, 1, 1, 0, 0, .null, [])) (y_s := (95, [some (.ref _), some (.int _), some (.int _), _], [.int _], _)) rfl (u_ rfl) ?_
    exact wrI (pc := 95) (len_s := 1) rfl hk t_s
/-- ColdShodModel.one()I, from 0 on -/
theorem sg_175_0 {F_s : Nat}  {h_s : zH} {K_s : Int32 → zH → Prop} (hk : hKn h_s) (t_s : ((h_s.2.1 102 18).toInt < 0 → wF F_s 166 (0, [some (.ref 102)], [], h_s) (gI (fun v2 h2 => hKn h2 → (v2.toInt = 33 → wF F_s 175 (32, [some (.ref 102), some (.int v2), none, none, none], [], h2) (gI K_s)) ∧ (¬ v2.toInt = 33 → ((v2.toInt = 45 → wF F_s 175 (32, [some (.ref 102), some (.int v2), none, none, none], [], h2) (gI K_s)) ∧ (¬ v2.toInt = 45 → ((v2.toInt = 40 → wF F_s 175 (32, [some (.ref 102), some (.int v2), none, none, none], [], h2) (gI K_s)) ∧ (¬ v2.toInt = 40 → wF F_s 174 (0, [some (.int v2)], [], h2) (gI (fun v6 h6 => hKn h6 → (v6.toInt < 0 → wF F_s 175 (176, [some (.ref 102), some (.int v2), some (.int v6), some (.int 0), some (.int 0)], [], h6) (gI K_s)) ∧ (¬ v6.toInt < 0 → (zix v6 < 6 → K_s (h6.2.1 111 (zix v6)) (h6.1, zup h6.2.1 102 16 ((h6.2.1 102 16) + 1), h6.2.2.1, h6.2.2.2))))))))))))) ∧ (¬ (h_s.2.1 102 18).toInt < 0 → K_s 0 h_s)) : wF (F_s + 1) 175 (0, [some (.ref 102), none, none, none, none], [], h_s) (gI K_s) := by
  refine w_0 (pc := 0) (e_s := (3, 1, 0, 0, 0, .null, [])) (y_s := (1, [some (.ref _), none, none, none, none], [.ref _], _)) rfl (u_ rfl) ?_
  refine w20 (pc := 1) (len_s := 3) rfl ?_
  refine wq2 (pc := 4) (len_s := 3) rfl rfl (fun c1_s => ?_) (fun c1_s => ?_)
  · replace t_s := t_s.1 c1_s
    refine w_t (pc := 9) (e_s := (3, 1, 0, 0, 0, .null, [])) (y_s := (10, [some (.ref _), none, none, none, none], [.ref _], _)) rfl (u_ rfl) ?_
    refine wcI (pc := 10) (len_s := 3) rfl rfl (l := [some (.ref _)]) rfl (wmI t_s (fun v2 h2 hk t_s => ?_))
    replace t_s := t_s hk
    refine w_t (pc := 13) (e_s := (4, 1, 1, 0, 0, .null, [])) (y_s := (14, [some (.ref _), some (.int _), none, none, none], [], _)) rfl (u_ rfl) ?_
    refine w_t (pc := 14) (e_s := (1, 1, 1, 0, 0, .null, [])) (y_s := (15, [some (.ref _), some (.int _), none, none, none], [.int _], _)) rfl (u_ rfl) ?_
    refine w_t (pc := 15) (e_s := (0, 2, 0, 0, 0, .int 33, [])) (y_s := (17, [some (.ref _), some (.int _), none, none, none], [.int _, .int _], _)) rfl (u_ rfl) ?_
    refine wi0 (pc := 17) (len_s := 3) (Y := 33) rfl rfl (by decide) (fun c3_s => ?_) (fun c3_s => ?_)
    · replace t_s := t_s.1 c3_s
      exact t_s
    · replace t_s := t_s.2 c3_s
      refine w_t (pc := 20) (e_s := (1, 1, 1, 0, 0, .null, [])) (y_s := (21, [some (.ref _), some (.int _), none, none, none], [.int _], _)) rfl (u_ rfl) ?_
      refine w_t (pc := 21) (e_s := (0, 2, 0, 0, 0, .int 45, [])) (y_s := (23, [some (.ref _), some (.int _), none, none, none], [.int _, .int _], _)) rfl (u_ rfl) ?_
      refine wi0 (pc := 23) (len_s := 3) (Y := 45) rfl rfl (by decide) (fun c4_s => ?_) (fun c4_s => ?_)
      · replace t_s := t_s.1 c4_s
        exact t_s
      · replace t_s := t_s.2 c4_s
        refine w_t (pc := 26) (e_s := (1, 1, 1, 0, 0, .null, [])) (y_s := (27, [some (.ref _), some (.int _), none, none, none], [.int _], _)) rfl (u_ rfl) ?_
        refine w_t (pc := 27) (e_s := (0, 2, 0, 0, 0, .int 40, [])) (y_s := (29, [some (.ref _), some (.int _), none, none, none], [.int _, .int _], _)) rfl (u_ rfl) ?_
        refine wi1 (pc := 29) (len_s := 3) (Y := 40) rfl rfl (by decide) (fun c5_s => ?_) (fun c5_s => ?_)
        · replace t_s := t_s.1 c5_s
          exact t_s
        · replace t_s := t_s.2 c5_s
          refine w_t (pc := 145) (e_s := (1, 1, 1, 0, 0, .null, [])) (y_s := (146, [some (.ref _), some (.int _), none, none, none], [.int _], _)) rfl (u_ rfl) ?_
          refine wcI (pc := 146) (len_s := 3) rfl rfl (l := [some (.int _)]) rfl (wmI t_s (fun v6 h6 hk t_s => ?_))
          replace t_s := t_s hk
          refine w_t (pc := 149) (e_s := (4, 1, 2, 0, 0, .null, [])) (y_s := (150, [some (.ref _), some (.int _), some (.int _), none, none], [], _)) rfl (u_ rfl) ?_
          refine w_t (pc := 150) (e_s := (1, 1, 2, 0, 0, .null, [])) (y_s := (151, [some (.ref _), some (.int _), some (.int _), none, none], [.int _], _)) rfl (u_ rfl) ?_
          refine wq2 (pc := 151) (len_s := 3) rfl rfl (fun c7_s => ?_) (fun c7_s => ?_)
          · replace t_s := t_s.1 c7_s
            refine w_t (pc := 171) (e_s := (0, 1, 0, 0, 0, .int 0, [])) (y_s := (172, [some (.ref _), some (.int _), some (.int _), none, none], [.int _], _)) rfl (u_ rfl) ?_
            refine w_t (pc := 172) (e_s := (4, 1, 3, 0, 0, .null, [])) (y_s := (173, [some (.ref _), some (.int _), some (.int _), some (.int _), none], [], _)) rfl (u_ rfl) ?_
            refine w_t (pc := 173) (e_s := (0, 1, 0, 0, 0, .int 0, [])) (y_s := (174, [some (.ref _), some (.int _), some (.int _), some (.int _), none], [.int _], _)) rfl (u_ rfl) ?_
            refine w_t (pc := 174) (e_s := (4, 2, 4, 0, 0, .null, [])) (y_s := (176, [some (.ref _), some (.int _), some (.int _), some (.int _), some (.int _)], [], _)) rfl (u_ rfl) ?_
            exact t_s
          · replace t_s := t_s.2 c7_s
            refine w_t (pc := 154) (e_s := (3, 1, 0, 0, 0, .null, [])) (y_s := (155, [some (.ref _), some (.int _), some (.int _), none, none], [.ref _], _)) rfl (u_ rfl) ?_
            refine w_t (pc := 155) (e_s := (39, 1, 0, 0, 0, .null, [])) (y_s := (156, [some (.ref _), some (.int _), some (.int _), none, none], [.ref _, .ref _], _)) rfl (u_ rfl) ?_
            refine w20 (pc := 156) (len_s := 3) rfl ?_
            refine w_t (pc := 159) (e_s := (0, 1, 0, 0, 0, .int 1, [])) (y_s := (160, [some (.ref _), some (.int _), some (.int _), none, none], [.int _, .int _, .ref _], _)) rfl (u_ rfl) ?_
            refine w_t (pc := 160) (e_s := (7, 1, 0, 0, 0, .null, [])) (y_s := (161, [some (.ref _), some (.int _), some (.int _), none, none], [.int (_ + _), .ref _], _)) rfl (u_ rfl) ?_
            refine w21 (pc := 161) (len_s := 3) rfl ?_
            refine w_t (pc := 164) (e_s := (3, 1, 0, 0, 0, .null, [])) (y_s := (165, [some (.ref _), some (.int _), some (.int _), none, none], [.ref _], _)) rfl (u_ rfl) ?_
            refine w20r (pc := 165) (len_s := 3) (q_s := 111) rfl (krq hk rfl) ?_
            refine w_t (pc := 168) (e_s := (1, 1, 2, 0, 0, .null, [])) (y_s := (169, [some (.ref _), some (.int _), some (.int _), none, none], [.int _, .ref _], _)) rfl (u_ rfl) ?_
            refine w22 (pc := 169) (len_s := 1) rfl (hk.1 111 0 6 rfl rfl) (fun c8_s => ?_)
            replace t_s := t_s c8_s
            exact wrI (pc := 170) (len_s := 1) rfl hk t_s
  · replace t_s := t_s.2 c1_s
    refine w_t (pc := 7) (e_s := (0, 1, 0, 0, 0, .int 0, [])) (y_s := (8, [some (.ref _), none, none, none, none], [.int _], _)) rfl (u_ rfl) ?_
    exact wrI (pc := 8) (len_s := 1) rfl hk t_s
/-- ColdShodModel.one()I, from 32 on -/
theorem sg_175_32 {F_s : Nat} {x1_s : Int32} {l2 l3 l4 : Option Value} {h_s : zH} {K_s : Int32 → zH → Prop} (hk : hKn h_s) (t_s : ((h_s.2.1 102 19).toInt = 6 → wF F_s 167 (0, [some (.ref 102)], [], h_s) (gI (fun v2 h2 => hKn h2 → K_s v2 h2))) ∧ (¬ (h_s.2.1 102 19).toInt = 6 → ((x1_s.toInt = 40 → wF F_s 169 (0, [some (.ref 102), none, none], [], (h_s.1, zup (zup h_s.2.1 102 19 ((h_s.2.1 102 19) + 1)) 102 16 ((h_s.2.1 102 16) + 1), h_s.2.2.1, h_s.2.2.2)) (gI (fun v4_s h4 => hKn h4 → wF F_s 168 (0, [some (.ref 102), some (.int 41)], [], h4) (gI (fun v6 h6 => hKn h6 → (v6.toInt = 0 → wF F_s 167 (0, [some (.ref 102)], [], h6) (gI (fun v8 h8 => hKn h8 → K_s v8 h8))) ∧ (¬ v6.toInt = 0 → K_s v4_s (h6.1, zup h6.2.1 102 19 ((h6.2.1 102 19) - 1), h6.2.2.1, h6.2.2.2))))))) ∧ (¬ x1_s.toInt = 40 → wF F_s 175 (0, [some (.ref 102), none, none, none, none], [], (h_s.1, zup (zup h_s.2.1 102 19 ((h_s.2.1 102 19) + 1)) 102 16 ((h_s.2.1 102 16) + 1), h_s.2.2.1, h_s.2.2.2)) (gI (fun v10 h10 => hKn h10 → (x1_s.toInt = 45 → K_s (-v10) (h10.1, zup h10.2.1 102 19 ((h10.2.1 102 19) - 1), h10.2.2.1, h10.2.2.2)) ∧ (¬ x1_s.toInt = 45 → ((v10.toInt = 0 → K_s 1 (h10.1, zup h10.2.1 102 19 ((h10.2.1 102 19) - 1), h10.2.2.1, h10.2.2.2)) ∧ (¬ v10.toInt = 0 → K_s 0 (h10.1, zup h10.2.1 102 19 ((h10.2.1 102 19) - 1), h10.2.2.1, h10.2.2.2)))))))))) : wF (F_s + 1) 175 (32, [some (.ref 102), some (.int x1_s), l2, l3, l4], [], h_s) (gI K_s) := by
  refine w_0 (pc := 32) (e_s := (3, 1, 0, 0, 0, .null, [])) (y_s := (33, [some (.ref _), some (.int _), _, _, _], [.ref _], _)) rfl (u_ rfl) ?_
  refine w20 (pc := 33) (len_s := 3) rfl ?_
  refine w_t (pc := 36) (e_s := (0, 2, 0, 0, 0, .int 6, [])) (y_s := (38, [some (.ref _), some (.int _), _, _, _], [.int _, .int _], _)) rfl (u_ rfl) ?_
  refine wi1 (pc := 38) (len_s := 3) (Y := 6) rfl rfl (by decide) (fun c1_s => ?_) (fun c1_s => ?_)
  · replace t_s := t_s.1 c1_s
    refine w_t (pc := 41) (e_s := (3, 1, 0, 0, 0, .null, [])) (y_s := (42, [some (.ref _), some (.int _), _, _, _], [.ref _], _)) rfl (u_ rfl) ?_
    refine wcI (pc := 42) (len_s := 3) rfl rfl (l := [some (.ref _)]) rfl (wmI t_s (fun v2 h2 hk t_s => ?_))
    replace t_s := t_s hk
    exact wrI (pc := 45) (len_s := 1) rfl hk t_s
  · replace t_s := t_s.2 c1_s
    refine w_t (pc := 46) (e_s := (3, 1, 0, 0, 0, .null, [])) (y_s := (47, [some (.ref _), some (.int _), _, _, _], [.ref _], _)) rfl (u_ rfl) ?_
    refine w_t (pc := 47) (e_s := (39, 1, 0, 0, 0, .null, [])) (y_s := (48, [some (.ref _), some (.int _), _, _, _], [.ref _, .ref _], _)) rfl (u_ rfl) ?_
    refine w20 (pc := 48) (len_s := 3) rfl ?_
    refine w_t (pc := 51) (e_s := (0, 1, 0, 0, 0, .int 1, [])) (y_s := (52, [some (.ref _), some (.int _), _, _, _], [.int _, .int _, .ref _], _)) rfl (u_ rfl) ?_
    refine w_t (pc := 52) (e_s := (7, 1, 0, 0, 0, .null, [])) (y_s := (53, [some (.ref _), some (.int _), _, _, _], [.int (_ + _), .ref _], _)) rfl (u_ rfl) ?_
    refine w21 (pc := 53) (len_s := 3) rfl ?_
    refine w_t (pc := 56) (e_s := (3, 1, 0, 0, 0, .null, [])) (y_s := (57, [some (.ref _), some (.int _), _, _, _], [.ref _], _)) rfl (u_ rfl) ?_
    refine w_t (pc := 57) (e_s := (39, 1, 0, 0, 0, .null, [])) (y_s := (58, [some (.ref _), some (.int _), _, _, _], [.ref _, .ref _], _)) rfl (u_ rfl) ?_
    refine w20 (pc := 58) (len_s := 3) rfl ?_
    refine w_t (pc := 61) (e_s := (0, 1, 0, 0, 0, .int 1, [])) (y_s := (62, [some (.ref _), some (.int _), _, _, _], [.int _, .int _, .ref _], _)) rfl (u_ rfl) ?_
    refine w_t (pc := 62) (e_s := (7, 1, 0, 0, 0, .null, [])) (y_s := (63, [some (.ref _), some (.int _), _, _, _], [.int (_ + _), .ref _], _)) rfl (u_ rfl) ?_
    refine w21 (pc := 63) (len_s := 3) rfl ?_
    refine w_t (pc := 66) (e_s := (1, 1, 1, 0, 0, .null, [])) (y_s := (67, [some (.ref _), some (.int _), _, _, _], [.int _], _)) rfl (u_ rfl) ?_
    refine w_t (pc := 67) (e_s := (0, 2, 0, 0, 0, .int 40, [])) (y_s := (69, [some (.ref _), some (.int _), _, _, _], [.int _, .int _], _)) rfl (u_ rfl) ?_
    refine wi1 (pc := 69) (len_s := 3) (Y := 40) rfl rfl (by decide) (fun c3_s => ?_) (fun c3_s => ?_)
    · replace t_s := t_s.1 c3_s
      refine w_t (pc := 72) (e_s := (3, 1, 0, 0, 0, .null, [])) (y_s := (73, [some (.ref _), some (.int _), _, _, _], [.ref _], _)) rfl (u_ rfl) ?_
      refine wcI (pc := 73) (len_s := 3) rfl rfl (l := [some (.ref _), none, none]) rfl (wmI t_s (fun v4_s h4 hk t_s => ?_))
      replace t_s := t_s hk
      refine w_t (pc := 76) (e_s := (17, 3, 83, 0, 0, .null, [])) (y_s := (83, [some (.ref _), some (.int _), _, _, _], [.int _], _)) rfl (u_ rfl) ?_
      refine w_t (pc := 83) (e_s := (4, 1, 2, 0, 0, .null, [])) (y_s := (84, [some (.ref _), some (.int _), some (.int _), _, _], [], _)) rfl (u_ rfl) ?_
      refine w_t (pc := 84) (e_s := (1, 1, 1, 0, 0, .null, [])) (y_s := (85, [some (.ref _), some (.int _), some (.int _), _, _], [.int _], _)) rfl (u_ rfl) ?_
      refine w_t (pc := 85) (e_s := (0, 2, 0, 0, 0, .int 40, [])) (y_s := (87, [some (.ref _), some (.int _), some (.int _), _, _], [.int _, .int _], _)) rfl (u_ rfl) ?_
      refine wi1 (pc := 87) (len_s := 3) (Y := 40) rfl rfl (by decide) (fun c5_s => ?_) (fun c5_s => ?_)
      · skip
        refine w_t (pc := 90) (e_s := (3, 1, 0, 0, 0, .null, [])) (y_s := (91, [some (.ref _), some (.int _), some (.int _), _, _], [.ref _], _)) rfl (u_ rfl) ?_
        refine w_t (pc := 91) (e_s := (0, 2, 0, 0, 0, .int 41, [])) (y_s := (93, [some (.ref _), some (.int _), some (.int _), _, _], [.int _, .ref _], _)) rfl (u_ rfl) ?_
        refine wcI (pc := 93) (len_s := 3) rfl rfl (l := [some (.ref _), some (.int _)]) rfl (wmI t_s (fun v6 h6 hk t_s => ?_))
        replace t_s := t_s hk
        refine wq1 (pc := 96) (len_s := 3) rfl rfl (fun c7_s => ?_) (fun c7_s => ?_)
        · replace t_s := t_s.1 c7_s
          refine w_t (pc := 99) (e_s := (3, 1, 0, 0, 0, .null, [])) (y_s := (100, [some (.ref _), some (.int _), some (.int _), _, _], [.ref _], _)) rfl (u_ rfl) ?_
          refine wcI (pc := 100) (len_s := 3) rfl rfl (l := [some (.ref _)]) rfl (wmI t_s (fun v8 h8 hk t_s => ?_))
          replace t_s := t_s hk
          exact wrI (pc := 103) (len_s := 1) rfl hk t_s
        · replace t_s := t_s.2 c7_s
          refine w_t (pc := 104) (e_s := (3, 1, 0, 0, 0, .null, [])) (y_s := (105, [some (.ref _), some (.int _), some (.int _), _, _], [.ref _], _)) rfl (u_ rfl) ?_
          refine w_t (pc := 105) (e_s := (39, 1, 0, 0, 0, .null, [])) (y_s := (106, [some (.ref _), some (.int _), some (.int _), _, _], [.ref _, .ref _], _)) rfl (u_ rfl) ?_
          refine w20 (pc := 106) (len_s := 3) rfl ?_
          refine w_t (pc := 109) (e_s := (0, 1, 0, 0, 0, .int 1, [])) (y_s := (110, [some (.ref _), some (.int _), some (.int _), _, _], [.int _, .int _, .ref _], _)) rfl (u_ rfl) ?_
          refine w_t (pc := 110) (e_s := (7, 1, 0, 1, 0, .null, [])) (y_s := (111, [some (.ref _), some (.int _), some (.int _), _, _], [.int (_ - _), .ref _], _)) rfl (u_ rfl) ?_
          refine w21 (pc := 111) (len_s := 3) rfl ?_
          refine w_t (pc := 114) (e_s := (1, 1, 1, 0, 0, .null, [])) (y_s := (115, [some (.ref _), some (.int _), some (.int _), _, _], [.int _], _)) rfl (u_ rfl) ?_
          refine w_t (pc := 115) (e_s := (0, 2, 0, 0, 0, .int 40, [])) (y_s := (117, [some (.ref _), some (.int _), some (.int _), _, _], [.int _, .int _], _)) rfl (u_ rfl) ?_
          refine wi1 (pc := 117) (len_s := 3) (Y := 40) rfl rfl (by decide) (fun c9_s => ?_) (fun c9_s => ?_)
          · skip
            refine w_t (pc := 120) (e_s := (1, 1, 2, 0, 0, .null, [])) (y_s := (121, [some (.ref _), some (.int _), some (.int _), _, _], [.int _], _)) rfl (u_ rfl) ?_
            refine w_t (pc := 121) (e_s := (17, 3, 144, 0, 0, .null, [])) (y_s := (144, [some (.ref _), some (.int _), some (.int _), _, _], [.int _], _)) rfl (u_ rfl) ?_
            exact wrI (pc := 144) (len_s := 1) rfl hk t_s
          · exact absurd c3_s c9_s
      · exact absurd c3_s c5_s
    · replace t_s := t_s.2 c3_s
      refine w_t (pc := 79) (e_s := (3, 1, 0, 0, 0, .null, [])) (y_s := (80, [some (.ref _), some (.int _), _, _, _], [.ref _], _)) rfl (u_ rfl) ?_
      refine wcI (pc := 80) (len_s := 3) rfl rfl (l := [some (.ref _), none, none, none, none]) rfl (wmI t_s (fun v10 h10 hk t_s => ?_))
      replace t_s := t_s hk
      refine w_t (pc := 83) (e_s := (4, 1, 2, 0, 0, .null, [])) (y_s := (84, [some (.ref _), some (.int _), some (.int _), _, _], [], _)) rfl (u_ rfl) ?_
      refine w_t (pc := 84) (e_s := (1, 1, 1, 0, 0, .null, [])) (y_s := (85, [some (.ref _), some (.int _), some (.int _), _, _], [.int _], _)) rfl (u_ rfl) ?_
      refine w_t (pc := 85) (e_s := (0, 2, 0, 0, 0, .int 40, [])) (y_s := (87, [some (.ref _), some (.int _), some (.int _), _, _], [.int _, .int _], _)) rfl (u_ rfl) ?_
      refine wi1 (pc := 87) (len_s := 3) (Y := 40) rfl rfl (by decide) (fun c11 => ?_) (fun c11 => ?_)
      · exact absurd c11 c3_s
      · skip
        refine w_t (pc := 104) (e_s := (3, 1, 0, 0, 0, .null, [])) (y_s := (105, [some (.ref _), some (.int _), some (.int _), _, _], [.ref _], _)) rfl (u_ rfl) ?_
        refine w_t (pc := 105) (e_s := (39, 1, 0, 0, 0, .null, [])) (y_s := (106, [some (.ref _), some (.int _), some (.int _), _, _], [.ref _, .ref _], _)) rfl (u_ rfl) ?_
        refine w20 (pc := 106) (len_s := 3) rfl ?_
        refine w_t (pc := 109) (e_s := (0, 1, 0, 0, 0, .int 1, [])) (y_s := (110, [some (.ref _), some (.int _), some (.int _), _, _], [.int _, .int _, .ref _], _)) rfl (u_ rfl) ?_
        refine w_t (pc := 110) (e_s := (7, 1, 0, 1, 0, .null, [])) (y_s := (111, [some (.ref _), some (.int _), some (.int _), _, _], [.int (_ - _), .ref _], _)) rfl (u_ rfl) ?_
        refine w21 (pc := 111) (len_s := 3) rfl ?_
        refine w_t (pc := 114) (e_s := (1, 1, 1, 0, 0, .null, [])) (y_s := (115, [some (.ref _), some (.int _), some (.int _), _, _], [.int _], _)) rfl (u_ rfl) ?_
        refine w_t (pc := 115) (e_s := (0, 2, 0, 0, 0, .int 40, [])) (y_s := (117, [some (.ref _), some (.int _), some (.int _), _, _], [.int _, .int _], _)) rfl (u_ rfl) ?_
        refine wi1 (pc := 117) (len_s := 3) (Y := 40) rfl rfl (by decide) (fun c12_s => ?_) (fun c12_s => ?_)
        · exact absurd c12_s c3_s
        · skip
          refine w_t (pc := 124) (e_s := (1, 1, 1, 0, 0, .null, [])) (y_s := (125, [some (.ref _), some (.int _), some (.int _), _, _], [.int _], _)) rfl (u_ rfl) ?_
          refine w_t (pc := 125) (e_s := (0, 2, 0, 0, 0, .int 45, [])) (y_s := (127, [some (.ref _), some (.int _), some (.int _), _, _], [.int _, .int _], _)) rfl (u_ rfl) ?_
          refine wi1 (pc := 127) (len_s := 3) (Y := 45) rfl rfl (by decide) (fun c13_s => ?_) (fun c13_s => ?_)
          · replace t_s := t_s.1 c13_s
            refine w_t (pc := 130) (e_s := (1, 1, 2, 0, 0, .null, [])) (y_s := (131, [some (.ref _), some (.int _), some (.int _), _, _], [.int _], _)) rfl (u_ rfl) ?_
            refine w_t (pc := 131) (e_s := (9, 1, 0, 0, 0, .null, [])) (y_s := (132, [some (.ref _), some (.int _), some (.int _), _, _], [.int (-_)], _)) rfl (u_ rfl) ?_
            refine w_t (pc := 132) (e_s := (17, 3, 144, 0, 0, .null, [])) (y_s := (144, [some (.ref _), some (.int _), some (.int _), _, _], [.int _], _)) rfl (u_ rfl) ?_
            exact wrI (pc := 144) (len_s := 1) rfl hk t_s
          · replace t_s := t_s.2 c13_s
            refine w_t (pc := 135) (e_s := (1, 1, 2, 0, 0, .null, [])) (y_s := (136, [some (.ref _), some (.int _), some (.int _), _, _], [.int _], _)) rfl (u_ rfl) ?_
            refine wq1 (pc := 136) (len_s := 3) rfl rfl (fun c14_s => ?_) (fun c14_s => ?_)
            · replace t_s := t_s.1 c14_s
              refine w_t (pc := 139) (e_s := (0, 1, 0, 0, 0, .int 1, [])) (y_s := (140, [some (.ref _), some (.int _), some (.int _), _, _], [.int _], _)) rfl (u_ rfl) ?_
              refine w_t (pc := 140) (e_s := (17, 3, 144, 0, 0, .null, [])) (y_s := (144, [some (.ref _), some (.int _), some (.int _), _, _], [.int _], _)) rfl (u_ rfl) ?_
              exact wrI (pc := 144) (len_s := 1) rfl hk t_s
            · replace t_s := t_s.2 c14_s
              refine w_t (pc := 143) (e_s := (0, 1, 0, 0, 0, .int 0, [])) (y_s := (144, [some (.ref _), some (.int _), some (.int _), _, _], [.int _], _)) rfl (u_ rfl) ?_
              exact wrI (pc := 144) (len_s := 1) rfl hk t_s
/-- ColdShodModel.one()I, from 176 on -/
theorem sg_175_176 {F_s : Nat} {x1_s x2_s x3 x4_s : Int32} {h_s : zH} {K_s : Int32 → zH → Prop} (hk : hKn h_s) (t_s : (x4_s.toInt < 4 → wF F_s 166 (0, [some (.ref 102)], [], h_s) (gI (fun v2 h2 => hKn h2 → (v2.toInt < 48 → ((x4_s.toInt = 0 → wF F_s 167 (0, [some (.ref 102)], [], h2) (gI (fun v5 h5 => hKn h5 → K_s v5 h5))) ∧ (¬ x4_s.toInt = 0 → K_s x3 h2))) ∧ (¬ v2.toInt < 48 → wF F_s 166 (0, [some (.ref 102)], [], h2) (gI (fun v6 h6 => hKn h6 → (57 < v6.toInt → ((x4_s.toInt = 0 → wF F_s 167 (0, [some (.ref 102)], [], h6) (gI (fun v9 h9 => hKn h9 → K_s v9 h9))) ∧ (¬ x4_s.toInt = 0 → K_s x3 h6))) ∧ (¬ 57 < v6.toInt → wF F_s 166 (0, [some (.ref 102)], [], h6) (gI (fun v10 h10 => hKn h10 → wF F_s 175 (176, [some (.ref 102), some (.int x1_s), some (.int x2_s), some (.int (((10 * x3) + v10) - 48)), some (.int (x4_s + 1))], [], (h10.1, zup h10.2.1 102 16 ((h10.2.1 102 16) + 1), h10.2.2.1, h10.2.2.2)) (gI K_s)))))))))) ∧ (¬ x4_s.toInt < 4 → ((x4_s.toInt = 0 → wF F_s 167 (0, [some (.ref 102)], [], h_s) (gI (fun v12 h12 => hKn h12 → K_s v12 h12))) ∧ (¬ x4_s.toInt = 0 → K_s x3 h_s)))) : wF (F_s + 1) 175 (176, [some (.ref 102), some (.int x1_s), some (.int x2_s), some (.int x3), some (.int x4_s)], [], h_s) (gI K_s) := by
  refine w_0 (pc := 176) (e_s := (1, 2, 4, 0, 0, .null, [])) (y_s := (178, [some (.ref _), some (.int _), some (.int _), some (.int _), some (.int _)], [.int _], _)) rfl (u_ rfl) ?_
  refine w_t (pc := 178) (e_s := (0, 1, 0, 0, 0, .int 4, [])) (y_s := (179, [some (.ref _), some (.int _), some (.int _), some (.int _), some (.int _)], [.int _, .int _], _)) rfl (u_ rfl) ?_
  refine wi3 (pc := 179) (len_s := 3) (Y := 4) rfl rfl (by decide) (fun c1_s => ?_) (fun c1_s => ?_)
  · replace t_s := t_s.1 c1_s
    refine w_t (pc := 182) (e_s := (3, 1, 0, 0, 0, .null, [])) (y_s := (183, [some (.ref _), some (.int _), some (.int _), some (.int _), some (.int _)], [.ref _], _)) rfl (u_ rfl) ?_
    refine wcI (pc := 183) (len_s := 3) rfl rfl (l := [some (.ref _)]) rfl (wmI t_s (fun v2 h2 hk t_s => ?_))
    replace t_s := t_s hk
    refine w_t (pc := 186) (e_s := (0, 2, 0, 0, 0, .int 48, [])) (y_s := (188, [some (.ref _), some (.int _), some (.int _), some (.int _), some (.int _)], [.int _, .int _], _)) rfl (u_ rfl) ?_
    refine wi2 (pc := 188) (len_s := 3) (Y := 48) rfl rfl (by decide) (fun c3_s => ?_) (fun c3_s => ?_)
    · replace t_s := t_s.1 c3_s
      refine w_t (pc := 229) (e_s := (1, 2, 4, 0, 0, .null, [])) (y_s := (231, [some (.ref _), some (.int _), some (.int _), some (.int _), some (.int _)], [.int _], _)) rfl (u_ rfl) ?_
      refine wq1 (pc := 231) (len_s := 3) rfl rfl (fun c4_s => ?_) (fun c4_s => ?_)
      · replace t_s := t_s.1 c4_s
        refine w_t (pc := 234) (e_s := (3, 1, 0, 0, 0, .null, [])) (y_s := (235, [some (.ref _), some (.int _), some (.int _), some (.int _), some (.int _)], [.ref _], _)) rfl (u_ rfl) ?_
        refine wcI (pc := 235) (len_s := 3) rfl rfl (l := [some (.ref _)]) rfl (wmI t_s (fun v5 h5 hk t_s => ?_))
        replace t_s := t_s hk
        refine w_t (pc := 238) (e_s := (17, 3, 242, 0, 0, .null, [])) (y_s := (242, [some (.ref _), some (.int _), some (.int _), some (.int _), some (.int _)], [.int _], _)) rfl (u_ rfl) ?_
        exact wrI (pc := 242) (len_s := 1) rfl hk t_s
      · replace t_s := t_s.2 c4_s
        refine w_t (pc := 241) (e_s := (1, 1, 3, 0, 0, .null, [])) (y_s := (242, [some (.ref _), some (.int _), some (.int _), some (.int _), some (.int _)], [.int _], _)) rfl (u_ rfl) ?_
        exact wrI (pc := 242) (len_s := 1) rfl hk t_s
    · replace t_s := t_s.2 c3_s
      refine w_t (pc := 191) (e_s := (3, 1, 0, 0, 0, .null, [])) (y_s := (192, [some (.ref _), some (.int _), some (.int _), some (.int _), some (.int _)], [.ref _], _)) rfl (u_ rfl) ?_
      refine wcI (pc := 192) (len_s := 3) rfl rfl (l := [some (.ref _)]) rfl (wmI t_s (fun v6 h6 hk t_s => ?_))
      replace t_s := t_s hk
      refine w_t (pc := 195) (e_s := (0, 2, 0, 0, 0, .int 57, [])) (y_s := (197, [some (.ref _), some (.int _), some (.int _), some (.int _), some (.int _)], [.int _, .int _], _)) rfl (u_ rfl) ?_
      refine wi4 (pc := 197) (len_s := 3) (Y := 57) rfl rfl (by decide) (fun c7_s => ?_) (fun c7_s => ?_)
      · replace t_s := t_s.1 c7_s
        refine w_t (pc := 229) (e_s := (1, 2, 4, 0, 0, .null, [])) (y_s := (231, [some (.ref _), some (.int _), some (.int _), some (.int _), some (.int _)], [.int _], _)) rfl (u_ rfl) ?_
        refine wq1 (pc := 231) (len_s := 3) rfl rfl (fun c8_s => ?_) (fun c8_s => ?_)
        · replace t_s := t_s.1 c8_s
          refine w_t (pc := 234) (e_s := (3, 1, 0, 0, 0, .null, [])) (y_s := (235, [some (.ref _), some (.int _), some (.int _), some (.int _), some (.int _)], [.ref _], _)) rfl (u_ rfl) ?_
          refine wcI (pc := 235) (len_s := 3) rfl rfl (l := [some (.ref _)]) rfl (wmI t_s (fun v9 h9 hk t_s => ?_))
          replace t_s := t_s hk
          refine w_t (pc := 238) (e_s := (17, 3, 242, 0, 0, .null, [])) (y_s := (242, [some (.ref _), some (.int _), some (.int _), some (.int _), some (.int _)], [.int _], _)) rfl (u_ rfl) ?_
          exact wrI (pc := 242) (len_s := 1) rfl hk t_s
        · replace t_s := t_s.2 c8_s
          refine w_t (pc := 241) (e_s := (1, 1, 3, 0, 0, .null, [])) (y_s := (242, [some (.ref _), some (.int _), some (.int _), some (.int _), some (.int _)], [.int _], _)) rfl (u_ rfl) ?_
          exact wrI (pc := 242) (len_s := 1) rfl hk t_s
      · replace t_s := t_s.2 c7_s
        refine w_t (pc := 200) (e_s := (0, 2, 0, 0, 0, .int 10, [])) (y_s := (202, [some (.ref _), some (.int _), some (.int _), some (.int _), some (.int _)], [.int _], _)) rfl (u_ rfl) ?_
        refine w_t (pc := 202) (e_s := (1, 1, 3, 0, 0, .null, [])) (y_s := (203, [some (.ref _), some (.int _), some (.int _), some (.int _), some (.int _)], [.int _, .int _], _)) rfl (u_ rfl) ?_
        refine w_t (pc := 203) (e_s := (7, 1, 0, 2, 0, .null, [])) (y_s := (204, [some (.ref _), some (.int _), some (.int _), some (.int _), some (.int _)], [.int (_ * _)], _)) rfl (u_ rfl) ?_
        refine w_t (pc := 204) (e_s := (3, 1, 0, 0, 0, .null, [])) (y_s := (205, [some (.ref _), some (.int _), some (.int _), some (.int _), some (.int _)], [.ref _, .int _], _)) rfl (u_ rfl) ?_
        refine wcI (pc := 205) (len_s := 3) rfl rfl (l := [some (.ref _)]) rfl (wmI t_s (fun v10 h10 hk t_s => ?_))
        replace t_s := t_s hk
        refine w_t (pc := 208) (e_s := (7, 1, 0, 0, 0, .null, [])) (y_s := (209, [some (.ref _), some (.int _), some (.int _), some (.int _), some (.int _)], [.int (_ + _)], _)) rfl (u_ rfl) ?_
        refine w_t (pc := 209) (e_s := (0, 2, 0, 0, 0, .int 48, [])) (y_s := (211, [some (.ref _), some (.int _), some (.int _), some (.int _), some (.int _)], [.int _, .int _], _)) rfl (u_ rfl) ?_
        refine w_t (pc := 211) (e_s := (7, 1, 0, 1, 0, .null, [])) (y_s := (212, [some (.ref _), some (.int _), some (.int _), some (.int _), some (.int _)], [.int (_ - _)], _)) rfl (u_ rfl) ?_
        refine w_t (pc := 212) (e_s := (4, 1, 3, 0, 0, .null, [])) (y_s := (213, [some (.ref _), some (.int _), some (.int _), some (.int _), some (.int _)], [], _)) rfl (u_ rfl) ?_
        refine w_t (pc := 213) (e_s := (19, 3, 4, 0, 0, .int 1, [])) (y_s := (216, [some (.ref _), some (.int _), some (.int _), some (.int _), some (.int _)], [], _)) rfl (u_ rfl) ?_
        refine w_t (pc := 216) (e_s := (3, 1, 0, 0, 0, .null, [])) (y_s := (217, [some (.ref _), some (.int _), some (.int _), some (.int _), some (.int _)], [.ref _], _)) rfl (u_ rfl) ?_
        refine w_t (pc := 217) (e_s := (39, 1, 0, 0, 0, .null, [])) (y_s := (218, [some (.ref _), some (.int _), some (.int _), some (.int _), some (.int _)], [.ref _, .ref _], _)) rfl (u_ rfl) ?_
        refine w20 (pc := 218) (len_s := 3) rfl ?_
        refine w_t (pc := 221) (e_s := (0, 1, 0, 0, 0, .int 1, [])) (y_s := (222, [some (.ref _), some (.int _), some (.int _), some (.int _), some (.int _)], [.int _, .int _, .ref _], _)) rfl (u_ rfl) ?_
        refine w_t (pc := 222) (e_s := (7, 1, 0, 0, 0, .null, [])) (y_s := (223, [some (.ref _), some (.int _), some (.int _), some (.int _), some (.int _)], [.int (_ + _), .ref _], _)) rfl (u_ rfl) ?_
        refine w21 (pc := 223) (len_s := 3) rfl ?_
        refine w_t (pc := 226) (e_s := (17, 3, 176, 0, 0, .null, [])) (y_s := (176, [some (.ref _), some (.int _), some (.int _), some (.int _), some (.int _)], [], _)) rfl (u_ rfl) ?_
        exact t_s
  · replace t_s := t_s.2 c1_s
    refine w_t (pc := 229) (e_s := (1, 2, 4, 0, 0, .null, [])) (y_s := (231, [some (.ref _), some (.int _), some (.int _), some (.int _), some (.int _)], [.int _], _)) rfl (u_ rfl) ?_
    refine wq1 (pc := 231) (len_s := 3) rfl rfl (fun c11 => ?_) (fun c11 => ?_)
    · replace t_s := t_s.1 c11
      refine w_t (pc := 234) (e_s := (3, 1, 0, 0, 0, .null, [])) (y_s := (235, [some (.ref _), some (.int _), some (.int _), some (.int _), some (.int _)], [.ref _], _)) rfl (u_ rfl) ?_
      refine wcI (pc := 235) (len_s := 3) rfl rfl (l := [some (.ref _)]) rfl (wmI t_s (fun v12 h12 hk t_s => ?_))
      replace t_s := t_s hk
      refine w_t (pc := 238) (e_s := (17, 3, 242, 0, 0, .null, [])) (y_s := (242, [some (.ref _), some (.int _), some (.int _), some (.int _), some (.int _)], [.int _], _)) rfl (u_ rfl) ?_
      exact wrI (pc := 242) (len_s := 1) rfl hk t_s
    · replace t_s := t_s.2 c11
      refine w_t (pc := 241) (e_s := (1, 1, 3, 0, 0, .null, [])) (y_s := (242, [some (.ref _), some (.int _), some (.int _), some (.int _), some (.int _)], [.int _], _)) rfl (u_ rfl) ?_
      exact wrI (pc := 242) (len_s := 1) rfl hk t_s
/-- ColdShodModel.workOut(II)I, from 0 on -/
theorem sg_176_0 {F_s : Nat} {x1_s x2_s : Int32} {h_s : zH} {K_s : Int32 → zH → Prop} (hk : hKn h_s) (t_s : wF F_s 176 (33, [some (.ref 102), some (.int x1_s), some (.int x2_s), some (.int 0), some (.int 0), some (.int 1), none, none], [], (h_s.1, zup (zup (zup (zup (zup h_s.2.1 102 15 x1_s) 102 16 0) 102 17 x2_s) 102 18 (-1)) 102 19 0, h_s.2.2.1, h_s.2.2.2)) (gI K_s)) : wF (F_s + 1) 176 (0, [some (.ref 102), some (.int x1_s), some (.int x2_s), none, none, none, none, none], [], h_s) (gI K_s) := by
  refine w_0 (pc := 0) (e_s := (3, 1, 0, 0, 0, .null, [])) (y_s := (1, [some (.ref _), some (.int _), some (.int _), none, none, none, none, none], [.ref _], _)) rfl (u_ rfl) ?_
  refine w_t (pc := 1) (e_s := (1, 1, 1, 0, 0, .null, [])) (y_s := (2, [some (.ref _), some (.int _), some (.int _), none, none, none, none, none], [.int _, .ref _], _)) rfl (u_ rfl) ?_
  refine w21 (pc := 2) (len_s := 3) rfl ?_
  refine w_t (pc := 5) (e_s := (3, 1, 0, 0, 0, .null, [])) (y_s := (6, [some (.ref _), some (.int _), some (.int _), none, none, none, none, none], [.ref _], _)) rfl (u_ rfl) ?_
  refine w_t (pc := 6) (e_s := (0, 1, 0, 0, 0, .int 0, [])) (y_s := (7, [some (.ref _), some (.int _), some (.int _), none, none, none, none, none], [.int _, .ref _], _)) rfl (u_ rfl) ?_
  refine w21 (pc := 7) (len_s := 3) rfl ?_
  refine w_t (pc := 10) (e_s := (3, 1, 0, 0, 0, .null, [])) (y_s := (11, [some (.ref _), some (.int _), some (.int _), none, none, none, none, none], [.ref _], _)) rfl (u_ rfl) ?_
  refine w_t (pc := 11) (e_s := (1, 1, 2, 0, 0, .null, [])) (y_s := (12, [some (.ref _), some (.int _), some (.int _), none, none, none, none, none], [.int _, .ref _], _)) rfl (u_ rfl) ?_
  refine w21 (pc := 12) (len_s := 3) rfl ?_
  refine w_t (pc := 15) (e_s := (3, 1, 0, 0, 0, .null, [])) (y_s := (16, [some (.ref _), some (.int _), some (.int _), none, none, none, none, none], [.ref _], _)) rfl (u_ rfl) ?_
  refine w_t (pc := 16) (e_s := (0, 1, 0, 0, 0, .int (-1), [])) (y_s := (17, [some (.ref _), some (.int _), some (.int _), none, none, none, none, none], [.int _, .ref _], _)) rfl (u_ rfl) ?_
  refine w21 (pc := 17) (len_s := 3) rfl ?_
  refine w_t (pc := 20) (e_s := (3, 1, 0, 0, 0, .null, [])) (y_s := (21, [some (.ref _), some (.int _), some (.int _), none, none, none, none, none], [.ref _], _)) rfl (u_ rfl) ?_
  refine w_t (pc := 21) (e_s := (0, 1, 0, 0, 0, .int 0, [])) (y_s := (22, [some (.ref _), some (.int _), some (.int _), none, none, none, none, none], [.int _, .ref _], _)) rfl (u_ rfl) ?_
  refine w21 (pc := 22) (len_s := 3) rfl ?_
  refine w_t (pc := 25) (e_s := (0, 1, 0, 0, 0, .int 0, [])) (y_s := (26, [some (.ref _), some (.int _), some (.int _), none, none, none, none, none], [.int _], _)) rfl (u_ rfl) ?_
  refine w_t (pc := 26) (e_s := (4, 1, 3, 0, 0, .null, [])) (y_s := (27, [some (.ref _), some (.int _), some (.int _), some (.int _), none, none, none, none], [], _)) rfl (u_ rfl) ?_
  refine w_t (pc := 27) (e_s := (0, 1, 0, 0, 0, .int 0, [])) (y_s := (28, [some (.ref _), some (.int _), some (.int _), some (.int _), none, none, none, none], [.int _], _)) rfl (u_ rfl) ?_
  refine w_t (pc := 28) (e_s := (4, 2, 4, 0, 0, .null, [])) (y_s := (30, [some (.ref _), some (.int _), some (.int _), some (.int _), some (.int _), none, none, none], [], _)) rfl (u_ rfl) ?_
  refine w_t (pc := 30) (e_s := (0, 1, 0, 0, 0, .int 1, [])) (y_s := (31, [some (.ref _), some (.int _), some (.int _), some (.int _), some (.int _), none, none, none], [.int _], _)) rfl (u_ rfl) ?_
  refine w_t (pc := 31) (e_s := (4, 2, 5, 0, 0, .null, [])) (y_s := (33, [some (.ref _), some (.int _), some (.int _), some (.int _), some (.int _), some (.int _), none, none], [], _)) rfl (u_ rfl) ?_
  exact t_s
/-- ColdShodModel.workOut(II)I, from 33 on -/
theorem sg_176_33 {F_s : Nat} {x1_s x2_s x3 x4_s x5_s : Int32} {l6 l7 : Option Value} {h_s : zH} {K_s : Int32 → zH → Prop} (hk : hKn h_s) (t_s : (x5_s.toInt = 0 → (((h_s.2.1 102 18).toInt < 0 → (((h_s.2.1 102 16).toInt < (h_s.2.1 102 17).toInt → wF F_s 167 (0, [some (.ref 102)], [], h_s) (gI (fun v4_s h4 => hKn h4 → K_s v4_s h4))) ∧ (¬ (h_s.2.1 102 16).toInt < (h_s.2.1 102 17).toInt → K_s x4_s h_s))) ∧ (¬ (h_s.2.1 102 18).toInt < 0 → K_s x4_s h_s))) ∧ (¬ x5_s.toInt = 0 → wF F_s 169 (0, [some (.ref 102), none, none], [], h_s) (gI (fun v5 h5 => hKn h5 → wF F_s 168 (0, [some (.ref 102), some (.int 63)], [], h5) (gI (fun v6 h6 => hKn h6 → (v6.toInt = 0 → wF F_s 176 (74, [some (.ref 102), some (.int x1_s), some (.int x2_s), some (.int x3), some (.int x4_s), some (.int x5_s), some (.int v5), some (.int 1)], [], h6) (gI K_s)) ∧ (¬ v6.toInt = 0 → ((v5.toInt = 0 → wF F_s 169 (0, [some (.ref 102), none, none], [], h6) (gI (fun v9 h9 => hKn h9 → wF F_s 176 (74, [some (.ref 102), some (.int x1_s), some (.int x2_s), some (.int x3), some (.int x4_s), some (.int x5_s), some (.int v9), some (.int 0)], [], h9) (gI K_s)))) ∧ (¬ v5.toInt = 0 → wF F_s 169 (0, [some (.ref 102), none, none], [], h6) (gI (fun v10 h10 => hKn h10 → wF F_s 176 (74, [some (.ref 102), some (.int x1_s), some (.int x2_s), some (.int x3), some (.int x4_s), some (.int x5_s), some (.int v10), some (.int 1)], [], h10) (gI K_s)))))))))))) : wF (F_s + 1) 176 (33, [some (.ref 102), some (.int x1_s), some (.int x2_s), some (.int x3), some (.int x4_s), some (.int x5_s), l6, l7], [], h_s) (gI K_s) := by
  refine w_0 (pc := 33) (e_s := (1, 2, 5, 0, 0, .null, [])) (y_s := (35, [some (.ref _), some (.int _), some (.int _), some (.int _), some (.int _), some (.int _), _, _], [.int _], _)) rfl (u_ rfl) ?_
  refine wq0 (pc := 35) (len_s := 3) rfl rfl (fun c1_s => ?_) (fun c1_s => ?_)
  · replace t_s := t_s.1 c1_s
    refine w_t (pc := 107) (e_s := (3, 1, 0, 0, 0, .null, [])) (y_s := (108, [some (.ref _), some (.int _), some (.int _), some (.int _), some (.int _), some (.int _), _, _], [.ref _], _)) rfl (u_ rfl) ?_
    refine w20 (pc := 108) (len_s := 3) rfl ?_
    refine wq3 (pc := 111) (len_s := 3) rfl rfl (fun c2_s => ?_) (fun c2_s => ?_)
    · replace t_s := t_s.1 c2_s
      refine w_t (pc := 114) (e_s := (3, 1, 0, 0, 0, .null, [])) (y_s := (115, [some (.ref _), some (.int _), some (.int _), some (.int _), some (.int _), some (.int _), _, _], [.ref _], _)) rfl (u_ rfl) ?_
      refine w20 (pc := 115) (len_s := 3) rfl ?_
      refine w_t (pc := 118) (e_s := (3, 1, 0, 0, 0, .null, [])) (y_s := (119, [some (.ref _), some (.int _), some (.int _), some (.int _), some (.int _), some (.int _), _, _], [.ref _, .int _], _)) rfl (u_ rfl) ?_
      refine w20 (pc := 119) (len_s := 3) rfl ?_
      refine wi3 (pc := 122) (len_s := 3) rfl rfl rfl (fun c3_s => ?_) (fun c3_s => ?_)
      · replace t_s := t_s.1 c3_s
        refine w_t (pc := 125) (e_s := (3, 1, 0, 0, 0, .null, [])) (y_s := (126, [some (.ref _), some (.int _), some (.int _), some (.int _), some (.int _), some (.int _), _, _], [.ref _], _)) rfl (u_ rfl) ?_
        refine wcI (pc := 126) (len_s := 3) rfl rfl (l := [some (.ref _)]) rfl (wmI t_s (fun v4_s h4 hk t_s => ?_))
        replace t_s := t_s hk
        exact wrI (pc := 129) (len_s := 1) rfl hk t_s
      · replace t_s := t_s.2 c3_s
        refine w_t (pc := 130) (e_s := (1, 2, 4, 0, 0, .null, [])) (y_s := (132, [some (.ref _), some (.int _), some (.int _), some (.int _), some (.int _), some (.int _), _, _], [.int _], _)) rfl (u_ rfl) ?_
        exact wrI (pc := 132) (len_s := 1) rfl hk t_s
    · replace t_s := t_s.2 c2_s
      refine w_t (pc := 130) (e_s := (1, 2, 4, 0, 0, .null, [])) (y_s := (132, [some (.ref _), some (.int _), some (.int _), some (.int _), some (.int _), some (.int _), _, _], [.int _], _)) rfl (u_ rfl) ?_
      exact wrI (pc := 132) (len_s := 1) rfl hk t_s
  · replace t_s := t_s.2 c1_s
    refine w_t (pc := 38) (e_s := (3, 1, 0, 0, 0, .null, [])) (y_s := (39, [some (.ref _), some (.int _), some (.int _), some (.int _), some (.int _), some (.int _), _, _], [.ref _], _)) rfl (u_ rfl) ?_
    refine wcI (pc := 39) (len_s := 3) rfl rfl (l := [some (.ref _), none, none]) rfl (wmI t_s (fun v5 h5 hk t_s => ?_))
    replace t_s := t_s hk
    refine w_t (pc := 42) (e_s := (4, 2, 6, 0, 0, .null, [])) (y_s := (44, [some (.ref _), some (.int _), some (.int _), some (.int _), some (.int _), some (.int _), some (.int _), _], [], _)) rfl (u_ rfl) ?_
    refine w_t (pc := 44) (e_s := (0, 1, 0, 0, 0, .int 1, [])) (y_s := (45, [some (.ref _), some (.int _), some (.int _), some (.int _), some (.int _), some (.int _), some (.int _), _], [.int _], _)) rfl (u_ rfl) ?_
    refine w_t (pc := 45) (e_s := (4, 2, 7, 0, 0, .null, [])) (y_s := (47, [some (.ref _), some (.int _), some (.int _), some (.int _), some (.int _), some (.int _), some (.int _), some (.int _)], [], _)) rfl (u_ rfl) ?_
    refine w_t (pc := 47) (e_s := (3, 1, 0, 0, 0, .null, [])) (y_s := (48, [some (.ref _), some (.int _), some (.int _), some (.int _), some (.int _), some (.int _), some (.int _), some (.int _)], [.ref _], _)) rfl (u_ rfl) ?_
    refine w_t (pc := 48) (e_s := (0, 2, 0, 0, 0, .int 63, [])) (y_s := (50, [some (.ref _), some (.int _), some (.int _), some (.int _), some (.int _), some (.int _), some (.int _), some (.int _)], [.int _, .ref _], _)) rfl (u_ rfl) ?_
    refine wcI (pc := 50) (len_s := 3) rfl rfl (l := [some (.ref _), some (.int _)]) rfl (wmI t_s (fun v6 h6 hk t_s => ?_))
    replace t_s := t_s hk
    refine wq0 (pc := 53) (len_s := 3) rfl rfl (fun c7_s => ?_) (fun c7_s => ?_)
    · replace t_s := t_s.1 c7_s
      exact t_s
    · replace t_s := t_s.2 c7_s
      refine w_t (pc := 56) (e_s := (1, 2, 6, 0, 0, .null, [])) (y_s := (58, [some (.ref _), some (.int _), some (.int _), some (.int _), some (.int _), some (.int _), some (.int _), some (.int _)], [.int _], _)) rfl (u_ rfl) ?_
      refine wq0 (pc := 58) (len_s := 3) rfl rfl (fun c8_s => ?_) (fun c8_s => ?_)
      · replace t_s := t_s.1 c8_s
        refine w_t (pc := 65) (e_s := (0, 1, 0, 0, 0, .int 0, [])) (y_s := (66, [some (.ref _), some (.int _), some (.int _), some (.int _), some (.int _), some (.int _), some (.int _), some (.int _)], [.int _], _)) rfl (u_ rfl) ?_
        refine w_t (pc := 66) (e_s := (4, 2, 7, 0, 0, .null, [])) (y_s := (68, [some (.ref _), some (.int _), some (.int _), some (.int _), some (.int _), some (.int _), some (.int _), some (.int _)], [], _)) rfl (u_ rfl) ?_
        refine w_t (pc := 68) (e_s := (3, 1, 0, 0, 0, .null, [])) (y_s := (69, [some (.ref _), some (.int _), some (.int _), some (.int _), some (.int _), some (.int _), some (.int _), some (.int _)], [.ref _], _)) rfl (u_ rfl) ?_
        refine wcI (pc := 69) (len_s := 3) rfl rfl (l := [some (.ref _), none, none]) rfl (wmI t_s (fun v9 h9 hk t_s => ?_))
        replace t_s := t_s hk
        refine w_t (pc := 72) (e_s := (4, 2, 6, 0, 0, .null, [])) (y_s := (74, [some (.ref _), some (.int _), some (.int _), some (.int _), some (.int _), some (.int _), some (.int _), some (.int _)], [], _)) rfl (u_ rfl) ?_
        exact t_s
      · replace t_s := t_s.2 c8_s
        refine w_t (pc := 61) (e_s := (0, 1, 0, 0, 0, .int 1, [])) (y_s := (62, [some (.ref _), some (.int _), some (.int _), some (.int _), some (.int _), some (.int _), some (.int _), some (.int _)], [.int _], _)) rfl (u_ rfl) ?_
        refine w_t (pc := 62) (e_s := (17, 3, 66, 0, 0, .null, [])) (y_s := (66, [some (.ref _), some (.int _), some (.int _), some (.int _), some (.int _), some (.int _), some (.int _), some (.int _)], [.int _], _)) rfl (u_ rfl) ?_
        refine w_t (pc := 66) (e_s := (4, 2, 7, 0, 0, .null, [])) (y_s := (68, [some (.ref _), some (.int _), some (.int _), some (.int _), some (.int _), some (.int _), some (.int _), some (.int _)], [], _)) rfl (u_ rfl) ?_
        refine w_t (pc := 68) (e_s := (3, 1, 0, 0, 0, .null, [])) (y_s := (69, [some (.ref _), some (.int _), some (.int _), some (.int _), some (.int _), some (.int _), some (.int _), some (.int _)], [.ref _], _)) rfl (u_ rfl) ?_
        refine wcI (pc := 69) (len_s := 3) rfl rfl (l := [some (.ref _), none, none]) rfl (wmI t_s (fun v10 h10 hk t_s => ?_))
        replace t_s := t_s hk
        refine w_t (pc := 72) (e_s := (4, 2, 6, 0, 0, .null, [])) (y_s := (74, [some (.ref _), some (.int _), some (.int _), some (.int _), some (.int _), some (.int _), some (.int _), some (.int _)], [], _)) rfl (u_ rfl) ?_
        exact t_s
/-- ColdShodModel.workOut(II)I, from 74 on -/
theorem sg_176_74 {F_s : Nat} {x1_s x2_s x3 x4_s x5_s x6 x7 : Int32} {h_s : zH} {K_s : Int32 → zH → Prop} (hk : hKn h_s) (t_s : ((h_s.2.1 102 18).toInt < 0 → ((x7.toInt = 0 → wF F_s 168 (0, [some (.ref 102), some (.int 59)], [], h_s) (gI (fun v3 h3 => hKn h3 → wF F_s 176 (33, [some (.ref 102), some (.int x1_s), some (.int x2_s), some (.int x3), some (.int x4_s), some (.int v3), some (.int x6), some (.int x7)], [], h3) (gI K_s)))) ∧ (¬ x7.toInt = 0 → ((x3.toInt = 0 → wF F_s 168 (0, [some (.ref 102), some (.int 59)], [], h_s) (gI (fun v5 h5 => hKn h5 → wF F_s 176 (33, [some (.ref 102), some (.int x1_s), some (.int x2_s), some (.int 1), some (.int x6), some (.int v5), some (.int x6), some (.int x7)], [], h5) (gI K_s)))) ∧ (¬ x3.toInt = 0 → wF F_s 168 (0, [some (.ref 102), some (.int 59)], [], h_s) (gI (fun v6 h6 => hKn h6 → wF F_s 176 (33, [some (.ref 102), some (.int x1_s), some (.int x2_s), some (.int x3), some (.int x4_s), some (.int v6), some (.int x6), some (.int x7)], [], h6) (gI K_s)))))))) ∧ (¬ (h_s.2.1 102 18).toInt < 0 → wF F_s 168 (0, [some (.ref 102), some (.int 59)], [], h_s) (gI (fun v7 h7 => hKn h7 → wF F_s 176 (33, [some (.ref 102), some (.int x1_s), some (.int x2_s), some (.int x3), some (.int x4_s), some (.int v7), some (.int x6), some (.int x7)], [], h7) (gI K_s))))) : wF (F_s + 1) 176 (74, [some (.ref 102), some (.int x1_s), some (.int x2_s), some (.int x3), some (.int x4_s), some (.int x5_s), some (.int x6), some (.int x7)], [], h_s) (gI K_s) := by
  refine w_0 (pc := 74) (e_s := (3, 1, 0, 0, 0, .null, [])) (y_s := (75, [some (.ref _), some (.int _), some (.int _), some (.int _), some (.int _), some (.int _), some (.int _), some (.int _)], [.ref _], _)) rfl (u_ rfl) ?_
  refine w20 (pc := 75) (len_s := 3) rfl ?_
  refine wq3 (pc := 78) (len_s := 3) rfl rfl (fun c1_s => ?_) (fun c1_s => ?_)
  · replace t_s := t_s.1 c1_s
    refine w_t (pc := 81) (e_s := (1, 2, 7, 0, 0, .null, [])) (y_s := (83, [some (.ref _), some (.int _), some (.int _), some (.int _), some (.int _), some (.int _), some (.int _), some (.int _)], [.int _], _)) rfl (u_ rfl) ?_
    refine wq0 (pc := 83) (len_s := 3) rfl rfl (fun c2_s => ?_) (fun c2_s => ?_)
    · replace t_s := t_s.1 c2_s
      refine w_t (pc := 96) (e_s := (3, 1, 0, 0, 0, .null, [])) (y_s := (97, [some (.ref _), some (.int _), some (.int _), some (.int _), some (.int _), some (.int _), some (.int _), some (.int _)], [.ref _], _)) rfl (u_ rfl) ?_
      refine w_t (pc := 97) (e_s := (0, 2, 0, 0, 0, .int 59, [])) (y_s := (99, [some (.ref _), some (.int _), some (.int _), some (.int _), some (.int _), some (.int _), some (.int _), some (.int _)], [.int _, .ref _], _)) rfl (u_ rfl) ?_
      refine wcI (pc := 99) (len_s := 3) rfl rfl (l := [some (.ref _), some (.int _)]) rfl (wmI t_s (fun v3 h3 hk t_s => ?_))
      replace t_s := t_s hk
      refine w_t (pc := 102) (e_s := (4, 2, 5, 0, 0, .null, [])) (y_s := (104, [some (.ref _), some (.int _), some (.int _), some (.int _), some (.int _), some (.int _), some (.int _), some (.int _)], [], _)) rfl (u_ rfl) ?_
      refine w_t (pc := 104) (e_s := (17, 3, 33, 0, 0, .null, [])) (y_s := (33, [some (.ref _), some (.int _), some (.int _), some (.int _), some (.int _), some (.int _), some (.int _), some (.int _)], [], _)) rfl (u_ rfl) ?_
      exact t_s
    · replace t_s := t_s.2 c2_s
      refine w_t (pc := 86) (e_s := (1, 1, 3, 0, 0, .null, [])) (y_s := (87, [some (.ref _), some (.int _), some (.int _), some (.int _), some (.int _), some (.int _), some (.int _), some (.int _)], [.int _], _)) rfl (u_ rfl) ?_
      refine wq1 (pc := 87) (len_s := 3) rfl rfl (fun c4_s => ?_) (fun c4_s => ?_)
      · replace t_s := t_s.1 c4_s
        refine w_t (pc := 90) (e_s := (0, 1, 0, 0, 0, .int 1, [])) (y_s := (91, [some (.ref _), some (.int _), some (.int _), some (.int _), some (.int _), some (.int _), some (.int _), some (.int _)], [.int _], _)) rfl (u_ rfl) ?_
        refine w_t (pc := 91) (e_s := (4, 1, 3, 0, 0, .null, [])) (y_s := (92, [some (.ref _), some (.int _), some (.int _), some (.int _), some (.int _), some (.int _), some (.int _), some (.int _)], [], _)) rfl (u_ rfl) ?_
        refine w_t (pc := 92) (e_s := (1, 2, 6, 0, 0, .null, [])) (y_s := (94, [some (.ref _), some (.int _), some (.int _), some (.int _), some (.int _), some (.int _), some (.int _), some (.int _)], [.int _], _)) rfl (u_ rfl) ?_
        refine w_t (pc := 94) (e_s := (4, 2, 4, 0, 0, .null, [])) (y_s := (96, [some (.ref _), some (.int _), some (.int _), some (.int _), some (.int _), some (.int _), some (.int _), some (.int _)], [], _)) rfl (u_ rfl) ?_
        refine w_t (pc := 96) (e_s := (3, 1, 0, 0, 0, .null, [])) (y_s := (97, [some (.ref _), some (.int _), some (.int _), some (.int _), some (.int _), some (.int _), some (.int _), some (.int _)], [.ref _], _)) rfl (u_ rfl) ?_
        refine w_t (pc := 97) (e_s := (0, 2, 0, 0, 0, .int 59, [])) (y_s := (99, [some (.ref _), some (.int _), some (.int _), some (.int _), some (.int _), some (.int _), some (.int _), some (.int _)], [.int _, .ref _], _)) rfl (u_ rfl) ?_
        refine wcI (pc := 99) (len_s := 3) rfl rfl (l := [some (.ref _), some (.int _)]) rfl (wmI t_s (fun v5 h5 hk t_s => ?_))
        replace t_s := t_s hk
        refine w_t (pc := 102) (e_s := (4, 2, 5, 0, 0, .null, [])) (y_s := (104, [some (.ref _), some (.int _), some (.int _), some (.int _), some (.int _), some (.int _), some (.int _), some (.int _)], [], _)) rfl (u_ rfl) ?_
        refine w_t (pc := 104) (e_s := (17, 3, 33, 0, 0, .null, [])) (y_s := (33, [some (.ref _), some (.int _), some (.int _), some (.int _), some (.int _), some (.int _), some (.int _), some (.int _)], [], _)) rfl (u_ rfl) ?_
        exact t_s
      · replace t_s := t_s.2 c4_s
        refine w_t (pc := 96) (e_s := (3, 1, 0, 0, 0, .null, [])) (y_s := (97, [some (.ref _), some (.int _), some (.int _), some (.int _), some (.int _), some (.int _), some (.int _), some (.int _)], [.ref _], _)) rfl (u_ rfl) ?_
        refine w_t (pc := 97) (e_s := (0, 2, 0, 0, 0, .int 59, [])) (y_s := (99, [some (.ref _), some (.int _), some (.int _), some (.int _), some (.int _), some (.int _), some (.int _), some (.int _)], [.int _, .ref _], _)) rfl (u_ rfl) ?_
        refine wcI (pc := 99) (len_s := 3) rfl rfl (l := [some (.ref _), some (.int _)]) rfl (wmI t_s (fun v6 h6 hk t_s => ?_))
        replace t_s := t_s hk
        refine w_t (pc := 102) (e_s := (4, 2, 5, 0, 0, .null, [])) (y_s := (104, [some (.ref _), some (.int _), some (.int _), some (.int _), some (.int _), some (.int _), some (.int _), some (.int _)], [], _)) rfl (u_ rfl) ?_
        refine w_t (pc := 104) (e_s := (17, 3, 33, 0, 0, .null, [])) (y_s := (33, [some (.ref _), some (.int _), some (.int _), some (.int _), some (.int _), some (.int _), some (.int _), some (.int _)], [], _)) rfl (u_ rfl) ?_
        exact t_s
  · replace t_s := t_s.2 c1_s
    refine w_t (pc := 96) (e_s := (3, 1, 0, 0, 0, .null, [])) (y_s := (97, [some (.ref _), some (.int _), some (.int _), some (.int _), some (.int _), some (.int _), some (.int _), some (.int _)], [.ref _], _)) rfl (u_ rfl) ?_
    refine w_t (pc := 97) (e_s := (0, 2, 0, 0, 0, .int 59, [])) (y_s := (99, [some (.ref _), some (.int _), some (.int _), some (.int _), some (.int _), some (.int _), some (.int _), some (.int _)], [.int _, .ref _], _)) rfl (u_ rfl) ?_
    refine wcI (pc := 99) (len_s := 3) rfl rfl (l := [some (.ref _), some (.int _)]) rfl (wmI t_s (fun v7 h7 hk t_s => ?_))
    replace t_s := t_s hk
    refine w_t (pc := 102) (e_s := (4, 2, 5, 0, 0, .null, [])) (y_s := (104, [some (.ref _), some (.int _), some (.int _), some (.int _), some (.int _), some (.int _), some (.int _), some (.int _)], [], _)) rfl (u_ rfl) ?_
    refine w_t (pc := 104) (e_s := (17, 3, 33, 0, 0, .null, [])) (y_s := (33, [some (.ref _), some (.int _), some (.int _), some (.int _), some (.int _), some (.int _), some (.int _), some (.int _)], [], _)) rfl (u_ rfl) ?_
    exact t_s
/-- ColdShodModel.law()I, from 0 on -/
theorem sg_177_0 {F_s : Nat}  {h_s : zH} {K_s : Int32 → zH → Prop} (hk : hKn h_s) (t_s : wF F_s 176 (0, [some (.ref 102), some (.int (-1)), some (.int (h_s.2.1 102 12)), none, none, none, none, none], [], h_s) (gI (fun v1_s h1 => hKn h1 → ((h1.2.1 102 18).toInt < 0 → wF F_s 177 (37, [some (.ref 102), some (.int v1_s), some (.int (h1.2.1 102 12)), some (.int 0)], [], (h1.1, zup h1.2.1 102 12 0, h1.2.2.1, h1.2.2.2)) (gI K_s)) ∧ (¬ (h1.2.1 102 18).toInt < 0 → K_s ((-100) - (h1.2.1 102 18)) (h1.1, zup h1.2.1 102 12 0, h1.2.2.1, h1.2.2.2))))) : wF (F_s + 1) 177 (0, [some (.ref 102), none, none, none], [], h_s) (gI K_s) := by
  refine w_0 (pc := 0) (e_s := (3, 1, 0, 0, 0, .null, [])) (y_s := (1, [some (.ref _), none, none, none], [.ref _], _)) rfl (u_ rfl) ?_
  refine w_t (pc := 1) (e_s := (0, 1, 0, 0, 0, .int (-1), [])) (y_s := (2, [some (.ref _), none, none, none], [.int _, .ref _], _)) rfl (u_ rfl) ?_
  refine w_t (pc := 2) (e_s := (3, 1, 0, 0, 0, .null, [])) (y_s := (3, [some (.ref _), none, none, none], [.ref _, .int _, .ref _], _)) rfl (u_ rfl) ?_
  refine w20 (pc := 3) (len_s := 3) rfl ?_
  refine wcI (pc := 6) (len_s := 3) rfl rfl (l := [some (.ref _), some (.int _), some (.int _), none, none, none, none, none]) rfl (wmI t_s (fun v1_s h1 hk t_s => ?_))
  replace t_s := t_s hk
  refine w_t (pc := 9) (e_s := (4, 1, 1, 0, 0, .null, [])) (y_s := (10, [some (.ref _), some (.int _), none, none], [], _)) rfl (u_ rfl) ?_
  refine w_t (pc := 10) (e_s := (3, 1, 0, 0, 0, .null, [])) (y_s := (11, [some (.ref _), some (.int _), none, none], [.ref _], _)) rfl (u_ rfl) ?_
  refine w20 (pc := 11) (len_s := 3) rfl ?_
  refine w_t (pc := 14) (e_s := (4, 1, 2, 0, 0, .null, [])) (y_s := (15, [some (.ref _), some (.int _), some (.int _), none], [], _)) rfl (u_ rfl) ?_
  refine w_t (pc := 15) (e_s := (3, 1, 0, 0, 0, .null, [])) (y_s := (16, [some (.ref _), some (.int _), some (.int _), none], [.ref _], _)) rfl (u_ rfl) ?_
  refine w_t (pc := 16) (e_s := (0, 1, 0, 0, 0, .int 0, [])) (y_s := (17, [some (.ref _), some (.int _), some (.int _), none], [.int _, .ref _], _)) rfl (u_ rfl) ?_
  refine w21 (pc := 17) (len_s := 3) rfl ?_
  refine w_t (pc := 20) (e_s := (3, 1, 0, 0, 0, .null, [])) (y_s := (21, [some (.ref _), some (.int _), some (.int _), none], [.ref _], _)) rfl (u_ rfl) ?_
  refine w20 (pc := 21) (len_s := 3) rfl ?_
  refine wq2 (pc := 24) (len_s := 3) rfl rfl (fun c2_s => ?_) (fun c2_s => ?_)
  · replace t_s := t_s.1 c2_s
    refine w_t (pc := 35) (e_s := (0, 1, 0, 0, 0, .int 0, [])) (y_s := (36, [some (.ref _), some (.int _), some (.int _), none], [.int _], _)) rfl (u_ rfl) ?_
    refine w_t (pc := 36) (e_s := (4, 1, 3, 0, 0, .null, [])) (y_s := (37, [some (.ref _), some (.int _), some (.int _), some (.int _)], [], _)) rfl (u_ rfl) ?_
    exact t_s
  · replace t_s := t_s.2 c2_s
    refine w_t (pc := 27) (e_s := (0, 2, 0, 0, 0, .int (-100), [])) (y_s := (29, [some (.ref _), some (.int _), some (.int _), none], [.int _], _)) rfl (u_ rfl) ?_
    refine w_t (pc := 29) (e_s := (3, 1, 0, 0, 0, .null, [])) (y_s := (30, [some (.ref _), some (.int _), some (.int _), none], [.ref _, .int _], _)) rfl (u_ rfl) ?_
    refine w20 (pc := 30) (len_s := 3) rfl ?_
    refine w_t (pc := 33) (e_s := (7, 1, 0, 1, 0, .null, [])) (y_s := (34, [some (.ref _), some (.int _), some (.int _), none], [.int (_ - _)], _)) rfl (u_ rfl) ?_
    exact wrI (pc := 34) (len_s := 1) rfl hk t_s
/-- ColdShodModel.law()I, from 37 on -/
theorem sg_177_37 {F_s : Nat} {x1_s x2_s x3 : Int32} {h_s : zH} {K_s : Int32 → zH → Prop} (hk : hKn h_s) (t_s : (x3.toInt < x2_s.toInt → (zix x3 < 120 → wF F_s 177 (37, [some (.ref 102), some (.int x1_s), some (.int x2_s), some (.int (x3 + 1))], [], (h_s.1, zup h_s.2.1 110 (zix x3) (h_s.2.1 109 (zix x3)), h_s.2.2.1, h_s.2.2.2)) (gI K_s))) ∧ (¬ x3.toInt < x2_s.toInt → K_s 1 (h_s.1, zup h_s.2.1 102 14 x2_s, h_s.2.2.1, h_s.2.2.2))) : wF (F_s + 1) 177 (37, [some (.ref 102), some (.int x1_s), some (.int x2_s), some (.int x3)], [], h_s) (gI K_s) := by
  refine w_0 (pc := 37) (e_s := (1, 1, 3, 0, 0, .null, [])) (y_s := (38, [some (.ref _), some (.int _), some (.int _), some (.int _)], [.int _], _)) rfl (u_ rfl) ?_
  refine w_t (pc := 38) (e_s := (1, 1, 2, 0, 0, .null, [])) (y_s := (39, [some (.ref _), some (.int _), some (.int _), some (.int _)], [.int _, .int _], _)) rfl (u_ rfl) ?_
  refine wi3 (pc := 39) (len_s := 3) rfl rfl rfl (fun c1_s => ?_) (fun c1_s => ?_)
  · replace t_s := t_s.1 c1_s
    refine w_t (pc := 42) (e_s := (3, 1, 0, 0, 0, .null, [])) (y_s := (43, [some (.ref _), some (.int _), some (.int _), some (.int _)], [.ref _], _)) rfl (u_ rfl) ?_
    refine w20r (pc := 43) (len_s := 3) (q_s := 110) rfl (krq hk rfl) ?_
    refine w_t (pc := 46) (e_s := (1, 1, 3, 0, 0, .null, [])) (y_s := (47, [some (.ref _), some (.int _), some (.int _), some (.int _)], [.int _, .ref _], _)) rfl (u_ rfl) ?_
    refine w_t (pc := 47) (e_s := (3, 1, 0, 0, 0, .null, [])) (y_s := (48, [some (.ref _), some (.int _), some (.int _), some (.int _)], [.ref _, .int _, .ref _], _)) rfl (u_ rfl) ?_
    refine w20r (pc := 48) (len_s := 3) (q_s := 109) rfl (krq hk rfl) ?_
    refine w_t (pc := 51) (e_s := (1, 1, 3, 0, 0, .null, [])) (y_s := (52, [some (.ref _), some (.int _), some (.int _), some (.int _)], [.int _, .ref _, .int _, .ref _], _)) rfl (u_ rfl) ?_
    refine w22 (pc := 52) (len_s := 1) rfl (hk.1 109 0 120 rfl rfl) (fun c2_s => ?_)
    replace t_s := t_s c2_s
    refine w25 (pc := 53) (len_s := 1) rfl (hk.1 110 0 120 rfl rfl) (fun c3_s => ?_)
    refine w_t (pc := 54) (e_s := (19, 3, 3, 0, 0, .int 1, [])) (y_s := (57, [some (.ref _), some (.int _), some (.int _), some (.int _)], [], _)) rfl (u_ rfl) ?_
    refine w_t (pc := 57) (e_s := (17, 3, 37, 0, 0, .null, [])) (y_s := (37, [some (.ref _), some (.int _), some (.int _), some (.int _)], [], _)) rfl (u_ rfl) ?_
    exact t_s
  · replace t_s := t_s.2 c1_s
    refine w_t (pc := 60) (e_s := (3, 1, 0, 0, 0, .null, [])) (y_s := (61, [some (.ref _), some (.int _), some (.int _), some (.int _)], [.ref _], _)) rfl (u_ rfl) ?_
    refine w_t (pc := 61) (e_s := (1, 1, 2, 0, 0, .null, [])) (y_s := (62, [some (.ref _), some (.int _), some (.int _), some (.int _)], [.int _, .ref _], _)) rfl (u_ rfl) ?_
    refine w21 (pc := 62) (len_s := 3) rfl ?_
    refine w_t (pc := 65) (e_s := (0, 1, 0, 0, 0, .int 1, [])) (y_s := (66, [some (.ref _), some (.int _), some (.int _), some (.int _)], [.int _], _)) rfl (u_ rfl) ?_
    exact wrI (pc := 66) (len_s := 1) rfl hk t_s
