/-! THE START, second part: from the constructors' end the law's contract holds. -/
theorem zget_nn {α : Type} : ∀ {l : List α} {k : Nat}, l.length ≤ k → zget l k = none
  | [], _, _ => rfl
  | _ :: l, 0, h => by cases h
  | _ :: l, k + 1, h => zget_nn (l := l) (Nat.le_of_succ_le_succ h)
theorem hZ_sh0 : hZ sh0 := by
  intro o k hq
  match o, hq with
  | 0, _ => rfl
  | 1, hq =>
    have h := hq 5 12 rfl
    show ((zget _ k).getD 0 : Int32) = 0
    rw [zget_nn h]
    rfl
  | 2, hq =>
    have h := hq 5 12 rfl
    show ((zget _ k).getD 0 : Int32) = 0
    rw [zget_nn h]
    rfl
  | 3, hq =>
    have h := hq 5 3 rfl
    show ((zget _ k).getD 0 : Int32) = 0
    rw [zget_nn h]
    rfl
  | 4, hq =>
    have h := hq 5 8 rfl
    show ((zget _ k).getD 0 : Int32) = 0
    rw [zget_nn h]
    rfl
  | 5, hq =>
    have h := hq 5 32 rfl
    show ((zget _ k).getD 0 : Int32) = 0
    rw [zget_nn h]
    rfl
  | o + 6, _ => rfl
theorem kas_mem : ∀ {l : List (Nat × List Nat)} {k : Nat}, kas l k ≠ [] → (k, kas l k) ∈ l
  | [], _, h => absurd rfl h
  | (k', m) :: r, k, h => by
    unfold kas at h ⊢
    cases hb : Nat.beq k' k
    · rw [hb] at h
      exact List.mem_cons_of_mem _ (kas_mem h)
    · rw [Nat.eq_of_beq_eq_true hb]
      exact List.mem_cons_self
theorem kS_out {o : Nat} (h : 128 ≤ o) : kS o = none := by
  unfold kS
  rw [show Nat.blt o 128 = false by
    cases hb : Nat.blt o 128
    · rfl
    · rw [Nat.blt_eq] at hb
      omega]
  rfl
theorem krT_out {o : Nat} (h : 128 ≤ o) : krT o = [] := by
  unfold krT
  rw [show Nat.blt o 128 = false by
    cases hb : Nat.blt o 128
    · rfl
    · rw [Nat.blt_eq] at hb
      omega]
  rfl
theorem kB_out {o : Nat} (h : 128 ≤ o) : kB o = none := by
  unfold kB
  rw [show Nat.blt o 128 = false by
    cases hb : Nat.blt o 128
    · rfl
    · rw [Nat.blt_eq] at hb
      omega]
  rfl
theorem afind_mem : ∀ {T : aT} {o k : Nat} {a : aI}, afind T o k = some a → (o, k, a) ∈ T
  | [], _, _, _, h => by cases h
  | (o', k', v) :: r, o, k, a, h => by
    unfold afind at h
    cases hb : (Nat.beq o' o && Nat.beq k' k)
    · rw [hb] at h
      exact List.mem_cons_of_mem _ (afind_mem h)
    · rw [hb] at h
      rw [Bool.and_eq_true] at hb
      have e1 := Nat.eq_of_beq_eq_true hb.1
      have e2 := Nat.eq_of_beq_eq_true hb.2
      subst e1
      subst e2
      have h : some v = some a := h
      cases h
      exact List.mem_cons_self
theorem hbd_of {h : zH} (hz : hZ h) (h2 : hck2 h = true) (h4 : hck4 h = true) : hBd h.2.1 := by
  intro o k
  by_cases ho : o < 128
  · have c4 := List.all_eq_true.mp h4 o (List.mem_range.mpr ho)
    unfold hck2 at h2
    rw [Bool.and_eq_true] at h2
    have c2 := List.all_eq_true.mp h2.2 o (List.mem_range.mpr ho)
    split at c4
    · rename_i t n hs
      rw [Bool.and_eq_true] at c4
      by_cases hk : k < n
      · have c := List.all_eq_true.mp c4.1 k (List.mem_range.mpr hk)
        rw [Bool.and_eq_true, ile_eq, ile_eq] at c
        exact c
      · have e0 : h.2.1 o k = 0 := by
          refine hz o k (fun t' n' hg => ?_)
          rw [hg, hs] at c2
          dsimp only at c2
          rw [Bool.and_eq_true] at c2
          have := Nat.eq_of_beq_eq_true c2.2
          omega
        rw [e0]
        have z0 : (0 : Int32).toInt = 0 := rfl
        rw [z0]
        have c := c4.2
        unfold aiv
        split at c
        · rename_i q hq
          rw [hq]
          dsimp only
          rw [Bool.and_eq_true, ile_eq, ile_eq] at c
          exact c
        · rename_i l hq
          rw [hq]
          dsimp only
          rw [Nat.ble_eq] at c
          rw [zget_nn (by omega)]
          decide
        · rename_i hq
          rw [hq]
          exact (by decide : afull.1 ≤ 0 ∧ 0 ≤ afull.2)
    · cases c4
  · unfold aiv
    rw [kB_out (by omega)]
    exact na_rng _
/-! WHAT ENDED RUNS GIVE: rules over runs of the small machine that have come to an end (nothing is owed of bounds: a run that ended met them). -/
def wF (F_s mi : Nat) (x_s : zC) (G_s : Option Value → zH → Prop) : Prop := ∀ f_s d_s r_s h1, f_s < F_s → zr f_s d_s mi 100000 x_s = some (.inr (r_s, h1)) → G_s r_s h1
def hKn (h_s : zH) : Prop := aShp kS h_s.1 ∧ aRf krf h_s.2.2.2
def gI (K_s : Int32 → zH → Prop) : Option Value → zH → Prop := fun r_s h1 => ∃ v_s, r_s = some (.int v_s) ∧ hKn h1 ∧ K_s v_s h1
def gJ (K_s : Int64 → zH → Prop) : Option Value → zH → Prop := fun r_s h1 => ∃ v_s, r_s = some (.long v_s) ∧ hKn h1 ∧ K_s v_s h1
def gR (K_s : Nat → zH → Prop) : Option Value → zH → Prop := fun r_s h1 => ∃ v_s, r_s = some (.ref v_s) ∧ hKn h1 ∧ K_s v_s h1
def gV (K_s : zH → Prop) : Option Value → zH → Prop := fun r_s h1 => r_s = none ∧ hKn h1 ∧ K_s h1
theorem wF_zero {mi : Nat} {x_s : zC} {G_s : Option Value → zH → Prop} : wF 0 mi x_s G_s := fun f_s _ _ _ hf _ => absurd hf (Nat.not_lt_zero f_s)
theorem wF_le {F_s F' mi : Nat} {x_s : zC} {G_s : Option Value → zH → Prop} (hl : F' ≤ F_s) (w_s : wF F_s mi x_s G_s) : wF F' mi x_s G_s := fun f_s d_s r_s h1 hf hr => w_s f_s d_s r_s h1 (Nat.lt_of_lt_of_le hf hl) hr
theorem wF_mono {F_s mi : Nat} {x_s : zC} {G_s G' : Option Value → zH → Prop} (w_s : wF F_s mi x_s G_s) (hg : ∀ r_s h1, G_s r_s h1 → G' r_s h1) : wF F_s mi x_s G' := fun f_s d_s r_s h1 hf hr => hg r_s h1 (w_s f_s d_s r_s h1 hf hr)
theorem wF_all {mi : Nat} {x_s : zC} {G_s : Option Value → zH → Prop} (w_s : ∀ F_s, wF F_s mi x_s G_s) {f_s d_s : Nat} {r_s : Option Value} {h1 : zH} (hr : zr f_s d_s mi 100000 x_s = some (.inr (r_s, h1))) : G_s r_s h1 := w_s (f_s + 1) f_s d_s r_s h1 (Nat.lt_succ_self f_s) hr
section W1_s
variable {F_s mi pc len_s : Nat} {lo_s : List (Option Value)} {st_s : List Value} {h_s : zH} {G_s : Option Value → zH → Prop} {e_s : zI}
theorem w_0 {y_s : zC} (hi_s : zi mi pc = some e_s) (hs : ∀ w_s, zstep e_s (pc, lo_s, st_s, h_s) = some w_s → w_s = .inl y_s) (k_s : wF F_s mi y_s G_s) : wF (F_s + 1) mi (pc, lo_s, st_s, h_s) G_s := by
  intro f_s d_s r_s h1 hf hr
  cases f_s with
  | zero => cases hr
  | succ f_s =>
    rcases zr_step hr with ⟨_, e2_s⟩ | ⟨e1_s, he, hq⟩
    · cases e2_s
    · have he : zi mi pc = some e1_s := he
      rw [hi_s] at he
      cases he
      rcases hq with ⟨y1, hy, hz⟩ | ⟨r1_s, hy, _⟩ | ⟨a1_s, as1, y1, d1_s, r1_s, h2, hy, _⟩
      · have q_s := hs _ hy
        cases q_s
        exact k_s f_s d_s r_s h1 (by omega) hz
      · have q_s := hs _ hy
        cases q_s
      · have q_s := hs _ hy
        cases q_s
theorem w_t {y_s : zC} (hi_s : zi mi pc = some e_s) (hs : ∀ w_s, zstep e_s (pc, lo_s, st_s, h_s) = some w_s → w_s = .inl y_s) (k_s : wF F_s mi y_s G_s) : wF F_s mi (pc, lo_s, st_s, h_s) G_s := wF_le (Nat.le_succ F_s) (w_0 hi_s hs k_s)
theorem w_r {r0 : Option Value} (hi_s : zi mi pc = some e_s) (hs : ∀ w_s, zstep e_s (pc, lo_s, st_s, h_s) = some w_s → w_s = .inr (.inr r0)) (k_s : G_s r0 h_s) : wF F_s mi (pc, lo_s, st_s, h_s) G_s := by
  intro f_s d_s r_s h1 hf hr
  cases f_s with
  | zero => cases hr
  | succ f_s =>
    rcases zr_step hr with ⟨_, e2_s⟩ | ⟨e1_s, he, hq⟩
    · cases e2_s
    · have he : zi mi pc = some e1_s := he
      rw [hi_s] at he
      cases he
      rcases hq with ⟨y1, hy, _⟩ | ⟨r1_s, hy, e2_s⟩ | ⟨a1_s, as1, y1, d1_s, r1_s, h2, hy, _⟩
      · have q_s := hs _ hy
        cases q_s
      · have q_s := hs _ hy
        cases q_s
        cases e2_s
        exact k_s
      · have q_s := hs _ hy
        cases q_s
theorem w_c {a_s : Nat} {as_s : List Value} {y_s : zC} (hi_s : zi mi pc = some e_s) (hs : ∀ w_s, zstep e_s (pc, lo_s, st_s, h_s) = some w_s → w_s = .inr (.inl (a_s, as_s, y_s))) (k_s : wF F_s a_s (0, zpad (zL a_s) (zargs as_s), [], h_s) (fun r_s h1 => wF F_s mi (y_s.1, y_s.2.1, r_s.toList ++ y_s.2.2.1, h1) G_s)) : wF F_s mi (pc, lo_s, st_s, h_s) G_s := by
  intro f_s d_s r_s h1 hf hr
  cases f_s with
  | zero => cases hr
  | succ f_s =>
    rcases zr_step hr with ⟨_, e2_s⟩ | ⟨e1_s, he, hq⟩
    · cases e2_s
    · have he : zi mi pc = some e1_s := he
      rw [hi_s] at he
      cases he
      rcases hq with ⟨y1, hy, _⟩ | ⟨r1_s, hy, _⟩ | ⟨a1_s, as1, y1, d1_s, r1_s, h2, hy, _, _, h3, h4⟩
      · have q_s := hs _ hy
        cases q_s
      · have q_s := hs _ hy
        cases q_s
      · have q_s := hs _ hy
        cases q_s
        exact k_s f_s d1_s r1_s h2 (by omega) h3 f_s (d1_s + 1) r_s h1 (by omega) h4
theorem u_ {w0_s : zO} {x_s : zC} (hz : zstep e_s x_s = some w0_s) : ∀ w_s, zstep e_s x_s = some w_s → w_s = w0_s := by
  intro w_s hw
  rw [hz] at hw
  cases hw
  rfl
end W1_s
theorem cnd_some {α : Type} {c_s : Bool} {a_s : Option α} {w_s : α} (hw : (bif c_s then a_s else none) = some w_s) : c_s = true ∧ a_s = some w_s := by
  cases c_s
  · cases hw
  · exact ⟨rfl, hw⟩
/-! a step of those operations that look at a cell's shape: an ended run has met what they look at -/
section W2_s
variable {F_s mi pc len_s a_s b_s n_s o q_s : Nat} {lo_s : List (Option Value)} {st_s : List Value} {h_s : zH} {G_s : Option Value → zH → Prop} {v_s : Value} {sw_s : List (Int32 × Nat)} {x_s y_s i_s : Int32} {z_s : Int64} {w_s : zO}
theorem u20 (hw : zstep (20, len_s, a_s, b_s, 0, v_s, sw_s) (pc, lo_s, .ref o :: st_s, h_s) = some w_s) : w_s = .inl (pc + len_s, lo_s, .int (h_s.2.1 o b_s) :: st_s, h_s) := by
  have hw : zs20 len_s a_s b_s 0 (pc, lo_s, .ref o :: st_s, h_s) = some w_s := hw
  simp only [zs20] at hw
  split at hw
  · have q2_s : some (Sum.inl (pc + len_s, lo_s, Value.int (h_s.2.1 o b_s) :: st_s, h_s)) = some w_s := (cnd_some hw).2
    cases q2_s
    rfl
  · cases hw
theorem u20b (hw : zstep (20, len_s, a_s, b_s, 2, v_s, sw_s) (pc, lo_s, .ref o :: st_s, h_s) = some w_s) : w_s = .inl (pc + len_s, lo_s, .int (h_s.2.1 o b_s) :: st_s, h_s) := by
  have hw : zs20 len_s a_s b_s 2 (pc, lo_s, .ref o :: st_s, h_s) = some w_s := hw
  simp only [zs20] at hw
  split at hw
  · have q2_s : some (Sum.inl (pc + len_s, lo_s, Value.int (h_s.2.1 o b_s) :: st_s, h_s)) = some w_s := (cnd_some hw).2
    cases q2_s
    rfl
  · cases hw
theorem u20r (hq : h_s.2.2.2 o b_s = some q_s) (hw : zstep (20, len_s, a_s, b_s, 1, v_s, sw_s) (pc, lo_s, .ref o :: st_s, h_s) = some w_s) : w_s = .inl (pc + len_s, lo_s, .ref q_s :: st_s, h_s) := by
  have hw : zs20 len_s a_s b_s 1 (pc, lo_s, .ref o :: st_s, h_s) = some w_s := hw
  simp only [zs20] at hw
  split at hw
  · have q2_s : some (Sum.inl (pc + len_s, lo_s, va_rf (h_s.2.2.2 o b_s) :: st_s, h_s)) = some w_s := (cnd_some hw).2
    rw [hq] at q2_s
    cases q2_s
    rfl
  · cases hw
theorem u21 (hw : zstep (21, len_s, a_s, b_s, 0, v_s, sw_s) (pc, lo_s, .int x_s :: .ref o :: st_s, h_s) = some w_s) : w_s = .inl (pc + len_s, lo_s, st_s, (h_s.1, zup h_s.2.1 o b_s x_s, h_s.2.2.1, h_s.2.2.2)) := by
  have hw : zs21 len_s a_s b_s 0 (pc, lo_s, .int x_s :: .ref o :: st_s, h_s) = some w_s := hw
  simp only [zs21] at hw
  split at hw
  · have q2_s : some (Sum.inl (pc + len_s, lo_s, st_s, (h_s.1, zup h_s.2.1 o b_s x_s, h_s.2.2.1, h_s.2.2.2))) = some w_s := (cnd_some hw).2
    cases q2_s
    rfl
  · cases hw
theorem u21b (hw : zstep (21, len_s, a_s, b_s, 2, v_s, sw_s) (pc, lo_s, .int x_s :: .ref o :: st_s, h_s) = some w_s) : w_s = .inl (pc + len_s, lo_s, st_s, (h_s.1, zup h_s.2.1 o b_s x_s, h_s.2.2.1, h_s.2.2.2)) := by
  have hw : zs21 len_s a_s b_s 2 (pc, lo_s, .int x_s :: .ref o :: st_s, h_s) = some w_s := hw
  simp only [zs21] at hw
  split at hw
  · have q2_s : (if x_s = 0 ∨ x_s = 1 then zgo (pc + len_s, lo_s, st_s, (h_s.1, zup h_s.2.1 o b_s x_s, h_s.2.2.1, h_s.2.2.2)) else none) = some w_s := (cnd_some hw).2
    split at q2_s
    · have q3_s : some (Sum.inl (pc + len_s, lo_s, st_s, (h_s.1, zup h_s.2.1 o b_s x_s, h_s.2.2.1, h_s.2.2.2))) = some w_s := q2_s
      cases q3_s
      rfl
    · cases q2_s
  · cases hw
theorem u21r (hw : zstep (21, len_s, a_s, b_s, 1, v_s, sw_s) (pc, lo_s, .ref q_s :: .ref o :: st_s, h_s) = some w_s) : w_s = .inl (pc + len_s, lo_s, st_s, (h_s.1, h_s.2.1, h_s.2.2.1, zup h_s.2.2.2 o b_s (some q_s))) := by
  have hw : zs21 len_s a_s b_s 1 (pc, lo_s, .ref q_s :: .ref o :: st_s, h_s) = some w_s := hw
  simp only [zs21] at hw
  split at hw
  · have q2_s : some (Sum.inl (pc + len_s, lo_s, st_s, (h_s.1, h_s.2.1, h_s.2.2.1, zup h_s.2.2.2 o b_s (some q_s)))) = some w_s := (cnd_some hw).2
    cases q2_s
    rfl
  · cases hw
theorem u22 (hw : zstep (22, len_s, a_s, b_s, n_s, v_s, sw_s) (pc, lo_s, .int i_s :: .ref o :: st_s, h_s) = some w_s) : w_s = .inl (pc + len_s, lo_s, .int (h_s.2.1 o (zix i_s)) :: st_s, h_s) ∧ ∃ t_s m_s, zget h_s.1 o = some (t_s, m_s) ∧ zix i_s < m_s := by
  have hw : zs22 len_s (pc, lo_s, .int i_s :: .ref o :: st_s, h_s) = some w_s := hw
  simp only [zs22] at hw
  split at hw
  · rename_i t_s m_s hz
    have q1_s := cnd_some hw
    have q2_s : some (Sum.inl (pc + len_s, lo_s, Value.int (h_s.2.1 o (zix i_s)) :: st_s, h_s)) = some w_s := q1_s.2
    have q3_s := q1_s.1
    rw [Bool.and_eq_true, Nat.blt_eq] at q3_s
    cases q2_s
    exact ⟨rfl, t_s, m_s, hz, q3_s.2⟩
  · cases hw
theorem u23 (hw : zstep (23, len_s, a_s, b_s, n_s, v_s, sw_s) (pc, lo_s, .int i_s :: .ref o :: st_s, h_s) = some w_s) : w_s = .inl (pc + len_s, lo_s, .long (h_s.2.2.1 o (zix i_s)) :: st_s, h_s) ∧ ∃ t_s m_s, zget h_s.1 o = some (t_s, m_s) ∧ zix i_s < m_s := by
  have hw : zs23 len_s (pc, lo_s, .int i_s :: .ref o :: st_s, h_s) = some w_s := hw
  simp only [zs23] at hw
  split at hw
  · rename_i t_s m_s hz
    have q1_s := cnd_some hw
    have q2_s : some (Sum.inl (pc + len_s, lo_s, Value.long (h_s.2.2.1 o (zix i_s)) :: st_s, h_s)) = some w_s := q1_s.2
    have q3_s := q1_s.1
    rw [Bool.and_eq_true, Nat.blt_eq] at q3_s
    cases q2_s
    exact ⟨rfl, t_s, m_s, hz, q3_s.2⟩
  · cases hw
theorem u24 (hw : zstep (24, len_s, a_s, b_s, n_s, v_s, sw_s) (pc, lo_s, .int i_s :: .ref o :: st_s, h_s) = some w_s) : w_s = .inl (pc + len_s, lo_s, va_rf (h_s.2.2.2 o (zix i_s)) :: st_s, h_s) ∧ ∃ t_s m_s, zget h_s.1 o = some (t_s, m_s) ∧ zix i_s < m_s := by
  have hw : zs24 len_s (pc, lo_s, .int i_s :: .ref o :: st_s, h_s) = some w_s := hw
  simp only [zs24] at hw
  split at hw
  · rename_i t_s m_s hz
    have q1_s := cnd_some hw
    have q2_s : some (Sum.inl (pc + len_s, lo_s, va_rf (h_s.2.2.2 o (zix i_s)) :: st_s, h_s)) = some w_s := q1_s.2
    have q3_s := q1_s.1
    rw [Bool.and_eq_true, Nat.blt_eq] at q3_s
    cases q2_s
    exact ⟨rfl, t_s, m_s, hz, q3_s.2⟩
  · cases hw
theorem u25 (hw : zstep (25, len_s, a_s, b_s, n_s, v_s, sw_s) (pc, lo_s, .int x_s :: .int i_s :: .ref o :: st_s, h_s) = some w_s) : w_s = .inl (pc + len_s, lo_s, st_s, (h_s.1, zup h_s.2.1 o (zix i_s) x_s, h_s.2.2.1, h_s.2.2.2)) ∧ ∃ t_s m_s, zget h_s.1 o = some (t_s, m_s) ∧ zix i_s < m_s := by
  have hw : zs25 len_s (pc, lo_s, .int x_s :: .int i_s :: .ref o :: st_s, h_s) = some w_s := hw
  simp only [zs25] at hw
  split at hw
  · rename_i t_s m_s hz
    have q1_s := cnd_some hw
    have q2_s : some (Sum.inl (pc + len_s, lo_s, st_s, (h_s.1, zup h_s.2.1 o (zix i_s) x_s, h_s.2.2.1, h_s.2.2.2))) = some w_s := q1_s.2
    have q3_s := q1_s.1
    rw [Bool.and_eq_true, Nat.blt_eq] at q3_s
    cases q2_s
    exact ⟨rfl, t_s, m_s, hz, q3_s.2⟩
  · cases hw
theorem u26 (hw : zstep (26, len_s, a_s, b_s, n_s, v_s, sw_s) (pc, lo_s, .long z_s :: .int i_s :: .ref o :: st_s, h_s) = some w_s) : w_s = .inl (pc + len_s, lo_s, st_s, (h_s.1, h_s.2.1, zup h_s.2.2.1 o (zix i_s) z_s, h_s.2.2.2)) ∧ ∃ t_s m_s, zget h_s.1 o = some (t_s, m_s) ∧ zix i_s < m_s := by
  have hw : zs26 len_s (pc, lo_s, .long z_s :: .int i_s :: .ref o :: st_s, h_s) = some w_s := hw
  simp only [zs26] at hw
  split at hw
  · rename_i t_s m_s hz
    have q1_s := cnd_some hw
    have q2_s : some (Sum.inl (pc + len_s, lo_s, st_s, (h_s.1, h_s.2.1, zup h_s.2.2.1 o (zix i_s) z_s, h_s.2.2.2))) = some w_s := q1_s.2
    have q3_s := q1_s.1
    rw [Bool.and_eq_true, Nat.blt_eq] at q3_s
    cases q2_s
    exact ⟨rfl, t_s, m_s, hz, q3_s.2⟩
  · cases hw
theorem u28 {t_s m_s : Nat} (hz : zget h_s.1 o = some (t_s, m_s)) (hw : zstep (28, len_s, a_s, b_s, n_s, v_s, sw_s) (pc, lo_s, .ref o :: st_s, h_s) = some w_s) : w_s = .inl (pc + len_s, lo_s, .int (Int32.ofNat m_s) :: st_s, h_s) := by
  have hw : zs28 len_s (pc, lo_s, .ref o :: st_s, h_s) = some w_s := hw
  simp only [zs28] at hw
  rw [hz] at hw
  have q2_s : some (Sum.inl (pc + len_s, lo_s, Value.int (Int32.ofNat m_s) :: st_s, h_s)) = some w_s := (cnd_some hw).2
  cases q2_s
  rfl
theorem u8 (hw : zstep (8, len_s, a_s, 0, n_s, v_s, sw_s) (pc, lo_s, .int y_s :: .int x_s :: st_s, h_s) = some w_s) : w_s = .inl (pc + len_s, lo_s, .int (x_s / y_s) :: st_s, h_s) := by
  have hw : zs8 len_s 0 (pc, lo_s, .int y_s :: .int x_s :: st_s, h_s) = some w_s := hw
  simp only [zs8] at hw
  split at hw
  · cases hw
  · have q2_s : some (Sum.inl (pc + len_s, lo_s, Value.int (x_s / y_s) :: st_s, h_s)) = some w_s := hw
    cases q2_s
    rfl
theorem u8m (hw : zstep (8, len_s, a_s, 1, n_s, v_s, sw_s) (pc, lo_s, .int y_s :: .int x_s :: st_s, h_s) = some w_s) : w_s = .inl (pc + len_s, lo_s, .int (x_s - x_s / y_s * y_s) :: st_s, h_s) := by
  have hw : zs8 len_s 1 (pc, lo_s, .int y_s :: .int x_s :: st_s, h_s) = some w_s := hw
  simp only [zs8] at hw
  split at hw
  · cases hw
  · have q2_s : some (Sum.inl (pc + len_s, lo_s, Value.int (x_s - x_s / y_s * y_s) :: st_s, h_s)) = some w_s := hw
    cases q2_s
    rfl
theorem u32 {c_s : Nat} {as_s r_s : List Value} (ht : ztake b_s [] st_s = some (as_s, r_s)) (hw : zstep (32, len_s, a_s, b_s, c_s, v_s, sw_s) (pc, lo_s, st_s, h_s) = some w_s) : w_s = .inr (.inl (a_s, as_s, (pc + len_s, lo_s, r_s, h_s))) := by
  have hw : zs32 len_s a_s b_s (c_s % 4) (c_s / 4) (pc, lo_s, st_s, h_s) = some w_s := hw
  simp only [zs32] at hw
  rw [ht] at hw
  dsimp only at hw
  have hw := (cnd_some hw).2
  split at hw
  · cases hw
    rfl
  · split at hw
    · split at hw
      · have q2_s := (cnd_some hw).2
        cases q2_s
        rfl
      · cases hw
    · cases hw
theorem u35 {c_s : Nat} (hw : zstep (35, len_s, a_s, b_s, c_s, v_s, sw_s) (pc, lo_s, [.int x_s], h_s) = some w_s) : w_s = .inr (.inr (some (.int x_s))) := by
  have hw : zs35 c_s (pc, lo_s, [.int x_s], h_s) = some w_s := hw
  simp only [zs35] at hw
  split at hw
  · split at hw
    · cases hw
      rfl
    · cases hw
  · cases hw
    rfl
theorem u34i {m1_s m2_s : Nat} {i0_s i1_s i2_s : Int32} {o0_s : Nat} (h0 : zget h_s.1 o0_s = some (0, m1_s)) (h1 : zget h_s.1 o = some (0, m2_s)) (hw : zstep (34, len_s, a_s, b_s, n_s, v_s, sw_s) (pc, lo_s, .int i2_s :: .int i1_s :: .ref o :: .int i0_s :: .ref o0_s :: st_s, h_s) = some w_s) : w_s = .inl (pc + len_s, lo_s, st_s, (h_s.1, zrow h_s.2.1 o (zcpy (h_s.2.1 o0_s) (h_s.2.1 o) (zix i0_s) (zix i1_s) (zix i2_s)), h_s.2.2.1, h_s.2.2.2)) ∧ zix i0_s + zix i2_s ≤ m1_s ∧ zix i1_s + zix i2_s ≤ m2_s := by
  have hw : zs34 len_s (pc, lo_s, .int i2_s :: .int i1_s :: .ref o :: .int i0_s :: .ref o0_s :: st_s, h_s) = some w_s := hw
  simp only [zs34] at hw
  rw [h0, h1] at hw
  dsimp only at hw
  have q1_s := cnd_some hw
  have q2_s : some (Sum.inl (pc + len_s, lo_s, st_s, (h_s.1, zrow h_s.2.1 o (zcpy (h_s.2.1 o0_s) (h_s.2.1 o) (zix i0_s) (zix i1_s) (zix i2_s)), h_s.2.2.1, h_s.2.2.2))) = some w_s := q1_s.2
  have q3_s := q1_s.1
  simp only [Bool.and_eq_true, Nat.ble_eq] at q3_s
  cases q2_s
  exact ⟨rfl, q3_s.1.2⟩
theorem u34l {m1_s m2_s : Nat} {i0_s i1_s i2_s : Int32} {o0_s : Nat} (h0 : zget h_s.1 o0_s = some (1, m1_s)) (h1 : zget h_s.1 o = some (1, m2_s)) (hw : zstep (34, len_s, a_s, b_s, n_s, v_s, sw_s) (pc, lo_s, .int i2_s :: .int i1_s :: .ref o :: .int i0_s :: .ref o0_s :: st_s, h_s) = some w_s) : w_s = .inl (pc + len_s, lo_s, st_s, (h_s.1, h_s.2.1, zrow h_s.2.2.1 o (zcpy (h_s.2.2.1 o0_s) (h_s.2.2.1 o) (zix i0_s) (zix i1_s) (zix i2_s)), h_s.2.2.2)) ∧ zix i0_s + zix i2_s ≤ m1_s ∧ zix i1_s + zix i2_s ≤ m2_s := by
  have hw : zs34 len_s (pc, lo_s, .int i2_s :: .int i1_s :: .ref o :: .int i0_s :: .ref o0_s :: st_s, h_s) = some w_s := hw
  simp only [zs34] at hw
  rw [h0, h1] at hw
  dsimp only at hw
  have q1_s := cnd_some hw
  have q2_s : some (Sum.inl (pc + len_s, lo_s, st_s, (h_s.1, h_s.2.1, zrow h_s.2.2.1 o (zcpy (h_s.2.2.1 o0_s) (h_s.2.2.1 o) (zix i0_s) (zix i1_s) (zix i2_s)), h_s.2.2.2))) = some w_s := q1_s.2
  have q3_s := q1_s.1
  simp only [Bool.and_eq_true, Nat.ble_eq] at q3_s
  cases q2_s
  exact ⟨rfl, q3_s.1.2⟩
end W2_s
/-! the rules, an operation each: what goes on from there -/
section W3
variable {F_s mi pc len_s a_s b_s c_s n_s o q_s t_s m_s : Nat} {lo_s : List (Option Value)} {st_s : List Value} {h_s : zH} {G_s : Option Value → zH → Prop} {v_s : Value} {sw_s : List (Int32 × Nat)} {x_s y_s i_s : Int32} {z_s : Int64}
theorem w20 (hi_s : zi mi pc = some (20, len_s, a_s, b_s, 0, v_s, sw_s)) (k_s : wF F_s mi (pc + len_s, lo_s, .int (h_s.2.1 o b_s) :: st_s, h_s) G_s) : wF F_s mi (pc, lo_s, .ref o :: st_s, h_s) G_s := w_t hi_s (fun _ hw => u20 hw) k_s
theorem w20b (hi_s : zi mi pc = some (20, len_s, a_s, b_s, 2, v_s, sw_s)) (k_s : wF F_s mi (pc + len_s, lo_s, .int (h_s.2.1 o b_s) :: st_s, h_s) G_s) : wF F_s mi (pc, lo_s, .ref o :: st_s, h_s) G_s := w_t hi_s (fun _ hw => u20b hw) k_s
theorem w20r (hi_s : zi mi pc = some (20, len_s, a_s, b_s, 1, v_s, sw_s)) (hq : h_s.2.2.2 o b_s = some q_s) (k_s : wF F_s mi (pc + len_s, lo_s, .ref q_s :: st_s, h_s) G_s) : wF F_s mi (pc, lo_s, .ref o :: st_s, h_s) G_s := w_t hi_s (fun _ hw => u20r hq hw) k_s
theorem w21 (hi_s : zi mi pc = some (21, len_s, a_s, b_s, 0, v_s, sw_s)) (k_s : wF F_s mi (pc + len_s, lo_s, st_s, (h_s.1, zup h_s.2.1 o b_s x_s, h_s.2.2.1, h_s.2.2.2)) G_s) : wF F_s mi (pc, lo_s, .int x_s :: .ref o :: st_s, h_s) G_s := w_t hi_s (fun _ hw => u21 hw) k_s
theorem w21b (hi_s : zi mi pc = some (21, len_s, a_s, b_s, 2, v_s, sw_s)) (k_s : wF F_s mi (pc + len_s, lo_s, st_s, (h_s.1, zup h_s.2.1 o b_s x_s, h_s.2.2.1, h_s.2.2.2)) G_s) : wF F_s mi (pc, lo_s, .int x_s :: .ref o :: st_s, h_s) G_s := w_t hi_s (fun _ hw => u21b hw) k_s
theorem w21r (hi_s : zi mi pc = some (21, len_s, a_s, b_s, 1, v_s, sw_s)) (k_s : wF F_s mi (pc + len_s, lo_s, st_s, (h_s.1, h_s.2.1, h_s.2.2.1, zup h_s.2.2.2 o b_s (some q_s))) G_s) : wF F_s mi (pc, lo_s, .ref q_s :: .ref o :: st_s, h_s) G_s := w_t hi_s (fun _ hw => u21r hw) k_s
theorem w8 (hi_s : zi mi pc = some (8, len_s, a_s, 0, n_s, v_s, sw_s)) (k_s : wF F_s mi (pc + len_s, lo_s, .int (x_s / y_s) :: st_s, h_s) G_s) : wF F_s mi (pc, lo_s, .int y_s :: .int x_s :: st_s, h_s) G_s := w_t hi_s (fun _ hw => u8 hw) k_s
theorem w8m (hi_s : zi mi pc = some (8, len_s, a_s, 1, n_s, v_s, sw_s)) (k_s : wF F_s mi (pc + len_s, lo_s, .int (x_s - x_s / y_s * y_s) :: st_s, h_s) G_s) : wF F_s mi (pc, lo_s, .int y_s :: .int x_s :: st_s, h_s) G_s := w_t hi_s (fun _ hw => u8m hw) k_s
theorem w28 (hi_s : zi mi pc = some (28, len_s, a_s, b_s, n_s, v_s, sw_s)) (hz : zget h_s.1 o = some (t_s, m_s)) (k_s : wF F_s mi (pc + len_s, lo_s, .int (Int32.ofNat m_s) :: st_s, h_s) G_s) : wF F_s mi (pc, lo_s, .ref o :: st_s, h_s) G_s := w_t hi_s (fun _ hw => u28 hz hw) k_s
/-- a step of which more is known -/
theorem w_k {y_s : zC} {e_s : zI} {P_s : Prop} (hi_s : zi mi pc = some e_s) (hs : ∀ w_s, zstep e_s (pc, lo_s, st_s, h_s) = some w_s → w_s = .inl y_s ∧ P_s) (k_s : P_s → wF F_s mi y_s G_s) : wF F_s mi (pc, lo_s, st_s, h_s) G_s := by
  intro f_s d_s r_s h1 hf hr
  cases f_s with
  | zero => cases hr
  | succ f_s =>
    rcases zr_step hr with ⟨_, e2_s⟩ | ⟨e1_s, he, hq⟩
    · cases e2_s
    · have he : zi mi pc = some e1_s := he
      rw [hi_s] at he
      cases he
      rcases hq with ⟨y1, hy, hz⟩ | ⟨r1_s, hy, _⟩ | ⟨a1_s, as1, y1, d1_s, r1_s, h2, hy, _⟩
      · have q_s := hs _ hy
        have q1_s := q_s.1
        cases q1_s
        exact k_s q_s.2 f_s d_s r_s h1 (by omega) hz
      · have q_s := (hs _ hy).1
        cases q_s
      · have q_s := (hs _ hy).1
        cases q_s
theorem wlen {P_s : Prop} (hz : zget h_s.1 o = some (t_s, m_s)) {j_s : Nat} (hw : P_s ∧ ∃ t_s m_s, zget h_s.1 o = some (t_s, m_s) ∧ j_s < m_s) : P_s ∧ j_s < m_s := by
  obtain ⟨h1, t1_s, m1_s, h2, h3⟩ := hw
  rw [hz] at h2
  cases h2
  exact ⟨h1, h3⟩
theorem w22 (hi_s : zi mi pc = some (22, len_s, a_s, b_s, n_s, v_s, sw_s)) (hz : zget h_s.1 o = some (t_s, m_s)) (k_s : zix i_s < m_s → wF F_s mi (pc + len_s, lo_s, .int (h_s.2.1 o (zix i_s)) :: st_s, h_s) G_s) : wF F_s mi (pc, lo_s, .int i_s :: .ref o :: st_s, h_s) G_s := w_k hi_s (fun _ hw => wlen hz (u22 hw)) k_s
theorem w28x (hi_s : zi mi pc = some (28, len_s, a_s, b_s, n_s, v_s, sw_s)) (k_s : ∀ m_s, wF F_s mi (pc + len_s, lo_s, .int (Int32.ofNat m_s) :: st_s, h_s) G_s) : wF F_s mi (pc, lo_s, .ref o :: st_s, h_s) G_s := by
  cases hz : zget h_s.1 o with
  | none =>
    refine w_k (y_s := (0, lo_s, st_s, h_s)) (P_s := False) hi_s (fun w_s hw => ?_) (fun q_s => q_s.elim)
    have hw : zs28 len_s (pc, lo_s, .ref o :: st_s, h_s) = some w_s := hw
    simp only [zs28] at hw
    rw [hz] at hw
    cases hw
  | some p_s =>
    obtain ⟨t1_s, m1_s⟩ := p_s
    exact w28 hi_s hz (k_s m1_s)
theorem w22x (hi_s : zi mi pc = some (22, len_s, a_s, b_s, n_s, v_s, sw_s)) (k_s : wF F_s mi (pc + len_s, lo_s, .int (h_s.2.1 o (zix i_s)) :: st_s, h_s) G_s) : wF F_s mi (pc, lo_s, .int i_s :: .ref o :: st_s, h_s) G_s := w_t hi_s (fun _ hw => (u22 hw).1) k_s
theorem w23 (hi_s : zi mi pc = some (23, len_s, a_s, b_s, n_s, v_s, sw_s)) (hz : zget h_s.1 o = some (t_s, m_s)) (k_s : zix i_s < m_s → wF F_s mi (pc + len_s, lo_s, .long (h_s.2.2.1 o (zix i_s)) :: st_s, h_s) G_s) : wF F_s mi (pc, lo_s, .int i_s :: .ref o :: st_s, h_s) G_s := w_k hi_s (fun _ hw => wlen hz (u23 hw)) k_s
theorem w24 {g_s : Nat → Nat} (hk : hKn h_s) (hi_s : zi mi pc = some (24, len_s, a_s, b_s, n_s, v_s, sw_s)) (hz : zget h_s.1 o = some (t_s, m_s)) (hg : ∀ j_s, j_s < m_s → krf o j_s = [g_s j_s]) (k_s : zix i_s < m_s → wF F_s mi (pc + len_s, lo_s, .ref (g_s (zix i_s)) :: st_s, h_s) G_s) : wF F_s mi (pc, lo_s, .int i_s :: .ref o :: st_s, h_s) G_s := by
  refine w_k (P_s := zix i_s < m_s) hi_s (fun w_s hw => ?_) k_s
  have q_s := wlen hz (u24 hw)
  obtain ⟨p_s, p1_s, p2_s⟩ := hk.2 o (zix i_s) (by rw [hg _ q_s.2]; exact List.cons_ne_nil _ _)
  rw [hg _ q_s.2] at p2_s
  rw [p1_s, List.mem_singleton.mp p2_s] at q_s
  exact q_s
theorem w25 (hi_s : zi mi pc = some (25, len_s, a_s, b_s, n_s, v_s, sw_s)) (hz : zget h_s.1 o = some (t_s, m_s)) (k_s : zix i_s < m_s → wF F_s mi (pc + len_s, lo_s, st_s, (h_s.1, zup h_s.2.1 o (zix i_s) x_s, h_s.2.2.1, h_s.2.2.2)) G_s) : wF F_s mi (pc, lo_s, .int x_s :: .int i_s :: .ref o :: st_s, h_s) G_s := w_k hi_s (fun _ hw => wlen hz (u25 hw)) k_s
theorem w26 (hi_s : zi mi pc = some (26, len_s, a_s, b_s, n_s, v_s, sw_s)) (hz : zget h_s.1 o = some (t_s, m_s)) (k_s : zix i_s < m_s → wF F_s mi (pc + len_s, lo_s, st_s, (h_s.1, h_s.2.1, zup h_s.2.2.1 o (zix i_s) z_s, h_s.2.2.2)) G_s) : wF F_s mi (pc, lo_s, .long z_s :: .int i_s :: .ref o :: st_s, h_s) G_s := w_k hi_s (fun _ hw => wlen hz (u26 hw)) k_s
theorem w34i {m1_s : Nat} {i0_s i1_s i2_s : Int32} {o0_s : Nat} (hi_s : zi mi pc = some (34, len_s, a_s, b_s, n_s, v_s, sw_s)) (h0 : zget h_s.1 o0_s = some (0, m1_s)) (h1 : zget h_s.1 o = some (0, m_s)) (k_s : zix i0_s + zix i2_s ≤ m1_s ∧ zix i1_s + zix i2_s ≤ m_s → wF F_s mi (pc + len_s, lo_s, st_s, (h_s.1, zrow h_s.2.1 o (zcpy (h_s.2.1 o0_s) (h_s.2.1 o) (zix i0_s) (zix i1_s) (zix i2_s)), h_s.2.2.1, h_s.2.2.2)) G_s) : wF F_s mi (pc, lo_s, .int i2_s :: .int i1_s :: .ref o :: .int i0_s :: .ref o0_s :: st_s, h_s) G_s := w_k hi_s (fun _ hw => u34i h0 h1 hw) k_s
theorem w34l {m1_s : Nat} {i0_s i1_s i2_s : Int32} {o0_s : Nat} (hi_s : zi mi pc = some (34, len_s, a_s, b_s, n_s, v_s, sw_s)) (h0 : zget h_s.1 o0_s = some (1, m1_s)) (h1 : zget h_s.1 o = some (1, m_s)) (k_s : zix i0_s + zix i2_s ≤ m1_s ∧ zix i1_s + zix i2_s ≤ m_s → wF F_s mi (pc + len_s, lo_s, st_s, (h_s.1, h_s.2.1, zrow h_s.2.2.1 o (zcpy (h_s.2.2.1 o0_s) (h_s.2.2.1 o) (zix i0_s) (zix i1_s) (zix i2_s)), h_s.2.2.2)) G_s) : wF F_s mi (pc, lo_s, .int i2_s :: .int i1_s :: .ref o :: .int i0_s :: .ref o0_s :: st_s, h_s) G_s := w_k hi_s (fun _ hw => u34l h0 h1 hw) k_s
theorem i0n : (0 : Int32).toInt = 0 := rfl
theorem il_ (x_s y_s : Int32) : x_s < y_s ↔ x_s.toInt < y_s.toInt := Int32.lt_iff_toInt_lt
theorem ie_ (x_s y_s : Int32) : x_s = y_s ↔ x_s.toInt = y_s.toInt := Int32.toInt_inj.symm
theorem jl_ (x_s y_s : Int64) : lg_cmp x_s y_s < 0 ↔ x_s.toInt < y_s.toInt := by
  unfold lg_cmp
  by_cases c1_s : x_s > y_s
  · rw [if_pos c1_s]
    have c2_s := Int64.lt_iff_toInt_lt.mp c1_s
    exact ⟨fun q_s => absurd q_s (by decide), fun q_s => absurd q_s (by omega)⟩
  · rw [if_neg c1_s]
    by_cases c2_s : x_s = y_s
    · rw [if_pos c2_s, c2_s]
      exact ⟨fun q_s => absurd q_s (by decide), fun q_s => absurd q_s (by omega)⟩
    · rw [if_neg c2_s]
      have c3_s : x_s.toInt ≠ y_s.toInt := fun q_s => c2_s (Int64.toInt_inj.mp q_s)
      have c4_s : ¬ y_s.toInt < x_s.toInt := fun q_s => c1_s (Int64.lt_iff_toInt_lt.mpr q_s)
      exact ⟨fun _ => by omega, fun _ => by decide⟩
theorem jg_ (x_s y_s : Int64) : 0 < lg_cmp x_s y_s ↔ y_s.toInt < x_s.toInt := by
  unfold lg_cmp
  by_cases c1_s : x_s > y_s
  · rw [if_pos c1_s]
    exact ⟨fun _ => Int64.lt_iff_toInt_lt.mp c1_s, fun _ => by decide⟩
  · rw [if_neg c1_s]
    have c4_s : ¬ y_s.toInt < x_s.toInt := fun q_s => c1_s (Int64.lt_iff_toInt_lt.mpr q_s)
    by_cases c2_s : x_s = y_s
    · rw [if_pos c2_s]
      exact ⟨fun q_s => absurd q_s (by decide), fun q_s => absurd q_s c4_s⟩
    · rw [if_neg c2_s]
      exact ⟨fun q_s => absurd q_s (by decide), fun q_s => absurd q_s c4_s⟩
theorem je_ (x_s y_s : Int64) : lg_cmp x_s y_s = 0 ↔ x_s.toInt = y_s.toInt := by
  unfold lg_cmp
  by_cases c1_s : x_s > y_s
  · rw [if_pos c1_s]
    have c2_s := Int64.lt_iff_toInt_lt.mp c1_s
    exact ⟨fun q_s => absurd q_s (by decide), fun q_s => absurd q_s (by omega)⟩
  · rw [if_neg c1_s]
    by_cases c2_s : x_s = y_s
    · rw [if_pos c2_s, c2_s]
      exact ⟨fun _ => rfl, fun _ => rfl⟩
    · rw [if_neg c2_s]
      exact ⟨fun q_s => absurd q_s (by decide), fun q_s => absurd (Int64.toInt_inj.mp q_s) c2_s⟩
theorem iq2 (x_s : Int32) : x_s < 0 ↔ x_s.toInt < 0 := il_ x_s 0
theorem iq4 (x_s : Int32) : 0 < x_s ↔ 0 < x_s.toInt := il_ 0 x_s
theorem iq0 (x_s : Int32) : x_s = 0 ↔ x_s.toInt = 0 := ie_ x_s 0
theorem wq0 {X_s : Int} (hi_s : zi mi pc = some (15, len_s, a_s, 0, c_s, v_s, sw_s)) (hx : x_s.toInt = X_s) (k1_s : X_s = 0 → wF F_s mi (a_s, lo_s, st_s, h_s) G_s) (k2_s : ¬ X_s = 0 → wF F_s mi (pc + len_s, lo_s, st_s, h_s) G_s) : wF F_s mi (pc, lo_s, .int x_s :: st_s, h_s) G_s := by
  subst hx
  have w_s := fun k_s => @w_t F_s mi pc lo_s (.int x_s :: st_s) h_s G_s _ (zif 0 x_s a_s (pc + len_s), lo_s, st_s, h_s) hi_s (u_ rfl) k_s
  by_cases hc_s : x_s.toInt = 0
  · rw [show zif 0 x_s a_s (pc + len_s) = a_s from if_pos ((iq0 x_s).mpr hc_s)] at w_s
    exact w_s (k1_s hc_s)
  · rw [show zif 0 x_s a_s (pc + len_s) = pc + len_s from if_neg (fun q_s => hc_s ((iq0 x_s).mp q_s))] at w_s
    exact w_s (k2_s hc_s)
theorem wq1 {X_s : Int} (hi_s : zi mi pc = some (15, len_s, a_s, 1, c_s, v_s, sw_s)) (hx : x_s.toInt = X_s) (k1_s : X_s = 0 → wF F_s mi (pc + len_s, lo_s, st_s, h_s) G_s) (k2_s : ¬ X_s = 0 → wF F_s mi (a_s, lo_s, st_s, h_s) G_s) : wF F_s mi (pc, lo_s, .int x_s :: st_s, h_s) G_s := by
  subst hx
  have w_s := fun k_s => @w_t F_s mi pc lo_s (.int x_s :: st_s) h_s G_s _ (zif 1 x_s a_s (pc + len_s), lo_s, st_s, h_s) hi_s (u_ rfl) k_s
  by_cases hc_s : x_s.toInt = 0
  · rw [show zif 1 x_s a_s (pc + len_s) = pc + len_s from if_pos ((iq0 x_s).mpr hc_s)] at w_s
    exact w_s (k1_s hc_s)
  · rw [show zif 1 x_s a_s (pc + len_s) = a_s from if_neg (fun q_s => hc_s ((iq0 x_s).mp q_s))] at w_s
    exact w_s (k2_s hc_s)
theorem wq2 {X_s : Int} (hi_s : zi mi pc = some (15, len_s, a_s, 2, c_s, v_s, sw_s)) (hx : x_s.toInt = X_s) (k1_s : X_s < 0 → wF F_s mi (a_s, lo_s, st_s, h_s) G_s) (k2_s : ¬ X_s < 0 → wF F_s mi (pc + len_s, lo_s, st_s, h_s) G_s) : wF F_s mi (pc, lo_s, .int x_s :: st_s, h_s) G_s := by
  subst hx
  have w_s := fun k_s => @w_t F_s mi pc lo_s (.int x_s :: st_s) h_s G_s _ (zif 2 x_s a_s (pc + len_s), lo_s, st_s, h_s) hi_s (u_ rfl) k_s
  by_cases hc_s : x_s.toInt < 0
  · rw [show zif 2 x_s a_s (pc + len_s) = a_s from if_pos ((iq2 x_s).mpr hc_s)] at w_s
    exact w_s (k1_s hc_s)
  · rw [show zif 2 x_s a_s (pc + len_s) = pc + len_s from if_neg (fun q_s => hc_s ((iq2 x_s).mp q_s))] at w_s
    exact w_s (k2_s hc_s)
theorem wq3 {X_s : Int} (hi_s : zi mi pc = some (15, len_s, a_s, 3, c_s, v_s, sw_s)) (hx : x_s.toInt = X_s) (k1_s : X_s < 0 → wF F_s mi (pc + len_s, lo_s, st_s, h_s) G_s) (k2_s : ¬ X_s < 0 → wF F_s mi (a_s, lo_s, st_s, h_s) G_s) : wF F_s mi (pc, lo_s, .int x_s :: st_s, h_s) G_s := by
  subst hx
  have w_s := fun k_s => @w_t F_s mi pc lo_s (.int x_s :: st_s) h_s G_s _ (zif 3 x_s a_s (pc + len_s), lo_s, st_s, h_s) hi_s (u_ rfl) k_s
  by_cases hc_s : x_s.toInt < 0
  · rw [show zif 3 x_s a_s (pc + len_s) = pc + len_s from if_pos ((iq2 x_s).mpr hc_s)] at w_s
    exact w_s (k1_s hc_s)
  · rw [show zif 3 x_s a_s (pc + len_s) = a_s from if_neg (fun q_s => hc_s ((iq2 x_s).mp q_s))] at w_s
    exact w_s (k2_s hc_s)
theorem wq4 {X_s : Int} (hi_s : zi mi pc = some (15, len_s, a_s, 4, c_s, v_s, sw_s)) (hx : x_s.toInt = X_s) (k1_s : 0 < X_s → wF F_s mi (a_s, lo_s, st_s, h_s) G_s) (k2_s : ¬ 0 < X_s → wF F_s mi (pc + len_s, lo_s, st_s, h_s) G_s) : wF F_s mi (pc, lo_s, .int x_s :: st_s, h_s) G_s := by
  subst hx
  have w_s := fun k_s => @w_t F_s mi pc lo_s (.int x_s :: st_s) h_s G_s _ (zif 4 x_s a_s (pc + len_s), lo_s, st_s, h_s) hi_s (u_ rfl) k_s
  by_cases hc_s : 0 < x_s.toInt
  · rw [show zif 4 x_s a_s (pc + len_s) = a_s from if_pos ((iq4 x_s).mpr hc_s)] at w_s
    exact w_s (k1_s hc_s)
  · rw [show zif 4 x_s a_s (pc + len_s) = pc + len_s from if_neg (fun q_s => hc_s ((iq4 x_s).mp q_s))] at w_s
    exact w_s (k2_s hc_s)
theorem wq5 {X_s : Int} (hi_s : zi mi pc = some (15, len_s, a_s, 5, c_s, v_s, sw_s)) (hx : x_s.toInt = X_s) (k1_s : 0 < X_s → wF F_s mi (pc + len_s, lo_s, st_s, h_s) G_s) (k2_s : ¬ 0 < X_s → wF F_s mi (a_s, lo_s, st_s, h_s) G_s) : wF F_s mi (pc, lo_s, .int x_s :: st_s, h_s) G_s := by
  subst hx
  have w_s := fun k_s => @w_t F_s mi pc lo_s (.int x_s :: st_s) h_s G_s _ (zif 5 x_s a_s (pc + len_s), lo_s, st_s, h_s) hi_s (u_ rfl) k_s
  by_cases hc_s : 0 < x_s.toInt
  · rw [show zif 5 x_s a_s (pc + len_s) = pc + len_s from if_pos ((iq4 x_s).mpr hc_s)] at w_s
    exact w_s (k1_s hc_s)
  · rw [show zif 5 x_s a_s (pc + len_s) = a_s from if_neg (fun q_s => hc_s ((iq4 x_s).mp q_s))] at w_s
    exact w_s (k2_s hc_s)
theorem wi0 {X_s Y : Int} (hi_s : zi mi pc = some (16, len_s, a_s, 0, c_s, v_s, sw_s)) (hx : x_s.toInt = X_s) (hy : y_s.toInt = Y) (k1_s : X_s = Y → wF F_s mi (a_s, lo_s, st_s, h_s) G_s) (k2_s : ¬ X_s = Y → wF F_s mi (pc + len_s, lo_s, st_s, h_s) G_s) : wF F_s mi (pc, lo_s, .int y_s :: .int x_s :: st_s, h_s) G_s := by
  subst hx
  subst hy
  have w_s := fun k_s => @w_t F_s mi pc lo_s (.int y_s :: .int x_s :: st_s) h_s G_s _ (zicmp 0 x_s y_s a_s (pc + len_s), lo_s, st_s, h_s) hi_s (u_ rfl) k_s
  by_cases hc_s : x_s.toInt = y_s.toInt
  · rw [show zicmp 0 x_s y_s a_s (pc + len_s) = a_s from if_pos ((ie_ x_s y_s).mpr hc_s)] at w_s
    exact w_s (k1_s hc_s)
  · rw [show zicmp 0 x_s y_s a_s (pc + len_s) = pc + len_s from if_neg (fun q_s => hc_s ((ie_ x_s y_s).mp q_s))] at w_s
    exact w_s (k2_s hc_s)
theorem wi1 {X_s Y : Int} (hi_s : zi mi pc = some (16, len_s, a_s, 1, c_s, v_s, sw_s)) (hx : x_s.toInt = X_s) (hy : y_s.toInt = Y) (k1_s : X_s = Y → wF F_s mi (pc + len_s, lo_s, st_s, h_s) G_s) (k2_s : ¬ X_s = Y → wF F_s mi (a_s, lo_s, st_s, h_s) G_s) : wF F_s mi (pc, lo_s, .int y_s :: .int x_s :: st_s, h_s) G_s := by
  subst hx
  subst hy
  have w_s := fun k_s => @w_t F_s mi pc lo_s (.int y_s :: .int x_s :: st_s) h_s G_s _ (zicmp 1 x_s y_s a_s (pc + len_s), lo_s, st_s, h_s) hi_s (u_ rfl) k_s
  by_cases hc_s : x_s.toInt = y_s.toInt
  · rw [show zicmp 1 x_s y_s a_s (pc + len_s) = pc + len_s from if_pos ((ie_ x_s y_s).mpr hc_s)] at w_s
    exact w_s (k1_s hc_s)
  · rw [show zicmp 1 x_s y_s a_s (pc + len_s) = a_s from if_neg (fun q_s => hc_s ((ie_ x_s y_s).mp q_s))] at w_s
    exact w_s (k2_s hc_s)
theorem wi2 {X_s Y : Int} (hi_s : zi mi pc = some (16, len_s, a_s, 2, c_s, v_s, sw_s)) (hx : x_s.toInt = X_s) (hy : y_s.toInt = Y) (k1_s : X_s < Y → wF F_s mi (a_s, lo_s, st_s, h_s) G_s) (k2_s : ¬ X_s < Y → wF F_s mi (pc + len_s, lo_s, st_s, h_s) G_s) : wF F_s mi (pc, lo_s, .int y_s :: .int x_s :: st_s, h_s) G_s := by
  subst hx
  subst hy
  have w_s := fun k_s => @w_t F_s mi pc lo_s (.int y_s :: .int x_s :: st_s) h_s G_s _ (zicmp 2 x_s y_s a_s (pc + len_s), lo_s, st_s, h_s) hi_s (u_ rfl) k_s
  by_cases hc_s : x_s.toInt < y_s.toInt
  · rw [show zicmp 2 x_s y_s a_s (pc + len_s) = a_s from if_pos ((il_ x_s y_s).mpr hc_s)] at w_s
    exact w_s (k1_s hc_s)
  · rw [show zicmp 2 x_s y_s a_s (pc + len_s) = pc + len_s from if_neg (fun q_s => hc_s ((il_ x_s y_s).mp q_s))] at w_s
    exact w_s (k2_s hc_s)
theorem wi3 {X_s Y : Int} (hi_s : zi mi pc = some (16, len_s, a_s, 3, c_s, v_s, sw_s)) (hx : x_s.toInt = X_s) (hy : y_s.toInt = Y) (k1_s : X_s < Y → wF F_s mi (pc + len_s, lo_s, st_s, h_s) G_s) (k2_s : ¬ X_s < Y → wF F_s mi (a_s, lo_s, st_s, h_s) G_s) : wF F_s mi (pc, lo_s, .int y_s :: .int x_s :: st_s, h_s) G_s := by
  subst hx
  subst hy
  have w_s := fun k_s => @w_t F_s mi pc lo_s (.int y_s :: .int x_s :: st_s) h_s G_s _ (zicmp 3 x_s y_s a_s (pc + len_s), lo_s, st_s, h_s) hi_s (u_ rfl) k_s
  by_cases hc_s : x_s.toInt < y_s.toInt
  · rw [show zicmp 3 x_s y_s a_s (pc + len_s) = pc + len_s from if_pos ((il_ x_s y_s).mpr hc_s)] at w_s
    exact w_s (k1_s hc_s)
  · rw [show zicmp 3 x_s y_s a_s (pc + len_s) = a_s from if_neg (fun q_s => hc_s ((il_ x_s y_s).mp q_s))] at w_s
    exact w_s (k2_s hc_s)
theorem wi4 {X_s Y : Int} (hi_s : zi mi pc = some (16, len_s, a_s, 4, c_s, v_s, sw_s)) (hx : x_s.toInt = X_s) (hy : y_s.toInt = Y) (k1_s : Y < X_s → wF F_s mi (a_s, lo_s, st_s, h_s) G_s) (k2_s : ¬ Y < X_s → wF F_s mi (pc + len_s, lo_s, st_s, h_s) G_s) : wF F_s mi (pc, lo_s, .int y_s :: .int x_s :: st_s, h_s) G_s := by
  subst hx
  subst hy
  have w_s := fun k_s => @w_t F_s mi pc lo_s (.int y_s :: .int x_s :: st_s) h_s G_s _ (zicmp 4 x_s y_s a_s (pc + len_s), lo_s, st_s, h_s) hi_s (u_ rfl) k_s
  by_cases hc_s : y_s.toInt < x_s.toInt
  · rw [show zicmp 4 x_s y_s a_s (pc + len_s) = a_s from if_pos ((il_ y_s x_s).mpr hc_s)] at w_s
    exact w_s (k1_s hc_s)
  · rw [show zicmp 4 x_s y_s a_s (pc + len_s) = pc + len_s from if_neg (fun q_s => hc_s ((il_ y_s x_s).mp q_s))] at w_s
    exact w_s (k2_s hc_s)
theorem wi5 {X_s Y : Int} (hi_s : zi mi pc = some (16, len_s, a_s, 5, c_s, v_s, sw_s)) (hx : x_s.toInt = X_s) (hy : y_s.toInt = Y) (k1_s : Y < X_s → wF F_s mi (pc + len_s, lo_s, st_s, h_s) G_s) (k2_s : ¬ Y < X_s → wF F_s mi (a_s, lo_s, st_s, h_s) G_s) : wF F_s mi (pc, lo_s, .int y_s :: .int x_s :: st_s, h_s) G_s := by
  subst hx
  subst hy
  have w_s := fun k_s => @w_t F_s mi pc lo_s (.int y_s :: .int x_s :: st_s) h_s G_s _ (zicmp 5 x_s y_s a_s (pc + len_s), lo_s, st_s, h_s) hi_s (u_ rfl) k_s
  by_cases hc_s : y_s.toInt < x_s.toInt
  · rw [show zicmp 5 x_s y_s a_s (pc + len_s) = pc + len_s from if_pos ((il_ y_s x_s).mpr hc_s)] at w_s
    exact w_s (k1_s hc_s)
  · rw [show zicmp 5 x_s y_s a_s (pc + len_s) = a_s from if_neg (fun q_s => hc_s ((il_ y_s x_s).mp q_s))] at w_s
    exact w_s (k2_s hc_s)
theorem wl0 {x_s y_s : Int64} {X_s Y : Int} (hi_s : zi mi pc = some (15, len_s, a_s, 0, c_s, v_s, sw_s)) (hx : x_s.toInt = X_s) (hy : y_s.toInt = Y) (k1_s : X_s = Y → wF F_s mi (a_s, lo_s, st_s, h_s) G_s) (k2_s : ¬ X_s = Y → wF F_s mi (pc + len_s, lo_s, st_s, h_s) G_s) : wF F_s mi (pc, lo_s, .int (lg_cmp x_s y_s) :: st_s, h_s) G_s := by
  subst hx
  subst hy
  have w_s := fun k_s => @w_t F_s mi pc lo_s (.int (lg_cmp x_s y_s) :: st_s) h_s G_s _ (zif 0 (lg_cmp x_s y_s) a_s (pc + len_s), lo_s, st_s, h_s) hi_s (u_ rfl) k_s
  by_cases hc_s : x_s.toInt = y_s.toInt
  · rw [show zif 0 (lg_cmp x_s y_s) a_s (pc + len_s) = a_s from if_pos ((je_ x_s y_s).mpr hc_s)] at w_s
    exact w_s (k1_s hc_s)
  · rw [show zif 0 (lg_cmp x_s y_s) a_s (pc + len_s) = pc + len_s from if_neg (fun q_s => hc_s ((je_ x_s y_s).mp q_s))] at w_s
    exact w_s (k2_s hc_s)
theorem wl1 {x_s y_s : Int64} {X_s Y : Int} (hi_s : zi mi pc = some (15, len_s, a_s, 1, c_s, v_s, sw_s)) (hx : x_s.toInt = X_s) (hy : y_s.toInt = Y) (k1_s : X_s = Y → wF F_s mi (pc + len_s, lo_s, st_s, h_s) G_s) (k2_s : ¬ X_s = Y → wF F_s mi (a_s, lo_s, st_s, h_s) G_s) : wF F_s mi (pc, lo_s, .int (lg_cmp x_s y_s) :: st_s, h_s) G_s := by
  subst hx
  subst hy
  have w_s := fun k_s => @w_t F_s mi pc lo_s (.int (lg_cmp x_s y_s) :: st_s) h_s G_s _ (zif 1 (lg_cmp x_s y_s) a_s (pc + len_s), lo_s, st_s, h_s) hi_s (u_ rfl) k_s
  by_cases hc_s : x_s.toInt = y_s.toInt
  · rw [show zif 1 (lg_cmp x_s y_s) a_s (pc + len_s) = pc + len_s from if_pos ((je_ x_s y_s).mpr hc_s)] at w_s
    exact w_s (k1_s hc_s)
  · rw [show zif 1 (lg_cmp x_s y_s) a_s (pc + len_s) = a_s from if_neg (fun q_s => hc_s ((je_ x_s y_s).mp q_s))] at w_s
    exact w_s (k2_s hc_s)
theorem wl2 {x_s y_s : Int64} {X_s Y : Int} (hi_s : zi mi pc = some (15, len_s, a_s, 2, c_s, v_s, sw_s)) (hx : x_s.toInt = X_s) (hy : y_s.toInt = Y) (k1_s : X_s < Y → wF F_s mi (a_s, lo_s, st_s, h_s) G_s) (k2_s : ¬ X_s < Y → wF F_s mi (pc + len_s, lo_s, st_s, h_s) G_s) : wF F_s mi (pc, lo_s, .int (lg_cmp x_s y_s) :: st_s, h_s) G_s := by
  subst hx
  subst hy
  have w_s := fun k_s => @w_t F_s mi pc lo_s (.int (lg_cmp x_s y_s) :: st_s) h_s G_s _ (zif 2 (lg_cmp x_s y_s) a_s (pc + len_s), lo_s, st_s, h_s) hi_s (u_ rfl) k_s
  by_cases hc_s : x_s.toInt < y_s.toInt
  · rw [show zif 2 (lg_cmp x_s y_s) a_s (pc + len_s) = a_s from if_pos ((jl_ x_s y_s).mpr hc_s)] at w_s
    exact w_s (k1_s hc_s)
  · rw [show zif 2 (lg_cmp x_s y_s) a_s (pc + len_s) = pc + len_s from if_neg (fun q_s => hc_s ((jl_ x_s y_s).mp q_s))] at w_s
    exact w_s (k2_s hc_s)
theorem wl3 {x_s y_s : Int64} {X_s Y : Int} (hi_s : zi mi pc = some (15, len_s, a_s, 3, c_s, v_s, sw_s)) (hx : x_s.toInt = X_s) (hy : y_s.toInt = Y) (k1_s : X_s < Y → wF F_s mi (pc + len_s, lo_s, st_s, h_s) G_s) (k2_s : ¬ X_s < Y → wF F_s mi (a_s, lo_s, st_s, h_s) G_s) : wF F_s mi (pc, lo_s, .int (lg_cmp x_s y_s) :: st_s, h_s) G_s := by
  subst hx
  subst hy
  have w_s := fun k_s => @w_t F_s mi pc lo_s (.int (lg_cmp x_s y_s) :: st_s) h_s G_s _ (zif 3 (lg_cmp x_s y_s) a_s (pc + len_s), lo_s, st_s, h_s) hi_s (u_ rfl) k_s
  by_cases hc_s : x_s.toInt < y_s.toInt
  · rw [show zif 3 (lg_cmp x_s y_s) a_s (pc + len_s) = pc + len_s from if_pos ((jl_ x_s y_s).mpr hc_s)] at w_s
    exact w_s (k1_s hc_s)
  · rw [show zif 3 (lg_cmp x_s y_s) a_s (pc + len_s) = a_s from if_neg (fun q_s => hc_s ((jl_ x_s y_s).mp q_s))] at w_s
    exact w_s (k2_s hc_s)
theorem wl4 {x_s y_s : Int64} {X_s Y : Int} (hi_s : zi mi pc = some (15, len_s, a_s, 4, c_s, v_s, sw_s)) (hx : x_s.toInt = X_s) (hy : y_s.toInt = Y) (k1_s : Y < X_s → wF F_s mi (a_s, lo_s, st_s, h_s) G_s) (k2_s : ¬ Y < X_s → wF F_s mi (pc + len_s, lo_s, st_s, h_s) G_s) : wF F_s mi (pc, lo_s, .int (lg_cmp x_s y_s) :: st_s, h_s) G_s := by
  subst hx
  subst hy
  have w_s := fun k_s => @w_t F_s mi pc lo_s (.int (lg_cmp x_s y_s) :: st_s) h_s G_s _ (zif 4 (lg_cmp x_s y_s) a_s (pc + len_s), lo_s, st_s, h_s) hi_s (u_ rfl) k_s
  by_cases hc_s : y_s.toInt < x_s.toInt
  · rw [show zif 4 (lg_cmp x_s y_s) a_s (pc + len_s) = a_s from if_pos ((jg_ x_s y_s).mpr hc_s)] at w_s
    exact w_s (k1_s hc_s)
  · rw [show zif 4 (lg_cmp x_s y_s) a_s (pc + len_s) = pc + len_s from if_neg (fun q_s => hc_s ((jg_ x_s y_s).mp q_s))] at w_s
    exact w_s (k2_s hc_s)
theorem wl5 {x_s y_s : Int64} {X_s Y : Int} (hi_s : zi mi pc = some (15, len_s, a_s, 5, c_s, v_s, sw_s)) (hx : x_s.toInt = X_s) (hy : y_s.toInt = Y) (k1_s : Y < X_s → wF F_s mi (pc + len_s, lo_s, st_s, h_s) G_s) (k2_s : ¬ Y < X_s → wF F_s mi (a_s, lo_s, st_s, h_s) G_s) : wF F_s mi (pc, lo_s, .int (lg_cmp x_s y_s) :: st_s, h_s) G_s := by
  subst hx
  subst hy
  have w_s := fun k_s => @w_t F_s mi pc lo_s (.int (lg_cmp x_s y_s) :: st_s) h_s G_s _ (zif 5 (lg_cmp x_s y_s) a_s (pc + len_s), lo_s, st_s, h_s) hi_s (u_ rfl) k_s
  by_cases hc_s : y_s.toInt < x_s.toInt
  · rw [show zif 5 (lg_cmp x_s y_s) a_s (pc + len_s) = pc + len_s from if_pos ((jg_ x_s y_s).mpr hc_s)] at w_s
    exact w_s (k1_s hc_s)
  · rw [show zif 5 (lg_cmp x_s y_s) a_s (pc + len_s) = a_s from if_neg (fun q_s => hc_s ((jg_ x_s y_s).mp q_s))] at w_s
    exact w_s (k2_s hc_s)
theorem wsw (hi_s : zi mi pc = some (18, len_s, a_s, b_s, c_s, v_s, sw_s)) (k_s : wF F_s mi (zsw x_s sw_s a_s, lo_s, st_s, h_s) G_s) : wF F_s mi (pc, lo_s, .int x_s :: st_s, h_s) G_s := w_t hi_s (u_ rfl) k_s
theorem wsc {k_s : Int32} {X_s Y : Int} (hx : x_s.toInt = Y) (hk : k_s.toInt = X_s) (k1_s : Y = X_s → wF F_s mi (t_s, lo_s, st_s, h_s) G_s) (k2_s : ¬ Y = X_s → wF F_s mi (zsw x_s sw_s a_s, lo_s, st_s, h_s) G_s) : wF F_s mi (zsw x_s ((k_s, t_s) :: sw_s) a_s, lo_s, st_s, h_s) G_s := by
  subst hx
  subst hk
  by_cases hc_s : x_s.toInt = k_s.toInt
  · rw [show zsw x_s ((k_s, t_s) :: sw_s) a_s = t_s from if_pos ((ie_ x_s k_s).mpr hc_s)]
    exact k1_s hc_s
  · rw [show zsw x_s ((k_s, t_s) :: sw_s) a_s = zsw x_s sw_s a_s from if_neg (fun q_s => hc_s ((ie_ x_s k_s).mp q_s))]
    exact k2_s hc_s
/-- calls: into the callee; or by what is known of it -/
theorem wcI {as_s r_s : List Value} {l : List (Option Value)} (hi_s : zi mi pc = some (32, len_s, a_s, b_s, c_s, v_s, sw_s)) (ht : ztake b_s [] st_s = some (as_s, r_s)) (hl : zpad (zL a_s) (zargs as_s) = l) (k_s : wF F_s a_s (0, l, [], h_s) (gI (fun u_s h1 => wF F_s mi (pc + len_s, lo_s, .int u_s :: r_s, h1) G_s))) : wF F_s mi (pc, lo_s, st_s, h_s) G_s := by
  subst hl
  refine w_c hi_s (fun _ hw => u32 ht hw) (wF_mono k_s (fun r1_s h1 q_s => ?_))
  obtain ⟨u_s, rfl, _, q_s⟩ := q_s
  exact q_s
theorem wcJ {as_s r_s : List Value} {l : List (Option Value)} (hi_s : zi mi pc = some (32, len_s, a_s, b_s, c_s, v_s, sw_s)) (ht : ztake b_s [] st_s = some (as_s, r_s)) (hl : zpad (zL a_s) (zargs as_s) = l) (k_s : wF F_s a_s (0, l, [], h_s) (gJ (fun u_s h1 => wF F_s mi (pc + len_s, lo_s, .long u_s :: r_s, h1) G_s))) : wF F_s mi (pc, lo_s, st_s, h_s) G_s := by
  subst hl
  refine w_c hi_s (fun _ hw => u32 ht hw) (wF_mono k_s (fun r1_s h1 q_s => ?_))
  obtain ⟨u_s, rfl, _, q_s⟩ := q_s
  exact q_s
theorem wcR {as_s r_s : List Value} {l : List (Option Value)} (hi_s : zi mi pc = some (32, len_s, a_s, b_s, c_s, v_s, sw_s)) (ht : ztake b_s [] st_s = some (as_s, r_s)) (hl : zpad (zL a_s) (zargs as_s) = l) (k_s : wF F_s a_s (0, l, [], h_s) (gR (fun u_s h1 => wF F_s mi (pc + len_s, lo_s, .ref u_s :: r_s, h1) G_s))) : wF F_s mi (pc, lo_s, st_s, h_s) G_s := by
  subst hl
  refine w_c hi_s (fun _ hw => u32 ht hw) (wF_mono k_s (fun r1_s h1 q_s => ?_))
  obtain ⟨u_s, rfl, _, q_s⟩ := q_s
  exact q_s
theorem wcV {as_s r_s : List Value} {l : List (Option Value)} (hi_s : zi mi pc = some (32, len_s, a_s, b_s, c_s, v_s, sw_s)) (ht : ztake b_s [] st_s = some (as_s, r_s)) (hl : zpad (zL a_s) (zargs as_s) = l) (k_s : wF F_s a_s (0, l, [], h_s) (gV (fun h1 => wF F_s mi (pc + len_s, lo_s, r_s, h1) G_s))) : wF F_s mi (pc, lo_s, st_s, h_s) G_s := by
  subst hl
  refine w_c hi_s (fun _ hw => u32 ht hw) (wF_mono k_s (fun r1_s h1 q_s => ?_))
  obtain ⟨rfl, _, q_s⟩ := q_s
  exact q_s
theorem wmI {K_s K' : Int32 → zH → Prop} {x_s : zC} (t_s : wF F_s mi x_s (gI K_s)) (k_s : ∀ u_s h1, hKn h1 → K_s u_s h1 → K' u_s h1) : wF F_s mi x_s (gI K') := wF_mono t_s (fun _ h1 ⟨u_s, e_s, q_s, p_s⟩ => ⟨u_s, e_s, q_s, k_s u_s h1 q_s p_s⟩)
theorem wmJ {K_s K' : Int64 → zH → Prop} {x_s : zC} (t_s : wF F_s mi x_s (gJ K_s)) (k_s : ∀ u_s h1, hKn h1 → K_s u_s h1 → K' u_s h1) : wF F_s mi x_s (gJ K') := wF_mono t_s (fun _ h1 ⟨u_s, e_s, q_s, p_s⟩ => ⟨u_s, e_s, q_s, k_s u_s h1 q_s p_s⟩)
theorem wmR {K_s K' : Nat → zH → Prop} {x_s : zC} (t_s : wF F_s mi x_s (gR K_s)) (k_s : ∀ u_s h1, hKn h1 → K_s u_s h1 → K' u_s h1) : wF F_s mi x_s (gR K') := wF_mono t_s (fun _ h1 ⟨u_s, e_s, q_s, p_s⟩ => ⟨u_s, e_s, q_s, k_s u_s h1 q_s p_s⟩)
theorem wmV {K_s K' : zH → Prop} {x_s : zC} (t_s : wF F_s mi x_s (gV K_s)) (k_s : ∀ h1, hKn h1 → K_s h1 → K' h1) : wF F_s mi x_s (gV K') := wF_mono t_s (fun _ h1 ⟨e_s, q_s, p_s⟩ => ⟨e_s, q_s, k_s h1 q_s p_s⟩)
/-- returns -/
theorem wrI {K_s : Int32 → zH → Prop} (hi_s : zi mi pc = some (35, len_s, a_s, b_s, c_s, v_s, sw_s)) (hk : hKn h_s) (k_s : K_s x_s h_s) : wF F_s mi (pc, lo_s, [.int x_s], h_s) (gI K_s) := w_r hi_s (fun _ hw => u35 hw) ⟨x_s, rfl, hk, k_s⟩
theorem wrJ {K_s : Int64 → zH → Prop} (hi_s : zi mi pc = some (36, len_s, a_s, b_s, c_s, v_s, sw_s)) (hk : hKn h_s) (k_s : K_s z_s h_s) : wF F_s mi (pc, lo_s, [.long z_s], h_s) (gJ K_s) := w_r hi_s (u_ rfl) ⟨z_s, rfl, hk, k_s⟩
theorem wrR {K_s : Nat → zH → Prop} (hi_s : zi mi pc = some (37, len_s, a_s, b_s, c_s, v_s, sw_s)) (hk : hKn h_s) (k_s : K_s o h_s) : wF F_s mi (pc, lo_s, [.ref o], h_s) (gR K_s) := w_r hi_s (u_ rfl) ⟨o, rfl, hk, k_s⟩
theorem wrV {K_s : zH → Prop} (hi_s : zi mi pc = some (38, len_s, a_s, b_s, c_s, v_s, sw_s)) (hk : hKn h_s) (k_s : K_s h_s) : wF F_s mi (pc, lo_s, [], h_s) (gV K_s) := w_r hi_s (u_ rfl) ⟨rfl, hk, k_s⟩
/-- a fixed reference -/
theorem krq (hk : hKn h_s) (hq : krf o b_s = [q_s]) : h_s.2.2.2 o b_s = some q_s := by
  obtain ⟨p_s, p1_s, p2_s⟩ := hk.2 o b_s (by rw [hq]; exact List.cons_ne_nil _ _)
  rw [hq] at p2_s
  rw [p1_s, List.mem_singleton.mp p2_s]
end W3
/-! fixed references and shapes, by number -/
theorem kg10 : ∀ j_, j_ < 8 → krf 10 j_ = [20 + j_] := by decide +kernel
theorem kg11 : ∀ j_, j_ < 12 → krf 11 j_ = [28 + j_] := by decide +kernel
theorem kg71 : ∀ j_, j_ < 6 → krf 71 j_ = [76 + 2 * j_] := by decide +kernel
theorem kg72 : ∀ j_, j_ < 6 → krf 72 j_ = [88 + j_] := by decide +kernel
theorem kg74 : ∀ j_, j_ < 8 → krf 74 j_ = [94 + j_] := by decide +kernel
theorem kg62 : ∀ j_, j_ < 8 → krf 62 j_ = [63 + j_] := by decide +kernel
theorem kgsh : ∀ j_, j_ < 6 → krf (76 + 2 * j_) 4 = [76 + 2 * j_ + 1] := by decide +kernel
theorem kgsz : ∀ j_, j_ < 6 → kS (76 + 2 * j_ + 1) = some (1, 60) := by decide +kernel
section W4
variable {h_s : zH} {o b_s j_ q_s q1_s q2_s : Nat}
theorem krm (hk : hKn h_s) (hq : krf o b_s = [q1_s, q2_s]) : ∃ q_s, h_s.2.2.2 o b_s = some q_s ∧ (q_s = q1_s ∨ q_s = q2_s) := by
  obtain ⟨p_s, p1_s, p2_s⟩ := hk.2 o b_s (by rw [hq]; exact List.cons_ne_nil _ _)
  rw [hq] at p2_s
  refine ⟨p_s, p1_s, ?_⟩
  rcases List.mem_cons.mp p2_s with e_s | e_s
  · exact Or.inl e_s
  · exact Or.inr (List.mem_singleton.mp e_s)
theorem kshc (hk : hKn h_s) (hj : j_ < 6) : h_s.2.2.2 (76 + 2 * j_) 4 = some (76 + 2 * j_ + 1) := krq hk (kgsh j_ hj)
theorem kshz (hk : hKn h_s) (hj : j_ < 6) : zget h_s.1 (76 + 2 * j_ + 1) = some (1, 60) := hk.1 _ 1 60 (kgsz j_ hj) rfl
theorem klaw1 (hk : hKn h_s) (hm_s : q_s = 14 ∨ q_s = 17) : h_s.2.2.2 q_s 1 = some (q_s + 1) := by
  rcases hm_s with rfl | rfl
  · exact krq hk rfl
  · exact krq hk rfl
theorem klaw2 (hk : hKn h_s) (hm_s : q_s = 14 ∨ q_s = 17) : h_s.2.2.2 q_s 3 = some (q_s + 2) := by
  rcases hm_s with rfl | rfl
  · exact krq hk rfl
  · exact krq hk rfl
theorem klz1 (hk : hKn h_s) (hm_s : q_s = 14 ∨ q_s = 17) : zget h_s.1 (q_s + 1) = some (0, 242) := by
  rcases hm_s with rfl | rfl
  · exact hk.1 15 0 242 rfl rfl
  · exact hk.1 18 0 242 rfl rfl
theorem klz2 (hk : hKn h_s) (hm_s : q_s = 14 ∨ q_s = 17) : zget h_s.1 (q_s + 2) = some (0, 64) := by
  rcases hm_s with rfl | rfl
  · exact hk.1 16 0 64 rfl rfl
  · exact hk.1 19 0 64 rfl rfl
end W4
theorem hkr_ {h_s : zH} {o b_s q_s q1_s q2_s : Nat} (hk : hKn h_s) (hq : krf o b_s = [q1_s, q2_s]) (hm_s : q_s = q1_s ∨ q_s = q2_s) : hKn (h_s.1, h_s.2.1, h_s.2.2.1, zup h_s.2.2.2 o b_s (some q_s)) := by
  refine ⟨hk.1, fun o1_s k1_s hn_s => ?_⟩
  by_cases e_s : o1_s = o ∧ k1_s = b_s
  · obtain ⟨rfl, rfl⟩ := e_s
    refine ⟨q_s, zsame_up, ?_⟩
    rw [hq]
    rcases hm_s with rfl | rfl
    · exact List.mem_cons_self
    · exact List.mem_cons_of_mem _ List.mem_cons_self
  · show ∃ p_s, zup h_s.2.2.2 o b_s (some q_s) o1_s k1_s = some p_s ∧ p_s ∈ krf o1_s k1_s
    rw [zne_up e_s]
    exact hk.2 o1_s k1_s hn_s
theorem hkr9 {h_s : zH} {q_s : Nat} (hk : hKn h_s) (hm_s : q_s = 14 ∨ q_s = 17) : hKn (h_s.1, h_s.2.1, h_s.2.2.1, zup h_s.2.2.2 7 9 (some q_s)) := hkr_ hk rfl hm_s
theorem hkr10 {h_s : zH} {q_s : Nat} (hk : hKn h_s) (hm_s : q_s = 14 ∨ q_s = 17) : hKn (h_s.1, h_s.2.1, h_s.2.2.1, zup h_s.2.2.2 7 10 (some q_s)) := hkr_ hk rfl hm_s
/-! FROM CONTRACTS to ended runs: what is kept, and which cells. -/
theorem zr_det {f_s f1_s d_s d1_s mi : Nat} {x_s : zC} {r_s r1_s : Option Value} {h_s h1 : zH} (a_s : zr f_s d_s mi 100000 x_s = some (.inr (r_s, h_s))) (b_s : zr f1_s d1_s mi 100000 x_s = some (.inr (r1_s, h1))) : r_s = r1_s ∧ h_s = h1 := by
  have a1_s := zr_deeper (Nat.le_max_left d_s d1_s) (zr_le (Nat.le_max_left f_s f1_s) a_s)
  have b1 := zr_deeper (Nat.le_max_right d_s d1_s) (zr_le (Nat.le_max_right f_s f1_s) b_s)
  rw [a1_s] at b1
  cases b1
  exact ⟨rfl, rfl⟩
def hIw (h_s : zH) : Prop := aInv kS krf (aiv kB) h_s ∧ aJ h_s
theorem hIw_k {h_s : zH} (hI : hIw h_s) : hKn h_s := ⟨hI.1.1, hI.1.2.1⟩
theorem cx0 {e_s : aE} {F_s : Nat} {E_s : List Int} {x_s : zC} (hok : aOK kS krf kB e_s) (R_s : aRel kS krf (aiv kB) E_s e_s.2.2.1 x_s) (hD : aDs E_s e_s.2.2.2.1.1) (hsl : aSl0 E_s x_s.2.2.2.1 e_s.2.2.2.1.2) (hj : aJ x_s.2.2.2) : wF F_s e_s.1 x_s (aPost kS krf kB e_s E_s x_s.2.2.2) := by
  intro f_s d_s r_s h1 _ hr
  obtain ⟨f1_s, r1_s, h2, hr1, hp⟩ := hok E_s x_s R_s hD hsl hj
  obtain ⟨rfl, rfl⟩ := zr_det hr hr1
  exact hp
theorem cxI {e_s : aE} {F_s : Nat} {E_s : List Int} {x_s : zC} {a_s : aI} (hok : aOK kS krf kB e_s) (R_s : aRel kS krf (aiv kB) E_s e_s.2.2.1 x_s) (hj : aJ x_s.2.2.2) (he : e_s.2.2.2.2.1.2.2.1 = some (.inl (.inl a_s))) (hD : e_s.2.2.2.1 = ([], none)) : wF F_s e_s.1 x_s (gI (fun _ h1 => hIw h1 ∧ aFr (aWf e_s.2.2.2.2.2) x_s.2.2.2 h1)) := by
  refine wF_mono (cx0 hok R_s (fun f_s hf => ?_) (fun k_s hk => ?_) hj) (fun r_s h1 q_s => ?_)
  · rw [hD] at hf
    cases hf
  · rw [hD] at hk
    cases hk
  · obtain ⟨q1_s, _, r1_s, hh, _, _, fr_s, hj1⟩ := q_s
    rw [he] at r1_s
    match r_s, r1_s with
    | some v_s, r1_s =>
      obtain ⟨z_s, rfl, _⟩ := r1_s
      exact ⟨z_s, rfl, ⟨hh.1.1, hh.1.2.1⟩, ⟨hh.1, hj1⟩, fr_s⟩
    | none, r1_s => exact r1_s.elim
theorem cxJ {e_s : aE} {F_s : Nat} {E_s : List Int} {x_s : zC} {a_s : aI} (hok : aOK kS krf kB e_s) (R_s : aRel kS krf (aiv kB) E_s e_s.2.2.1 x_s) (hj : aJ x_s.2.2.2) (he : e_s.2.2.2.2.1.2.2.1 = some (.inl (.inr a_s))) (hD : e_s.2.2.2.1 = ([], none)) : wF F_s e_s.1 x_s (gJ (fun _ h1 => hIw h1 ∧ aFr (aWf e_s.2.2.2.2.2) x_s.2.2.2 h1)) := by
  refine wF_mono (cx0 hok R_s (fun f_s hf => ?_) (fun k_s hk => ?_) hj) (fun r_s h1 q_s => ?_)
  · rw [hD] at hf
    cases hf
  · rw [hD] at hk
    cases hk
  · obtain ⟨q1_s, _, r1_s, hh, _, _, fr_s, hj1⟩ := q_s
    rw [he] at r1_s
    match r_s, r1_s with
    | some v_s, r1_s =>
      obtain ⟨z_s, rfl, _⟩ := r1_s
      exact ⟨z_s, rfl, ⟨hh.1.1, hh.1.2.1⟩, ⟨hh.1, hj1⟩, fr_s⟩
    | none, r1_s => exact r1_s.elim
def bI : Int × Int := (.negSucc 2147483647, .ofNat 2147483647)
def bJ : Int × Int := (.negSucc 9223372036854775807, .ofNat 9223372036854775807)
theorem bI_ok (x_s : Int32) : bI.1 ≤ x_s.toInt ∧ x_s.toInt ≤ bI.2 := na_rng x_s
theorem bJ_ok (x_s : Int64) : bJ.1 ≤ x_s.toInt ∧ x_s.toInt ≤ bJ.2 := na_rngL x_s
theorem zget_rep {α : Type} {a_s : α} : ∀ {n_s k_s : Nat} {b_s : α}, zget (List.replicate n_s a_s) k_s = some b_s → b_s = a_s
  | 0, _, _, hq => by cases hq
  | n_s + 1, 0, b_s, hq => by
    cases hq
    rfl
  | n_s + 1, k_s + 1, b_s, hq => zget_rep (n_s := n_s) (k_s := k_s) hq
theorem rel0 {o n_s : Nat}  {h_s : zH} (hI : hIw h_s) : aRel kS krf (aiv kB) [] ([], [], 0, [some (.inr [o])] ++ List.replicate n_s none, []) (0, [some (.ref o)] ++ List.replicate n_s none, [], h_s) := by
  refine ⟨⟨rfl, fun k_s w_s q_s h1 h2 => ?_⟩, rfl, ⟨?_, fun i_s a_s ha_s => ?_⟩, trivial, hI.1, fun o k_s a_s ha_s => by cases ha_s⟩
  · cases h1
  · simp only [List.length_append, List.length_replicate, List.length_cons, List.length_nil]
  · match i_s, ha_s with
    | 0, ha_s =>
      cases ha_s
      exact ⟨_, rfl, o, rfl, List.mem_singleton.mpr rfl⟩
    | k_s + 1, ha_s =>
      have q_s := zget_rep (n_s := n_s) (k_s := k_s) ha_s
      cases q_s
theorem rel1 {o n_s : Nat} {x1_s : Int32} {h_s : zH} (hI : hIw h_s) : aRel kS krf (aiv kB) [x1_s.toInt] ([bI], [], 0, [some (.inr [o]), some (.inl (.inl (.inl (0, .ofNat 0))))] ++ List.replicate n_s none, []) (0, [some (.ref o), some (.int x1_s)] ++ List.replicate n_s none, [], h_s) := by
  refine ⟨⟨rfl, fun k_s w_s q_s h1 h2 => ?_⟩, rfl, ⟨?_, fun i_s a_s ha_s => ?_⟩, trivial, hI.1, fun o k_s a_s ha_s => by cases ha_s⟩
  · match k_s, h1, h2 with
    | 0, h1, h2 =>
      cases h1
      cases h2
      exact bI_ok x1_s
    | _ + 1, h1, _ => cases h1
  · simp only [List.length_append, List.length_replicate, List.length_cons, List.length_nil]
  · match i_s, ha_s with
    | 0, ha_s =>
      cases ha_s
      exact ⟨_, rfl, o, rfl, List.mem_singleton.mpr rfl⟩
    | 1, ha_s =>
      cases ha_s
      exact ⟨_, rfl, x1_s, rfl, x1_s.toInt, rfl, (Int.add_zero _).symm⟩
    | k_s + 2, ha_s =>
      have q_s := zget_rep (n_s := n_s) (k_s := k_s) ha_s
      cases q_s
theorem rel2 {o n_s : Nat} {x1_s : Int32} {x2_s : Int32} {h_s : zH} (hI : hIw h_s) : aRel kS krf (aiv kB) [x1_s.toInt, x2_s.toInt] ([bI, bI], [], 0, [some (.inr [o]), some (.inl (.inl (.inl (0, .ofNat 0)))), some (.inl (.inl (.inl (1, .ofNat 0))))] ++ List.replicate n_s none, []) (0, [some (.ref o), some (.int x1_s), some (.int x2_s)] ++ List.replicate n_s none, [], h_s) := by
  refine ⟨⟨rfl, fun k_s w_s q_s h1 h2 => ?_⟩, rfl, ⟨?_, fun i_s a_s ha_s => ?_⟩, trivial, hI.1, fun o k_s a_s ha_s => by cases ha_s⟩
  · match k_s, h1, h2 with
    | 0, h1, h2 =>
      cases h1
      cases h2
      exact bI_ok x1_s
    | 1, h1, h2 =>
      cases h1
      cases h2
      exact bI_ok x2_s
    | _ + 2, h1, _ => cases h1
  · simp only [List.length_append, List.length_replicate, List.length_cons, List.length_nil]
  · match i_s, ha_s with
    | 0, ha_s =>
      cases ha_s
      exact ⟨_, rfl, o, rfl, List.mem_singleton.mpr rfl⟩
    | 1, ha_s =>
      cases ha_s
      exact ⟨_, rfl, x1_s, rfl, x1_s.toInt, rfl, (Int.add_zero _).symm⟩
    | 2, ha_s =>
      cases ha_s
      exact ⟨_, rfl, x2_s, rfl, x2_s.toInt, rfl, (Int.add_zero _).symm⟩
    | k_s + 3, ha_s =>
      have q_s := zget_rep (n_s := n_s) (k_s := k_s) ha_s
      cases q_s
theorem rel3 {o n_s : Nat} {x1_s : Int32} {x2_s : Int32} {x3 : Int32} {h_s : zH} (hI : hIw h_s) : aRel kS krf (aiv kB) [x1_s.toInt, x2_s.toInt, x3.toInt] ([bI, bI, bI], [], 0, [some (.inr [o]), some (.inl (.inl (.inl (0, .ofNat 0)))), some (.inl (.inl (.inl (1, .ofNat 0)))), some (.inl (.inl (.inl (2, .ofNat 0))))] ++ List.replicate n_s none, []) (0, [some (.ref o), some (.int x1_s), some (.int x2_s), some (.int x3)] ++ List.replicate n_s none, [], h_s) := by
  refine ⟨⟨rfl, fun k_s w_s q_s h1 h2 => ?_⟩, rfl, ⟨?_, fun i_s a_s ha_s => ?_⟩, trivial, hI.1, fun o k_s a_s ha_s => by cases ha_s⟩
  · match k_s, h1, h2 with
    | 0, h1, h2 =>
      cases h1
      cases h2
      exact bI_ok x1_s
    | 1, h1, h2 =>
      cases h1
      cases h2
      exact bI_ok x2_s
    | 2, h1, h2 =>
      cases h1
      cases h2
      exact bI_ok x3
    | _ + 3, h1, _ => cases h1
  · simp only [List.length_append, List.length_replicate, List.length_cons, List.length_nil]
  · match i_s, ha_s with
    | 0, ha_s =>
      cases ha_s
      exact ⟨_, rfl, o, rfl, List.mem_singleton.mpr rfl⟩
    | 1, ha_s =>
      cases ha_s
      exact ⟨_, rfl, x1_s, rfl, x1_s.toInt, rfl, (Int.add_zero _).symm⟩
    | 2, ha_s =>
      cases ha_s
      exact ⟨_, rfl, x2_s, rfl, x2_s.toInt, rfl, (Int.add_zero _).symm⟩
    | 3, ha_s =>
      cases ha_s
      exact ⟨_, rfl, x3, rfl, x3.toInt, rfl, (Int.add_zero _).symm⟩
    | k_s + 4, ha_s =>
      have q_s := zget_rep (n_s := n_s) (k_s := k_s) ha_s
      cases q_s
theorem rel4 {o n_s : Nat} {x1_s : Int32} {x2_s : Int32} {x3 : Int32} {x4_s : Int32} {h_s : zH} (hI : hIw h_s) : aRel kS krf (aiv kB) [x1_s.toInt, x2_s.toInt, x3.toInt, x4_s.toInt] ([bI, bI, bI, bI], [], 0, [some (.inr [o]), some (.inl (.inl (.inl (0, .ofNat 0)))), some (.inl (.inl (.inl (1, .ofNat 0)))), some (.inl (.inl (.inl (2, .ofNat 0)))), some (.inl (.inl (.inl (3, .ofNat 0))))] ++ List.replicate n_s none, []) (0, [some (.ref o), some (.int x1_s), some (.int x2_s), some (.int x3), some (.int x4_s)] ++ List.replicate n_s none, [], h_s) := by
  refine ⟨⟨rfl, fun k_s w_s q_s h1 h2 => ?_⟩, rfl, ⟨?_, fun i_s a_s ha_s => ?_⟩, trivial, hI.1, fun o k_s a_s ha_s => by cases ha_s⟩
  · match k_s, h1, h2 with
    | 0, h1, h2 =>
      cases h1
      cases h2
      exact bI_ok x1_s
    | 1, h1, h2 =>
      cases h1
      cases h2
      exact bI_ok x2_s
    | 2, h1, h2 =>
      cases h1
      cases h2
      exact bI_ok x3
    | 3, h1, h2 =>
      cases h1
      cases h2
      exact bI_ok x4_s
    | _ + 4, h1, _ => cases h1
  · simp only [List.length_append, List.length_replicate, List.length_cons, List.length_nil]
  · match i_s, ha_s with
    | 0, ha_s =>
      cases ha_s
      exact ⟨_, rfl, o, rfl, List.mem_singleton.mpr rfl⟩
    | 1, ha_s =>
      cases ha_s
      exact ⟨_, rfl, x1_s, rfl, x1_s.toInt, rfl, (Int.add_zero _).symm⟩
    | 2, ha_s =>
      cases ha_s
      exact ⟨_, rfl, x2_s, rfl, x2_s.toInt, rfl, (Int.add_zero _).symm⟩
    | 3, ha_s =>
      cases ha_s
      exact ⟨_, rfl, x3, rfl, x3.toInt, rfl, (Int.add_zero _).symm⟩
    | 4, ha_s =>
      cases ha_s
      exact ⟨_, rfl, x4_s, rfl, x4_s.toInt, rfl, (Int.add_zero _).symm⟩
    | k_s + 5, ha_s =>
      have q_s := zget_rep (n_s := n_s) (k_s := k_s) ha_s
      cases q_s
theorem rel5 {o n_s : Nat} {x1_s : Int32} {x2_s : Int32} {x3 : Int32} {x4_s : Int32} {x5_s : Int32} {h_s : zH} (hI : hIw h_s) : aRel kS krf (aiv kB) [x1_s.toInt, x2_s.toInt, x3.toInt, x4_s.toInt, x5_s.toInt] ([bI, bI, bI, bI, bI], [], 0, [some (.inr [o]), some (.inl (.inl (.inl (0, .ofNat 0)))), some (.inl (.inl (.inl (1, .ofNat 0)))), some (.inl (.inl (.inl (2, .ofNat 0)))), some (.inl (.inl (.inl (3, .ofNat 0)))), some (.inl (.inl (.inl (4, .ofNat 0))))] ++ List.replicate n_s none, []) (0, [some (.ref o), some (.int x1_s), some (.int x2_s), some (.int x3), some (.int x4_s), some (.int x5_s)] ++ List.replicate n_s none, [], h_s) := by
  refine ⟨⟨rfl, fun k_s w_s q_s h1 h2 => ?_⟩, rfl, ⟨?_, fun i_s a_s ha_s => ?_⟩, trivial, hI.1, fun o k_s a_s ha_s => by cases ha_s⟩
  · match k_s, h1, h2 with
    | 0, h1, h2 =>
      cases h1
      cases h2
      exact bI_ok x1_s
    | 1, h1, h2 =>
      cases h1
      cases h2
      exact bI_ok x2_s
    | 2, h1, h2 =>
      cases h1
      cases h2
      exact bI_ok x3
    | 3, h1, h2 =>
      cases h1
      cases h2
      exact bI_ok x4_s
    | 4, h1, h2 =>
      cases h1
      cases h2
      exact bI_ok x5_s
    | _ + 5, h1, _ => cases h1
  · simp only [List.length_append, List.length_replicate, List.length_cons, List.length_nil]
  · match i_s, ha_s with
    | 0, ha_s =>
      cases ha_s
      exact ⟨_, rfl, o, rfl, List.mem_singleton.mpr rfl⟩
    | 1, ha_s =>
      cases ha_s
      exact ⟨_, rfl, x1_s, rfl, x1_s.toInt, rfl, (Int.add_zero _).symm⟩
    | 2, ha_s =>
      cases ha_s
      exact ⟨_, rfl, x2_s, rfl, x2_s.toInt, rfl, (Int.add_zero _).symm⟩
    | 3, ha_s =>
      cases ha_s
      exact ⟨_, rfl, x3, rfl, x3.toInt, rfl, (Int.add_zero _).symm⟩
    | 4, ha_s =>
      cases ha_s
      exact ⟨_, rfl, x4_s, rfl, x4_s.toInt, rfl, (Int.add_zero _).symm⟩
    | 5, ha_s =>
      cases ha_s
      exact ⟨_, rfl, x5_s, rfl, x5_s.toInt, rfl, (Int.add_zero _).symm⟩
    | k_s + 6, ha_s =>
      have q_s := zget_rep (n_s := n_s) (k_s := k_s) ha_s
      cases q_s
theorem relp {o n_s : Nat} {x1_s : Int32} {x2_s : Int32} {x3 : Int64} {h_s : zH} (hI : hIw h_s) : aRel kS krf (aiv kB) [x1_s.toInt, x2_s.toInt, x3.toInt] ([bI, bI, bJ], [], 0, [some (.inr [o]), some (.inl (.inl (.inl (0, .ofNat 0)))), some (.inl (.inl (.inl (1, .ofNat 0)))), some (.inl (.inr (.inl (2, .ofNat 0)))), none] ++ List.replicate n_s none, []) (0, [some (.ref o), some (.int x1_s), some (.int x2_s), some (.long x3), none] ++ List.replicate n_s none, [], h_s) := by
  refine ⟨⟨rfl, fun k_s w_s q_s h1 h2 => ?_⟩, rfl, ⟨?_, fun i_s a_s ha_s => ?_⟩, trivial, hI.1, fun o k_s a_s ha_s => by cases ha_s⟩
  · match k_s, h1, h2 with
    | 0, h1, h2 =>
      cases h1
      cases h2
      exact bI_ok x1_s
    | 1, h1, h2 =>
      cases h1
      cases h2
      exact bI_ok x2_s
    | 2, h1, h2 =>
      cases h1
      cases h2
      exact bJ_ok x3
    | _ + 3, h1, _ => cases h1
  · simp only [List.length_append, List.length_replicate, List.length_cons, List.length_nil]
  · match i_s, ha_s with
    | 0, ha_s =>
      cases ha_s
      exact ⟨_, rfl, o, rfl, List.mem_singleton.mpr rfl⟩
    | 1, ha_s =>
      cases ha_s
      exact ⟨_, rfl, x1_s, rfl, x1_s.toInt, rfl, (Int.add_zero _).symm⟩
    | 2, ha_s =>
      cases ha_s
      exact ⟨_, rfl, x2_s, rfl, x2_s.toInt, rfl, (Int.add_zero _).symm⟩
    | 3, ha_s =>
      cases ha_s
      exact ⟨_, rfl, x3, rfl, x3.toInt, rfl, (Int.add_zero _).symm⟩
    | 4, ha_s => cases ha_s
    | k_s + 5, ha_s =>
      have q_s := zget_rep (n_s := n_s) (k_s := k_s) ha_s
      cases q_s
/-! NUMBERS, and two things known of one run. -/
theorem n1_ : (1 : Int32).toInt = 1 := rfl
theorem in1_ {x_s : Int32} (q_s : x_s.toInt < 2147483647) : (x_s + 1).toInt = x_s.toInt + 1 := by
  have r_s := na_rng x_s
  rw [na_add (by rw [n1_]; omega) (by rw [n1_]; omega), n1_]
theorem i60_ : (60 : Int32).toInt = 60 := rfl
theorem i50_ : (50 : Int32).toInt = 50 := rfl
theorem m60_ {d_s : Int32} (h0 : 0 ≤ d_s.toInt) (h1 : d_s.toInt ≤ 5) : (60 * d_s).toInt = 60 * d_s.toInt := by
  rw [na_mul (by rw [i60_]; omega) (by rw [i60_]; omega), i60_]
theorem a60_ {d_s i_s : Int32} (h0 : 0 ≤ d_s.toInt) (h1 : d_s.toInt ≤ 5) (h2 : 0 ≤ i_s.toInt) (h3 : i_s.toInt ≤ 60) : (60 * d_s + i_s).toInt = 60 * d_s.toInt + i_s.toInt := by
  have e_s := m60_ h0 h1
  rw [na_add (by rw [e_s]; omega) (by rw [e_s]; omega), e_s]
theorem zx60 {d_s i_s : Int32} (h0 : 0 ≤ d_s.toInt) (h1 : d_s.toInt ≤ 5) (h2 : 0 ≤ i_s.toInt) (h3 : i_s.toInt ≤ 60) : zix (60 * d_s + i_s) = 60 * zix d_s + zix i_s := by
  have e_s := a60_ h0 h1 h2 h3
  have a1_s := azix h0
  have a2 := azix h2
  have a3 := azix (i := 60 * d_s + i_s) (by omega)
  omega
theorem zx60k {d_s i_s k_s : Int32} (h0 : 0 ≤ d_s.toInt) (h1 : d_s.toInt ≤ 5) (h2 : 0 ≤ i_s.toInt) (h3 : i_s.toInt ≤ 60) (h4 : 0 ≤ k_s.toInt) (h5 : k_s.toInt ≤ 60) : zix (60 * d_s + i_s + k_s) = 60 * zix d_s + zix i_s + zix k_s := by
  have e_s := a60_ h0 h1 h2 h3
  have e2_s : (60 * d_s + i_s + k_s).toInt = 60 * d_s.toInt + i_s.toInt + k_s.toInt := by rw [na_add (by rw [e_s]; omega) (by rw [e_s]; omega), e_s]
  have a1_s := azix h0
  have a2 := azix h2
  have a4 := azix h4
  have a3 := azix (i := 60 * d_s + i_s + k_s) (by omega)
  omega
theorem waI {F_s mi : Nat} {x_s : zC} {K1 K2 : Int32 → zH → Prop} (a_s : wF F_s mi x_s (gI K1)) (b_s : wF F_s mi x_s (gI K2)) : wF F_s mi x_s (gI (fun v_s h_s => K1 v_s h_s ∧ K2 v_s h_s)) := by
  intro f_s d_s r_s h1 hf hr
  obtain ⟨v_s, e1_s, k1_s, p1_s⟩ := a_s f_s d_s r_s h1 hf hr
  obtain ⟨u_s, e2_s, _, p2_s⟩ := b_s f_s d_s r_s h1 hf hr
  rw [e1_s] at e2_s
  cases e2_s
  exact ⟨v_s, e1_s, k1_s, p1_s, p2_s⟩
theorem waJ {F_s mi : Nat} {x_s : zC} {K1 K2 : Int64 → zH → Prop} (a_s : wF F_s mi x_s (gJ K1)) (b_s : wF F_s mi x_s (gJ K2)) : wF F_s mi x_s (gJ (fun v_s h_s => K1 v_s h_s ∧ K2 v_s h_s)) := by
  intro f_s d_s r_s h1 hf hr
  obtain ⟨v_s, e1_s, k1_s, p1_s⟩ := a_s f_s d_s r_s h1 hf hr
  obtain ⟨u_s, e2_s, _, p2_s⟩ := b_s f_s d_s r_s h1 hf hr
  rw [e1_s] at e2_s
  cases e2_s
  exact ⟨v_s, e1_s, k1_s, p1_s, p2_s⟩
