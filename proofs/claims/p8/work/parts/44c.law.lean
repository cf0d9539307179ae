/-! TWO ROWS THAT HOLD THE SAME (48, 122: the kinds of the bodies): an element read twice is one number; a number put into the first is put into the second. -/
abbrev aTm : Type := aDl × Option (aI × aI)
def aTms (E_s : List Int) (f_s : Nat → Nat → Int32) (tm : aTm) : Prop := (match tm.2 with
  | none => ∀ k_s, f_s 48 k_s = f_s 122 k_s
  | some p_s => ∃ n_s : Nat, aIs E_s (n_s : Int) p_s.1 ∧ aIs E_s (f_s 48 n_s).toInt p_s.2 ∧ ∀ k_s, k_s ≠ n_s → f_s 48 k_s = f_s 122 k_s) ∧ ∀ p_s, p_s ∈ tm.1 → ∃ (n_s : Nat) (w_s : Int), aIs E_s (n_s : Int) p_s.1 ∧ zget E_s p_s.2 = some w_s ∧ w_s = (f_s 48 n_s).toInt
theorem aTms_ext {E_s q_s : List Int} {f_s : Nat → Nat → Int32} {tm : aTm} (h_s : aTms E_s f_s tm) : aTms (E_s ++ q_s) f_s tm := by
  obtain ⟨l, t_s⟩ := tm
  refine ⟨?_, fun p_s hp => ?_⟩
  · match t_s, h_s.1 with
    | none, g_s => exact g_s
    | some p_s, g_s =>
      obtain ⟨n_s, n1_s, n2_s, n3_s⟩ := g_s
      exact ⟨n_s, aIs_ext n1_s, aIs_ext n2_s, n3_s⟩
  · obtain ⟨n_s, w_s, g1, g2, g3_s⟩ := h_s.2 p_s hp
    exact ⟨n_s, w_s, aIs_ext g1, zget_app g2, g3_s⟩
theorem aTms_same {E_s : List Int} {f_s f' : Nat → Nat → Int32} {tm : aTm} (h_s : aTms E_s f_s tm) (e1_s : ∀ k_s, f' 48 k_s = f_s 48 k_s) (e2_s : ∀ k_s, f' 122 k_s = f_s 122 k_s) : aTms E_s f' tm := by
  obtain ⟨l, t_s⟩ := tm
  refine ⟨?_, fun p_s hp => ?_⟩
  · match t_s, h_s.1 with
    | none, g_s =>
      show ∀ k_s, f' 48 k_s = f' 122 k_s
      intro k_s
      rw [e1_s, e2_s]
      exact g_s k_s
    | some p_s, g_s =>
      obtain ⟨n_s, n1_s, n2_s, n3_s⟩ := g_s
      exact ⟨n_s, n1_s, by rw [e1_s]; exact n2_s, fun k_s hk => by rw [e1_s, e2_s]; exact n3_s k_s hk⟩
  · obtain ⟨n_s, w_s, g1, g2, g3_s⟩ := h_s.2 p_s hp
    exact ⟨n_s, w_s, g1, g2, by rw [e1_s]; exact g3_s⟩
def aldn (cs : aCs) (i_s : aI) : aDl → Option Nat
  | [] => none
  | (j_s, k_s) :: r_s => bif aeqI (anI cs j_s) i_s then some k_s else aldn cs i_s r_s
theorem aldn_ok {cs : aCs} {i_s : aI} : ∀ {dl : aDl} {k_s : Nat}, aldn cs i_s dl = some k_s → ∃ j_s, (j_s, k_s) ∈ dl ∧ anI cs j_s = i_s
  | [], _, h_s => by cases h_s
  | (j_s, k') :: r_s, k_s, h_s => by
    unfold aldn at h_s
    cases hb_s : aeqI (anI cs j_s) i_s
    · rw [hb_s] at h_s
      obtain ⟨j', m1_s, m2_s⟩ := aldn_ok (dl := r_s) h_s
      exact ⟨j', List.mem_cons_of_mem _ m1_s, m2_s⟩
    · rw [hb_s] at h_s
      have h_s : some k' = some k_s := h_s
      cases h_s
      exact ⟨j_s, List.mem_cons_self, aeqI_ok hb_s⟩
def atb (B_s : aB) (o : Nat) : Int × Int := match B_s o with
  | some (.inl q_s) => q_s
  | _ => afull
theorem atb_ok {S_s : Nat → Option (Nat × Nat)} {rf : Nat → Nat → List Nat} {B_s : aB} {h_s : zH} (hh : aInv S_s rf (aiv B_s) h_s) (o k_s : Nat) : (atb B_s o).1 ≤ (h_s.2.1 o k_s).toInt ∧ (h_s.2.1 o k_s).toInt ≤ (atb B_s o).2 := by
  have b_s := hh.2.2 o k_s
  unfold atb
  unfold aiv at b_s
  split
  · rename_i q_s hq
    rw [hq] at b_s
    exact b_s
  · exact na_rng _
def atml (S_s : Nat → Option (Nat × Nat)) (B_s : aB) (tm : aTm) (len_s : Nat) (X_s : aX) : Option (aX × aTm) := match X_s.2.2.2.2 with
  | .inl (.inl i_s) :: .inr [o] :: r_s => bif ((Nat.beq o 48 || Nat.beq o 122) && tm.2.isNone) && ain S_s X_s.1 i_s [o] (fun _ t_s => Nat.beq t_s 0) then (match aldn X_s.1 i_s tm.1 with
    | some k_s => some ((X_s.1, X_s.2.1, X_s.2.2.1 + len_s, X_s.2.2.2.1, .inl (.inl (.inl (k_s, 0))) :: r_s), tm)
    | none => some ((X_s.1 ++ [atb B_s o], X_s.2.1, X_s.2.2.1 + len_s, X_s.2.2.2.1, .inl (.inl (.inl (X_s.1.length, 0))) :: r_s), ((i_s, X_s.1.length) :: tm.1, tm.2))) else none
  | _ => none
def atw (o : Nat) (o' _ : Nat) : Bool := Nat.beq o' o
def atwA (o : Nat) (o' : Nat) : Bool := Nat.beq o' o
def atmw (S_s : Nat → Option (Nat × Nat)) (B_s : aB) (len_s o : Nat) (X_s : aX) (tm : aTm) : Option (aX × aTm) := match aq25 S_s B_s (atw o) (atwA o) len_s X_s with
  | some (.inl [Y]) => some (Y, tm)
  | _ => none
def atms (S_s : Nat → Option (Nat × Nat)) (B_s : aB) (tm : aTm) (len_s : Nat) (X_s : aX) : Option (aX × aTm) := match X_s.2.2.2.2 with
  | .inl (.inl v_s) :: .inl (.inl i_s) :: .inr [o] :: _ => bif ain S_s X_s.1 i_s [o] (fun _ t_s => Nat.beq t_s 0) then (match tm.2 with
    | none => bif Nat.beq o 48 then atmw S_s B_s len_s 48 X_s ([], some (i_s, v_s)) else none
    | some p_s => bif Nat.beq o 122 && (aeqI (anI X_s.1 p_s.1) i_s && aeqI (anI X_s.1 p_s.2) v_s) then atmw S_s B_s len_s 122 X_s ([], none) else none) else none
  | _ => none
def atm (S_s : Nat → Option (Nat × Nat)) (B_s : aB) (tm : aTm) : zI → aX → Option (aX × aTm) := fun (op_s, len_s, _, _, _, _, _) X_s => bif Nat.beq op_s 22 then atml S_s B_s tm len_s (anrm X_s) else bif Nat.beq op_s 25 then atms S_s B_s tm len_s (anrm X_s) else none
/-- what such a step changes -/
def aTmk (h_s h' : zH) : Prop := (∀ o k_s, o ≠ 48 → o ≠ 122 → h'.2.1 o k_s = h_s.2.1 o k_s) ∧ h'.2.2.1 = h_s.2.2.1 ∧ h'.1 = h_s.1
theorem aTmk_refl {h_s : zH} : aTmk h_s h_s := ⟨fun _ _ _ _ => rfl, rfl, rfl⟩
section AZ3
variable {S_s : Nat → Option (Nat × Nat)} {rf : Nat → Nat → List Nat} {B_s : aB} {E_s : List Int}
theorem atml_ok {X_s Z_s : aX} {x_s : zC} {tm tm' : aTm} {len_s a_s b_s c_s : Nat} {v_s : Value} {sw_s : List (Int32 × Nat)} (R_s : aRel S_s rf (aiv B_s) E_s X_s x_s) (ht : aTms E_s x_s.2.2.2.2.1 tm) (h0 : atml S_s B_s tm len_s X_s = some (Z_s, tm')) : ∃ y_s q_s, zstep (22, len_s, a_s, b_s, c_s, v_s, sw_s) x_s = some (.inl y_s) ∧ aRel S_s rf (aiv B_s) (E_s ++ q_s) Z_s y_s ∧ aTms (E_s ++ q_s) y_s.2.2.2.2.1 tm' ∧ aTmk x_s.2.2.2 y_s.2.2.2 := by
  obtain ⟨cs, T, pc, al_s, as_s⟩ := X_s
  obtain ⟨pc', lo_s, st_s, h_s⟩ := x_s
  obtain ⟨hs, hpc, hl, hst, hh⟩ := R_s
  have hpc : pc = pc' := hpc
  subst hpc
  unfold atml at h0
  dsimp only at h0 ht
  split at h0
  · rename_i i_s o r_s
    obtain ⟨u_s, sr, e3_s, ⟨jv, rfl, hj⟩, h3⟩ := aSt_cons hst
    obtain ⟨u_s, sr2, rfl, ⟨o', rfl, ho⟩, h5⟩ := aSt_cons h3
    have e3_s : st_s = .int jv :: .ref o' :: sr2 := e3_s
    subst e3_s
    have eo := List.mem_singleton.mp ho
    subst eo
    generalize hcnd : (((Nat.beq o' 48 || Nat.beq o' 122) && tm.2.isNone) && ain S_s cs i_s [o'] (fun _ t_s => Nat.beq t_s 0)) = cnd at h0
    cases cnd with
    | false => cases h0
    | true =>
      dsimp only [cond_true] at h0
      rw [Bool.and_eq_true, Bool.and_eq_true, Bool.or_eq_true] at hcnd
      obtain ⟨⟨ho2, hnn_s⟩, hin⟩ := hcnd
      obtain ⟨l, t_s⟩ := tm
      match t_s, hnn_s with
      | none, _ =>
        obtain ⟨tt, n_s, hg, hf1, hz, hzj, p1_s, p2_s, p3_s⟩ := ain_ok hh.1.1 hin hs hj (List.mem_singleton.mpr rfl)
        have key_s : zstep (22, len_s, a_s, b_s, c_s, v_s, sw_s) (pc, lo_s, .int jv :: .ref o' :: sr2, h_s) = some (.inl (pc + len_s, lo_s, .int (h_s.2.1 o' (zix jv)) :: sr2, h_s)) := by
          show zs22 len_s (pc, lo_s, .int jv :: .ref o' :: sr2, h_s) = _
          simp only [zs22]
          rw [hg]
          dsimp only
          rw [hf1, hz]
          rfl
        have tie_s : ∀ k_s, h_s.2.1 48 k_s = h_s.2.1 122 k_s := ht.1
        have eo48 : h_s.2.1 o' (zix jv) = h_s.2.1 48 (zix jv) := by
          rcases ho2 with g_s | g_s
          · rw [Nat.eq_of_beq_eq_true g_s]
          · rw [Nat.eq_of_beq_eq_true g_s, tie_s]
        have hi2 : aIs E_s ((zix jv : Nat) : Int) i_s := by
          rw [hzj]
          exact hj
        split at h0
        · rename_i k_s hk
          cases h0
          obtain ⟨ji, m1_s, m2_s⟩ := aldn_ok hk
          obtain ⟨j_s, w_s, g1, g2, g3_s⟩ := ht.2 _ m1_s
          dsimp only at g1 g2 g3_s
          have g1 := anI_ok hs g1
          rw [m2_s] at g1
          have ej : j_s = zix jv := by
            have := (aval_eq g1).symm.trans (aval_eq hi2)
            omega
          subst ej
          refine ⟨_, [], key_s, ?_, by rw [List.append_nil]; exact ht, aTmk_refl⟩
          rw [List.append_nil]
          refine ⟨hs, rfl, hl, ⟨⟨_, rfl, w_s, g2, ?_⟩, h5⟩, hh⟩
          rw [eo48]
          omega
        · cases h0
          have bw := atb_ok (B_s := B_s) hh.1 o' (zix jv)
          have hn : aIs (E_s ++ [(h_s.2.1 o' (zix jv)).toInt]) (h_s.2.1 o' (zix jv)).toInt (.inl (cs.length, 0)) := by
            rw [← hs.1]
            exact aIs_new
          refine ⟨_, [(h_s.2.1 o' (zix jv)).toInt], key_s, ⟨aSat_ext hs bw.1 bw.2, rfl, aLo_ext hl, ⟨⟨_, rfl, hn⟩, aSt_ext h5⟩, aHp_ext hh⟩, ?_, aTmk_refl⟩
          have he := aTms_ext (q_s := [(h_s.2.1 o' (zix jv)).toInt]) ht
          refine ⟨he.1, fun p_s hp => ?_⟩
          rcases List.mem_cons.mp hp with rfl | hp
          · refine ⟨zix jv, _, aIs_ext hi2, ?_, by rw [eo48]⟩
            dsimp only
            rw [← hs.1, ← eo48]
            exact zget_end E_s _
          · exact he.2 p_s hp
  · cases h0
theorem atmw_ok {X_s Z_s : aX} {x_s : zC} {tm tm' : aTm} {len_s a_s b_s c_s o : Nat} {v_s : Value} {sw_s : List (Int32 × Nat)} {xv jv : Int32} {sr : List Value} (R_s : aRel S_s rf (aiv B_s) E_s X_s x_s) (hst : x_s.2.2.1 = .int xv :: .int jv :: .ref o :: sr) (h0 : atmw S_s B_s len_s o X_s tm = some (Z_s, tm')) : tm' = tm ∧ ∃ y_s q_s, zstep (25, len_s, a_s, b_s, c_s, v_s, sw_s) x_s = some (.inl y_s) ∧ aRel S_s rf (aiv B_s) (E_s ++ q_s) Z_s y_s ∧ y_s.2.2.2 = (x_s.2.2.2.1, zup x_s.2.2.2.2.1 o (zix jv) xv, x_s.2.2.2.2.2.1, x_s.2.2.2.2.2.2) := by
  obtain ⟨cs, T, pc, al_s, as_s⟩ := X_s
  obtain ⟨pc', lo_s, st_s, h_s⟩ := x_s
  have hpc : pc = pc' := R_s.2.1
  subst hpc
  dsimp only at hst
  subst hst
  unfold atmw at h0
  split at h0
  · rename_i Y hq
    cases h0
    refine ⟨rfl, ?_⟩
    obtain ⟨y_s, y1, y2⟩ := at_25 (W := atw o) (WA := atwA o) (fun o' k' g_s => g_s) R_s hq
    obtain ⟨q_s, Y', m1_s, m2_s⟩ := y2.1
    have e1_s := List.mem_singleton.mp m1_s
    subst e1_s
    refine ⟨y_s, q_s, y1, m2_s, ?_⟩
    simp only [zs25] at y1
    split at y1
    · rename_i t_s n_s hg
      cases hb_s : (Nat.beq t_s 0 && Nat.blt (zix jv) n_s)
      · rw [hb_s] at y1
        cases y1
      · rw [hb_s] at y1
        cases y1
        rfl
    · cases y1
  · cases h0
theorem zup_at {f_s : Nat → Nat → Int32} {o k_s : Nat} {v_s : Int32} : zup f_s o k_s v_s o k_s = v_s := by
  unfold zup
  rw [Nat.beq_refl, Nat.beq_refl]
  rfl
theorem atms_ok {X_s Z_s : aX} {x_s : zC} {tm tm' : aTm} {len_s a_s b_s c_s : Nat} {v_s : Value} {sw_s : List (Int32 × Nat)} (R_s : aRel S_s rf (aiv B_s) E_s X_s x_s) (ht : aTms E_s x_s.2.2.2.2.1 tm) (h0 : atms S_s B_s tm len_s X_s = some (Z_s, tm')) : ∃ y_s q_s, zstep (25, len_s, a_s, b_s, c_s, v_s, sw_s) x_s = some (.inl y_s) ∧ aRel S_s rf (aiv B_s) (E_s ++ q_s) Z_s y_s ∧ aTms (E_s ++ q_s) y_s.2.2.2.2.1 tm' ∧ aTmk x_s.2.2.2 y_s.2.2.2 := by
  have R0_s := R_s
  obtain ⟨cs, T, pc, al_s, as_s⟩ := X_s
  obtain ⟨pc', lo_s, st_s, h_s⟩ := x_s
  obtain ⟨hs, hpc, hl, hst, hh⟩ := R_s
  unfold atms at h0
  dsimp only at h0 ht
  split at h0
  · rename_i av i_s o r_s
    obtain ⟨u_s, sr, e3_s, ⟨xv, rfl, hx⟩, h3⟩ := aSt_cons hst
    obtain ⟨u_s, sr2, rfl, ⟨jv, rfl, hj⟩, h5⟩ := aSt_cons h3
    obtain ⟨u_s, sr3, rfl, ⟨o', rfl, ho⟩, h6⟩ := aSt_cons h5
    have e3_s : st_s = .int xv :: .int jv :: .ref o' :: sr3 := e3_s
    subst e3_s
    have eo := List.mem_singleton.mp ho
    subst eo
    cases hin : ain S_s cs i_s [o'] (fun _ t_s => Nat.beq t_s 0)
    · rw [hin] at h0
      cases h0
    · rw [hin] at h0
      dsimp only [cond_true] at h0
      obtain ⟨tt, n_s, hg, hf1, hz, hzj, p1_s, p2_s, p3_s⟩ := ain_ok hh.1.1 hin hs hj (List.mem_singleton.mpr rfl)
      have hi2 : aIs E_s ((zix jv : Nat) : Int) i_s := by
        rw [hzj]
        exact hj
      obtain ⟨l, t_s⟩ := tm
      match t_s, ht, h0 with
      | none, ht, h0 =>
        dsimp only at h0
        have tie_s : ∀ k_s, h_s.2.1 48 k_s = h_s.2.1 122 k_s := ht.1
        cases hb_s : Nat.beq o' 48
        · rw [hb_s] at h0
          cases h0
        · rw [hb_s] at h0
          have e48 := Nat.eq_of_beq_eq_true hb_s
          subst e48
          obtain ⟨e4_s, y_s, q_s, y1, y2, y3⟩ := atmw_ok (a_s := a_s) (b_s := b_s) (c_s := c_s) (v_s := v_s) (sw_s := sw_s) R0_s rfl h0
          subst e4_s
          refine ⟨y_s, q_s, y1, y2, ⟨?_, fun p_s hp => (by cases hp)⟩, ?_⟩
          · rw [y3]
            dsimp only
            refine ⟨zix jv, aIs_ext hi2, ?_, fun k_s hk => ?_⟩
            · rw [zup_at]
              exact aIs_ext hx
            · rw [zne_up (fun g_s => hk g_s.2), zne_up (fun g_s => absurd g_s.1 (by decide))]
              exact tie_s k_s
          · rw [y3]
            exact ⟨fun o k_s h1 h2 => zne_up (fun g_s => h1 g_s.1), rfl, rfl⟩
      | some p_s, ht, h0 =>
        dsimp only at h0
        obtain ⟨m_s, g1, g2, g3_s⟩ := ht.1
        have g1 := anI_ok hs g1
        have g2 := anI_ok hs g2
        cases hb_s : (Nat.beq o' 122 && (aeqI (anI cs p_s.1) i_s && aeqI (anI cs p_s.2) av))
        · rw [hb_s] at h0
          cases h0
        · rw [hb_s] at h0
          rw [Bool.and_eq_true, Bool.and_eq_true] at hb_s
          have e122_s := Nat.eq_of_beq_eq_true hb_s.1
          have ei := aeqI_ok hb_s.2.1
          have ev_s := aeqI_ok hb_s.2.2
          rw [ei] at g1
          rw [ev_s] at g2
          subst e122_s
          have em : m_s = zix jv := by
            have := (aval_eq g1).symm.trans (aval_eq hi2)
            omega
          subst em
          have exv : h_s.2.1 48 (zix jv) = xv := Int32.toInt_inj.mp ((aval_eq g2).symm.trans (aval_eq hx))
          obtain ⟨e4_s, y_s, q_s, y1, y2, y3⟩ := atmw_ok (a_s := a_s) (b_s := b_s) (c_s := c_s) (v_s := v_s) (sw_s := sw_s) R0_s rfl h0
          subst e4_s
          refine ⟨y_s, q_s, y1, y2, ⟨?_, fun p_s hp => (by cases hp)⟩, ?_⟩
          · rw [y3]
            show ∀ k_s, zup h_s.2.1 122 (zix jv) xv 48 k_s = zup h_s.2.1 122 (zix jv) xv 122 k_s
            intro k_s
            rw [zne_up (fun g_s => absurd g_s.1 (by decide))]
            by_cases hk : k_s = zix jv
            · rw [hk, zup_at, exv]
            · rw [zne_up (fun g_s => hk g_s.2)]
              exact g3_s k_s hk
          · rw [y3]
            exact ⟨fun o k_s h1 h2 => zne_up (fun g_s => h2 g_s.1), rfl, rfl⟩
  · cases h0
theorem atm_ok {X_s Z_s : aX} {x_s : zC} {tm tm' : aTm} {e_s : zI} (R_s : aRel S_s rf (aiv B_s) E_s X_s x_s) (ht : aTms E_s x_s.2.2.2.2.1 tm) (h0 : atm S_s B_s tm e_s X_s = some (Z_s, tm')) : ∃ y_s q_s, zstep e_s x_s = some (.inl y_s) ∧ aRel S_s rf (aiv B_s) (E_s ++ q_s) Z_s y_s ∧ aTms (E_s ++ q_s) y_s.2.2.2.2.1 tm' ∧ aTmk x_s.2.2.2 y_s.2.2.2 := by
  obtain ⟨op_s, len_s, a_s, b_s, c_s, v_s, sw_s⟩ := e_s
  unfold atm at h0
  dsimp only at h0
  cases hb_s : Nat.beq op_s 22
  · rw [hb_s] at h0
    dsimp only [cond_false] at h0
    cases hb2 : Nat.beq op_s 25
    · rw [hb2] at h0
      cases h0
    · rw [hb2] at h0
      have e1_s := Nat.eq_of_beq_eq_true hb2
      subst e1_s
      exact atms_ok (anrm_ok R_s) ht h0
  · rw [hb_s] at h0
    have e1_s := Nat.eq_of_beq_eq_true hb_s
    subst e1_s
    exact atml_ok (anrm_ok R_s) ht h0
end AZ3
/-- such a step keeps what else is known -/
theorem aTmk_J {h_s h' : zH} (k_s : aTmk h_s h') (hj : aJ h_s) : aJ h' := aJ_same hj (fun o i_s hw => k_s.1 o i_s (fun e_s => by subst e_s; cases hw) (fun e_s => by subst e_s; cases hw))
theorem aTmk_H {E_s : List Int} {h_s h' : zH} {hf : aHf} (k_s : aTmk h_s h') (hh : aHfs E_s h_s hf) : aHfs E_s h' hf := by
  obtain ⟨h1, h2, h3, h4⟩ := hh
  refine ⟨?_, ?_, ?_, fun p_s hp => ?_⟩
  · rw [k_s.2.1]
    exact h1
  · rw [k_s.2.1]
    exact h2
  · rw [k_s.2.2]
    exact h3
  · obtain ⟨n_s, w_s, g1, g2, g3_s⟩ := h4 p_s hp
    exact ⟨n_s, w_s, g1, g2, by rw [k_s.1 0 n_s (by decide) (by decide)]; exact g3_s⟩
/-- writes, the two rows among them -/
def awt (W_s : aW) : aW := (W_s.1, 48 :: 122 :: W_s.2)
theorem awt_48 {W_s : aW} {k_s : Nat} : aWf (awt W_s) 48 k_s = true := rfl
theorem awt_mono {W_s : aW} {h_s h' : zH} (hf : aFr (aWf W_s) h_s h') : aFr (aWf (awt W_s)) h_s h' := by
  have key_s : ∀ o k_s, aWf (awt W_s) o k_s = false → aWf W_s o k_s = false := by
    intro o k_s hw
    cases hv : aWf W_s o k_s
    · rfl
    · exfalso
      unfold aWf at hw hv
      rw [Bool.and_eq_true, Bool.or_eq_true] at hv
      rw [hv.1, Bool.true_and] at hw
      rcases hv.2 with g_s | g_s
      · have g2 : awe (awt W_s).2 o = true := awe_in (List.mem_cons_of_mem _ (List.mem_cons_of_mem _ (awe_mem g_s)))
        rw [g2] at hw
        cases hw
      · rw [show awp (awt W_s).1 o k_s = true from g_s, Bool.or_true] at hw
        cases hw
  exact ⟨fun o k_s hw => hf.1 o k_s (key_s o k_s hw), fun hw => hf.2.1 (key_s _ _ hw), hf.2.2⟩
theorem aTmk_fr {W_s : aW} {h_s h' : zH} (k_s : aTmk h_s h') : aFr (aWf (awt W_s)) h_s h' := by
  refine ⟨fun o i_s hw => k_s.1 o i_s (fun e_s => ?_) (fun e_s => ?_), fun _ => k_s.2.1, k_s.2.2⟩
  · subst e_s
    cases hw
  · subst e_s
    cases hw
