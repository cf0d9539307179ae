/-! THE LAW'S RUN with facts that hold between its calls. A fact is one of some alternatives, each a few cells' contents. It may be opened; from then on its cells may be written; at the loop's head it is closed again. Numbers of one entry are compared; numbers worked out twice are one. -/
abbrev aA : Type := aCs × aT
abbrev aFa : Type := List aA
abbrev aDv : Type := List (Nat × Nat × aI × aI)
abbrev aAc : Type := Nat × Nat × Int × Int × Nat
def aAs (h_s : zH) (p_s : aA) : Prop := ∃ q_s, aSat q_s p_s.1 ∧ ∀ o k_s a_s, afind p_s.2 o k_s = some a_s → aIs q_s (h_s.2.1 o k_s).toInt a_s
def aFas (h_s : zH) (F_s : aFa) : Prop := ∃ p_s, p_s ∈ F_s ∧ aAs h_s p_s
def aTc (T : aT) : List (Nat × Nat) := T.map (fun t_s => (t_s.1, t_s.2.1))
def aFc (F_s : aFa) : List (Nat × Nat) := F_s.flatMap (fun p_s => aTc p_s.2)
def aFj (Fs : List aFa) (j_s : Nat) : List (Nat × Nat) := match zget Fs j_s with
  | some F_s => aFc F_s
  | none => []
def awo (Fs : List aFa) (W0_s : aW) (od : List Nat) : aW := (od.flatMap (aFj Fs) ++ W0_s.1, W0_s.2)
def adis (Fs : List aFa) (W0_s : aW) : Bool := Fs.all (fun F_s => (aFc F_s).all (fun c_s => !aWf W0_s c_s.1 c_s.2))
def ancl (c_s : Nat × Nat) (l : List (Nat × Nat)) : Bool := l.all (fun c' => !(Nat.beq c'.1 c_s.1 && Nat.beq c'.2 c_s.2))
def adj : List aFa → Bool
  | [] => true
  | F_s :: r_s => r_s.all (fun F' => (aFc F').all (fun c_s => ancl c_s (aFc F_s))) && adj r_s
theorem aTc_in : ∀ {T : aT} {o k_s : Nat} {a_s : aI}, afind T o k_s = some a_s → (o, k_s) ∈ aTc T
  | [], _, _, _, h_s => by cases h_s
  | (o', k', v_s) :: r_s, o, k_s, a_s, h_s => by
    unfold afind at h_s
    cases hb_s : (Nat.beq o' o && Nat.beq k' k_s)
    · rw [hb_s] at h_s
      exact List.mem_cons_of_mem _ (aTc_in h_s)
    · rw [Bool.and_eq_true] at hb_s
      have e1_s := Nat.eq_of_beq_eq_true hb_s.1
      have e2_s := Nat.eq_of_beq_eq_true hb_s.2
      subst e1_s
      subst e2_s
      exact List.mem_cons_self
theorem aFc_in {F_s : aFa} {p_s : aA} {o k_s : Nat} {a_s : aI} (hp : p_s ∈ F_s) (h_s : afind p_s.2 o k_s = some a_s) : (o, k_s) ∈ aFc F_s := List.mem_flatMap.mpr ⟨p_s, hp, aTc_in h_s⟩
theorem aFas_same {h_s h' : zH} {F_s : aFa} (hf : aFas h_s F_s) (e_s : ∀ o k_s, (o, k_s) ∈ aFc F_s → h'.2.1 o k_s = h_s.2.1 o k_s) : aFas h' F_s := by
  obtain ⟨p_s, p1_s, q_s, q1_s, q2_s⟩ := hf
  exact ⟨p_s, p1_s, q_s, q1_s, fun o k_s a_s ha_s => by rw [e_s o k_s (aFc_in p1_s ha_s)]; exact q2_s o k_s a_s ha_s⟩
theorem ancl_ok {c_s : Nat × Nat} {l : List (Nat × Nat)} (h_s : ancl c_s l = true) : c_s ∉ l := by
  intro hm_s
  have h1 := List.all_eq_true.mp h_s c_s hm_s
  rw [Nat.beq_refl, Nat.beq_refl] at h1
  cases h1
theorem zget_in {α : Type} : ∀ {l : List α} {k_s : Nat} {x_s : α}, zget l k_s = some x_s → x_s ∈ l
  | [], _, _, h_s => by cases h_s
  | a_s :: l, 0, x_s, h_s => by
    have h_s : some a_s = some x_s := h_s
    cases h_s
    exact List.mem_cons_self
  | a_s :: l, k_s + 1, x_s, h_s => List.mem_cons_of_mem _ (zget_in (l := l) (k_s := k_s) h_s)
theorem adj_ok : ∀ {Fs : List aFa} {i_s j_s : Nat} {F_s G_s : aFa}, adj Fs = true → zget Fs i_s = some F_s → zget Fs j_s = some G_s → i_s ≠ j_s → ∀ c_s, c_s ∈ aFc F_s → c_s ∈ aFc G_s → False
  | [], _, _, _, _, _, h_s, _, _, _, _, _ => by cases h_s
  | A_s :: r_s, 0, 0, _, _, _, _, _, hn, _, _, _ => hn rfl
  | A_s :: r_s, 0, j_s + 1, F_s, G_s, h_s, h1, h2, _, c_s, c1_s, c2_s => by
    have h1 : some A_s = some F_s := h1
    cases h1
    unfold adj at h_s
    rw [Bool.and_eq_true] at h_s
    have a1_s := List.all_eq_true.mp (List.all_eq_true.mp h_s.1 G_s (zget_in (l := r_s) (k_s := j_s) h2)) c_s c2_s
    exact ancl_ok a1_s c1_s
  | A_s :: r_s, i_s + 1, 0, F_s, G_s, h_s, h1, h2, _, c_s, c1_s, c2_s => by
    have h2 : some A_s = some G_s := h2
    cases h2
    unfold adj at h_s
    rw [Bool.and_eq_true] at h_s
    have a1_s := List.all_eq_true.mp (List.all_eq_true.mp h_s.1 F_s (zget_in (l := r_s) (k_s := i_s) h1)) c_s c1_s
    exact ancl_ok a1_s c2_s
  | A_s :: r_s, i_s + 1, j_s + 1, F_s, G_s, h_s, h1, h2, hn, c_s, c1_s, c2_s => by
    unfold adj at h_s
    rw [Bool.and_eq_true] at h_s
    exact adj_ok (Fs := r_s) (i_s := i_s) (j_s := j_s) h_s.2 h1 h2 (fun q_s => hn (by rw [q_s])) c_s c1_s c2_s
/-- the cells of a fact that is not opened can't be written -/
theorem awo_not {Fs : List aFa} {W0_s : aW} {od : List Nat} {j_s : Nat} {F_s : aFa} (hd_s : adis Fs W0_s = true) (hj : adj Fs = true) (hF : zget Fs j_s = some F_s) (hn : j_s ∉ od) {o k_s : Nat} (hc_s : (o, k_s) ∈ aFc F_s) : aWf (awo Fs W0_s od) o k_s = false := by
  have h1 := List.all_eq_true.mp (List.all_eq_true.mp hd_s F_s (zget_in hF)) (o, k_s) hc_s
  dsimp only at h1
  cases hw : aWf (awo Fs W0_s od) o k_s
  · rfl
  · exfalso
    unfold aWf at hw h1
    rw [Bool.and_eq_true, Bool.or_eq_true] at hw
    rw [hw.1, Bool.true_and] at h1
    rcases hw.2 with g_s | g_s
    · have g_s : awe W0_s.2 o = true := g_s
      rw [g_s] at h1
      cases h1
    · have g_s := awp_mem g_s
      rcases List.mem_append.mp g_s with g_s | g_s
      · obtain ⟨i_s, i1_s, i2_s⟩ := List.mem_flatMap.mp g_s
        unfold aFj at i2_s
        split at i2_s
        · rename_i G_s hG
          exact adj_ok hj hF hG (fun q_s => hn (by rw [q_s]; exact i1_s)) (o, k_s) hc_s i2_s
        · cases i2_s
      · rw [awp_in g_s, Bool.or_true] at h1
        cases h1
theorem awo_mono {Fs : List aFa} {W0_s : aW} {od : List Nat} {j_s : Nat} {h_s h' : zH} (hf : aFr (aWf (awo Fs W0_s od)) h_s h') : aFr (aWf (awo Fs W0_s (j_s :: od))) h_s h' := by
  have key_s : ∀ o k_s, aWf (awo Fs W0_s (j_s :: od)) o k_s = false → aWf (awo Fs W0_s od) o k_s = false := by
    intro o k_s hw
    cases hv : aWf (awo Fs W0_s od) o k_s
    · rfl
    · exfalso
      unfold aWf at hw hv
      rw [Bool.and_eq_true, Bool.or_eq_true] at hv
      rw [hv.1, Bool.true_and] at hw
      rcases hv.2 with g_s | g_s
      · have g_s : awe W0_s.2 o = true := g_s
        rw [show awe (awo Fs W0_s (j_s :: od)).2 o = true from g_s] at hw
        cases hw
      · have g_s := awp_mem g_s
        have g2 : (o, k_s) ∈ (awo Fs W0_s (j_s :: od)).1 := by
          show (o, k_s) ∈ (aFj Fs j_s ++ od.flatMap (aFj Fs)) ++ W0_s.1
          rw [List.append_assoc]
          exact List.mem_append_right _ g_s
        rw [awp_in g2, Bool.or_true] at hw
        cases hw
  exact ⟨fun o k_s hw => hf.1 o k_s (key_s o k_s hw), fun hw => hf.2.1 (key_s _ _ hw), hf.2.2⟩
/-- a fact is opened -/
def aop1 (Fs : List aFa) (j_s : Nat) (Z_s : aX × List Nat) : List (aX × List Nat) := bif Z_s.2.any (Nat.beq j_s) then [Z_s] else (match zget Fs j_s with
  | some F_s => F_s.map (fun p_s => ((Z_s.1.1 ++ p_s.1, atrT [] Z_s.1.1.length p_s.2 Z_s.1.2.1, Z_s.1.2.2), j_s :: Z_s.2))
  | none => [Z_s])
def aopn (Fs : List aFa) (p_s : Int × Nat) (Z_s : aX × List Nat) (q_s : Int × Int) : List (aX × List Nat) := bif ieq q_s.1 q_s.2 && (ile 0 q_s.1 && ile q_s.1 p_s.1) then aop1 Fs (p_s.2 + q_s.1.toNat) Z_s else [Z_s]
def aact (Fs : List aFa) (p_s : aAc) (Z_s : aX × List Nat) : List (aX × List Nat) := match p_s.1 with
  | 0 => (aspl Z_s.1 p_s.2).map (fun X_s => (X_s, Z_s.2))
  | 1 => (match afind Z_s.1.2.1 (p_s.2.1 / 256) (p_s.2.1 % 256) with
    | some a_s => (asp2 Z_s.1 a_s (imax p_s.2.2.1 (abd Z_s.1.1 a_s).1) (imin p_s.2.2.2.1 (abd Z_s.1.1 a_s).2) p_s.2.2.2.2).map (fun X_s => (X_s, Z_s.2))
    | none => [Z_s])
  | 2 => (match zget Z_s.1.2.2.2.1 p_s.2.1 with
    | some (some (.inl (.inl a_s))) => aopn Fs p_s.2.2.2 Z_s (abd Z_s.1.1 a_s)
    | _ => [Z_s])
  | 3 => (match afind Z_s.1.2.1 (p_s.2.1 / 256) (p_s.2.1 % 256) with
    | some a_s => aopn Fs p_s.2.2.2 Z_s (abd Z_s.1.1 a_s)
    | none => [Z_s])
  | _ => aop1 Fs p_s.2.1 Z_s
def aacts (Fs : List aFa) : List aAc → aX × List Nat → List (aX × List Nat)
  | [], Z_s => [Z_s]
  | p_s :: r_s, Z_s => (aact Fs p_s Z_s).flatMap (aacts Fs r_s)
section AZ1
variable {S_s : Nat → Option (Nat × Nat)} {rf : Nat → Nat → List Nat} {iv_s : Nat → Nat → Int × Int} {E_s : List Int} {x_s : zC} {Fs : List aFa} {W0_s : aW} {h0 : zH}
theorem aop1_ok {j_s : Nat} {Z_s : aX × List Nat} (hd_s : adis Fs W0_s = true) (hj : adj Fs = true) (h0f : ∀ j_s F_s, zget Fs j_s = some F_s → aFas h0 F_s) (R_s : aRel S_s rf iv_s E_s Z_s.1 x_s) (hw : aFr (aWf (awo Fs W0_s Z_s.2)) h0 x_s.2.2.2) : ∃ Z' q_s, Z' ∈ aop1 Fs j_s Z_s ∧ aRel S_s rf iv_s (E_s ++ q_s) Z'.1 x_s ∧ aFr (aWf (awo Fs W0_s Z'.2)) h0 x_s.2.2.2 := by
  have nil_s : ∃ Z' q_s, Z' ∈ [Z_s] ∧ aRel S_s rf iv_s (E_s ++ q_s) Z'.1 x_s ∧ aFr (aWf (awo Fs W0_s Z'.2)) h0 x_s.2.2.2 := ⟨Z_s, [], List.mem_singleton.mpr rfl, by rw [List.append_nil]; exact R_s, hw⟩
  unfold aop1
  cases hb_s : Z_s.2.any (Nat.beq j_s)
  · dsimp only [cond_false]
    have hn : j_s ∉ Z_s.2 := by
      intro hm_s
      have : Z_s.2.any (Nat.beq j_s) = true := List.any_eq_true.mpr ⟨j_s, hm_s, Nat.beq_refl j_s⟩
      rw [this] at hb_s
      cases hb_s
    split
    · rename_i F_s hF
      obtain ⟨p_s, p1_s, q_s, q1_s, q2_s⟩ := aFas_same (h' := x_s.2.2.2) (h0f j_s F_s hF) (fun o k_s hc_s => hw.1 o k_s (awo_not hd_s hj hF hn hc_s))
      obtain ⟨r1_s, r2, r3, r4, r5_s, r6⟩ := R_s
      refine ⟨_, q_s, List.mem_map.mpr ⟨p_s, p1_s, rfl⟩, ⟨aSat_app r1_s q1_s, r2, aLo_ext r3, aSt_ext r4, r5_s, fun o k_s b_s hb_s => ?_⟩, awo_mono hw⟩
      rcases atrT_ok hb_s with ⟨a_s, a1_s, rfl⟩ | a1_s
      · exact atr_ok (sg := []) r1_s rfl (q2_s o k_s a_s a1_s)
      · exact aIs_ext (r6 o k_s b_s a1_s)
    · exact nil_s
  · exact nil_s
theorem aact_ok {p_s : aAc} {Z_s : aX × List Nat} (hd_s : adis Fs W0_s = true) (hj : adj Fs = true) (h0f : ∀ j_s F_s, zget Fs j_s = some F_s → aFas h0 F_s) (R_s : aRel S_s rf iv_s E_s Z_s.1 x_s) (hw : aFr (aWf (awo Fs W0_s Z_s.2)) h0 x_s.2.2.2) : ∃ Z' q_s, Z' ∈ aact Fs p_s Z_s ∧ aRel S_s rf iv_s (E_s ++ q_s) Z'.1 x_s ∧ aFr (aWf (awo Fs W0_s Z'.2)) h0 x_s.2.2.2 := by
  have nil_s : ∃ Z' q_s, Z' ∈ [Z_s] ∧ aRel S_s rf iv_s (E_s ++ q_s) Z'.1 x_s ∧ aFr (aWf (awo Fs W0_s Z'.2)) h0 x_s.2.2.2 := ⟨Z_s, [], List.mem_singleton.mpr rfl, by rw [List.append_nil]; exact R_s, hw⟩
  have opn : ∀ (u_s : Int × Nat) (q_s : Int × Int), ∃ Z' q', Z' ∈ aopn Fs u_s Z_s q_s ∧ aRel S_s rf iv_s (E_s ++ q') Z'.1 x_s ∧ aFr (aWf (awo Fs W0_s Z'.2)) h0 x_s.2.2.2 := by
    intro u_s q_s
    unfold aopn
    cases (ieq q_s.1 q_s.2 && (ile 0 q_s.1 && ile q_s.1 u_s.1))
    · exact nil_s
    · exact aop1_ok hd_s hj h0f R_s hw
  unfold aact
  split
  · obtain ⟨X_s, x1_s, x2_s⟩ := aspl_ok (p := p_s.2) R_s
    exact ⟨(X_s, Z_s.2), [], List.mem_map.mpr ⟨X_s, x1_s, rfl⟩, by rw [List.append_nil]; exact x2_s, hw⟩
  · split
    · rename_i a_s ha_s
      obtain ⟨X_s, x1_s, x2_s⟩ := asp2_ok (y := x_s.2.2.2.2.1 (p_s.2.1 / 256) (p_s.2.1 % 256)) (l := imax p_s.2.2.1 (abd Z_s.1.1 a_s).1) (h := imin p_s.2.2.2.1 (abd Z_s.1.1 a_s).2) (w := p_s.2.2.2.2) R_s (R_s.2.2.2.2.2 _ _ _ ha_s)
      exact ⟨(X_s, Z_s.2), [], List.mem_map.mpr ⟨X_s, x1_s, rfl⟩, by rw [List.append_nil]; exact x2_s, hw⟩
    · exact nil_s
  · split
    · exact opn _ _
    · exact nil_s
  · split
    · exact opn _ _
    · exact nil_s
  · exact aop1_ok hd_s hj h0f R_s hw
theorem aacts_ok (hd_s : adis Fs W0_s = true) (hj : adj Fs = true) (h0f : ∀ j_s F_s, zget Fs j_s = some F_s → aFas h0 F_s) : ∀ {l : List aAc} {E_s : List Int} {Z_s : aX × List Nat}, aRel S_s rf iv_s E_s Z_s.1 x_s → aFr (aWf (awo Fs W0_s Z_s.2)) h0 x_s.2.2.2 → ∃ Z' q_s, Z' ∈ aacts Fs l Z_s ∧ aRel S_s rf iv_s (E_s ++ q_s) Z'.1 x_s ∧ aFr (aWf (awo Fs W0_s Z'.2)) h0 x_s.2.2.2
  | [], E_s, Z_s, R_s, hw => ⟨Z_s, [], List.mem_singleton.mpr rfl, by rw [List.append_nil]; exact R_s, hw⟩
  | p_s :: r_s, E_s, Z_s, R_s, hw => by
    obtain ⟨Z1, q1_s, a1_s, a2, a3⟩ := aact_ok (p_s := p_s) hd_s hj h0f R_s hw
    obtain ⟨Z2, q2_s, b1, b2, b3⟩ := aacts_ok hd_s hj h0f (l := r_s) a2 a3
    refine ⟨Z2, q1_s ++ q2_s, List.mem_flatMap.mpr ⟨Z1, a1_s, b1⟩, ?_, b3⟩
    rw [← List.append_assoc]
    exact b2
end AZ1
