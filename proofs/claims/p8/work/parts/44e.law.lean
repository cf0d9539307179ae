/-! A CUT OF THE LAW in cases: of an element of the script (behind its place), of an element of the two rows; each case is a check of its own. -/
def acov (u_s : Int) : Int → List (Int × Int) → Bool
  | l, [] => decide (u_s < l)
  | l, p_s :: r_s => decide (p_s.1 ≤ l) && acov u_s (p_s.2 + 1) r_s
theorem acov_ok {u_s : Int} : ∀ {rs : List (Int × Int)} {l v_s : Int}, acov u_s l rs = true → l ≤ v_s → v_s ≤ u_s → ∃ p_s, p_s ∈ rs ∧ p_s.1 ≤ v_s ∧ v_s ≤ p_s.2
  | [], l, v_s, h_s, h1, h2 => by
    have h_s : u_s < l := of_decide_eq_true h_s
    omega
  | p_s :: r_s, l, v_s, h_s, h1, h2 => by
    unfold acov at h_s
    rw [Bool.and_eq_true, decide_eq_true_eq] at h_s
    by_cases hv : v_s ≤ p_s.2
    · exact ⟨p_s, List.mem_cons_self, by omega, hv⟩
    · obtain ⟨p', m1_s, m2_s⟩ := acov_ok h_s.2 (show p_s.2 + 1 ≤ v_s by omega) h2
      exact ⟨p', List.mem_cons_of_mem _ m1_s, m2_s⟩
def asideZ (c_s : aC) : Bool := ale0 c_s.1.1 c_s.2.1.1 (alng c_s.2.2.2 (-c_s.2.2.1, [])) && (c_s.2.2.2.all (fun p_s => Nat.blt p_s.2 c_s.1.1.length) && c_s.2.1.2.isEmpty)
noncomputable def arunT (S_s : Nat → Option (Nat × Nat)) (rf : Nat → Nat → List Nat) (B_s : aB) (es : List aE) (Fs : List aFa) (W0_s : aW) (sp_s : Nat → Nat → List aAc) (vn : Nat → Nat → Bool) (mi d0_s n0_s : Nat) (sl_s : Option Nat) (cuts_s : List aC) (f_s : Nat) (c_s : aC) (X_s : aX) (sc_s tm : aDl) : Bool := arunZ S_s rf B_s es Fs W0_s sp_s vn mi (acutp cuts_s) (alfZ Fs cuts_s n0_s d0_s (some c_s.2.2)) alone f_s d0_s true (X_s, (c_s.2.1.1, [], [], ([], [], (sl_s, sc_s))), mi, []) [] [] (tm, none)
/-- the first case: an element of the script, an element of the rows, or the run itself -/
def apre (P_s : aX → aDl → aDl → Prop) (B_s : aB) : Nat → aX → aDl → aDl → Prop
  | 0, X_s, sc_s, tm => P_s X_s sc_s tm
  | n_s + 1, X_s, sc_s, tm => (∃ (k_s : Nat) (o off_s : Int) (rs : List (Int × Int)), zget X_s.2.2.2.1 3 = some (some (.inl (.inl (.inl (k_s, o))))) ∧ ile 0 (abd X_s.1 (.inl (k_s, o + off_s))).1 = true ∧ acov 2147483647 (-2147483648) rs = true ∧ ∀ p_s, p_s ∈ rs → apre P_s B_s n_s (X_s.1 ++ [p_s], X_s.2) ((.inl (k_s, o + off_s), X_s.1.length) :: sc_s) tm) ∨ (∃ (k_s : Nat) (rs : List (Int × Int)), (ile 0 (abd X_s.1 (.inl (k_s, 0))).1 && Nat.blt k_s X_s.1.length) = true ∧ acov (atb B_s 48).2 (atb B_s 48).1 rs = true ∧ ∀ p_s, p_s ∈ rs → apre P_s B_s n_s (X_s.1 ++ [p_s], X_s.2) sc_s ((.inl (k_s, 0), X_s.1.length) :: tm)) ∨ apre P_s B_s n_s X_s sc_s tm
def aTmv (E_s : List Int) (f_s : Nat → Nat → Int32) (l : aDl) : Prop := ∀ p_s, p_s ∈ l → ∃ (n_s : Nat) (w_s : Int), aIs E_s (n_s : Int) p_s.1 ∧ zget E_s p_s.2 = some w_s ∧ w_s = (f_s 48 n_s).toInt
theorem aTmv_ext {E_s q_s : List Int} {f_s : Nat → Nat → Int32} {l : aDl} (h_s : aTmv E_s f_s l) : aTmv (E_s ++ q_s) f_s l := by
  intro p_s hp
  obtain ⟨n_s, w_s, g1, g2, g3_s⟩ := h_s p_s hp
  exact ⟨n_s, w_s, aIs_ext g1, zget_app g2, g3_s⟩
theorem aSe_ext2 {E_s q_s : List Int} {f_s : Nat → Nat → Int32} {l : aDl} (h_s : aSe E_s f_s l) : aSe (E_s ++ q_s) f_s l := by
  intro p_s hp
  obtain ⟨n_s, w_s, g1, g2, g3_s⟩ := h_s p_s hp
  exact ⟨n_s, w_s, aIs_ext g1, zget_app g2, g3_s⟩
theorem apre_ok {S_s : Nat → Option (Nat × Nat)} {rf : Nat → Nat → List Nat} {B_s : aB} {P_s : aX → aDl → aDl → Prop} {x_s : zC} : ∀ (n_s : Nat) {X_s : aX} {sc_s tm : aDl} {E_s : List Int}, apre P_s B_s n_s X_s sc_s tm → aRel S_s rf (aiv B_s) E_s X_s x_s → aSe E_s x_s.2.2.2.2.1 sc_s → aTmv E_s x_s.2.2.2.2.1 tm → ∃ (E1_s : List Int) (X1 : aX) (sc1 tm1 : aDl), P_s X1 sc1 tm1 ∧ aRel S_s rf (aiv B_s) E1_s X1 x_s ∧ (∃ q_s, E1_s = E_s ++ q_s) ∧ aSe E1_s x_s.2.2.2.2.1 sc1 ∧ aTmv E1_s x_s.2.2.2.2.1 tm1
  | 0, X_s, sc_s, tm, E_s, h_s, R_s, h1, h2 => ⟨E_s, X_s, sc_s, tm, h_s, R_s, ⟨[], by rw [List.append_nil]⟩, h1, h2⟩
  | n_s + 1, X_s, sc_s, tm, E_s, h_s, R_s, h1, h2 => by
    have one_s : ∀ (v_s : Int) (p_s : Int × Int), p_s.1 ≤ v_s → v_s ≤ p_s.2 → aRel S_s rf (aiv B_s) (E_s ++ [v_s]) (X_s.1 ++ [p_s], X_s.2) x_s := fun v_s p_s m2_s m3_s => ⟨aSat_ext R_s.1 m2_s m3_s, R_s.2.1, aLo_ext R_s.2.2.1, aSt_ext R_s.2.2.2.1, aHp_ext R_s.2.2.2.2⟩
    have hen : X_s.1.length = E_s.length := R_s.1.1.symm
    have app_s : ∀ {v_s : Int} {E1_s : List Int}, (∃ q_s, E1_s = (E_s ++ [v_s]) ++ q_s) → ∃ q_s, E1_s = E_s ++ q_s := fun hq => by
      obtain ⟨q_s, hq⟩ := hq
      exact ⟨_, by rw [hq, List.append_assoc]⟩
    rcases h_s with ⟨k_s, o, off_s, rs, hl, h5, hcov, hr⟩ | ⟨k_s, rs, h5, hcov, hr⟩ | h_s
    · obtain ⟨v_s, hv1, z_s, hv2, w_s, hw1, hw2⟩ := R_s.2.2.1.2 3 _ hl
      have hb_s := abd_ok (z := w_s + (o + off_s)) R_s.1 (show aIs E_s (w_s + (o + off_s)) (.inl (k_s, o + off_s)) from ⟨w_s, hw1, rfl⟩)
      rw [ile_eq] at h5
      have rg := na_rng (x_s.2.2.2.2.1 0 (w_s + (o + off_s)).toNat)
      obtain ⟨p_s, m1_s, m2_s, m3_s⟩ := acov_ok (v_s := (x_s.2.2.2.2.1 0 (w_s + (o + off_s)).toNat).toInt) hcov rg.1 rg.2
      have hsc : aSe (E_s ++ [(x_s.2.2.2.2.1 0 (w_s + (o + off_s)).toNat).toInt]) x_s.2.2.2.2.1 ((.inl (k_s, o + off_s), X_s.1.length) :: sc_s) := by
        intro p' hp'
        rcases List.mem_cons.mp hp' with rfl | hp'
        · refine ⟨(w_s + (o + off_s)).toNat, _, ⟨w_s, zget_app hw1, by omega⟩, ?_, rfl⟩
          dsimp only
          rw [hen]
          exact zget_end E_s _
        · exact aSe_ext2 h1 p' hp'
      obtain ⟨E1_s, X1, sc1, tm1, g1, g2, g3_s, g4, g5_s⟩ := apre_ok n_s (hr p_s m1_s) (one_s _ p_s m2_s m3_s) hsc (aTmv_ext h2)
      exact ⟨E1_s, X1, sc1, tm1, g1, g2, app_s g3_s, g4, g5_s⟩
    · rw [Bool.and_eq_true, ile_eq, Nat.blt_eq] at h5
      obtain ⟨w_s, hw1⟩ := zget_of_lt (show k_s < E_s.length by omega)
      have hb_s := abd_ok (z := w_s + 0) R_s.1 (show aIs E_s (w_s + 0) (.inl (k_s, 0)) from ⟨w_s, hw1, rfl⟩)
      have rg := atb_ok (B_s := B_s) R_s.2.2.2.2.1 48 w_s.toNat
      obtain ⟨p_s, m1_s, m2_s, m3_s⟩ := acov_ok (v_s := (x_s.2.2.2.2.1 48 w_s.toNat).toInt) hcov rg.1 rg.2
      have htm : aTmv (E_s ++ [(x_s.2.2.2.2.1 48 w_s.toNat).toInt]) x_s.2.2.2.2.1 ((.inl (k_s, 0), X_s.1.length) :: tm) := by
        intro p' hp'
        rcases List.mem_cons.mp hp' with rfl | hp'
        · refine ⟨w_s.toNat, _, ⟨w_s, zget_app hw1, by omega⟩, ?_, rfl⟩
          dsimp only
          rw [hen]
          exact zget_end E_s _
        · exact aTmv_ext h2 p' hp'
      obtain ⟨E1_s, X1, sc1, tm1, g1, g2, g3_s, g4, g5_s⟩ := apre_ok n_s (hr p_s m1_s) (one_s _ p_s m2_s m3_s) (aSe_ext2 h1) htm
      exact ⟨E1_s, X1, sc1, tm1, g1, g2, app_s g3_s, g4, g5_s⟩
    · exact apre_ok n_s h_s R_s h1 h2
section AZ7
variable {S_s : Nat → Option (Nat × Nat)} {rf : Nat → Nat → List Nat} {B_s : aB} {es : List aE} {Fs : List aFa} {W0_s : aW} {sp_s : Nat → Nat → List aAc} {vn : Nat → Nat → Bool} {mi d0_s : Nat} {A_s : aX} {sl_s : Option Nat} {cuts_s : List aC} {f_s : Nat}
theorem acutsP (hes : ∀ e', e' ∈ es → aOK S_s rf B_s e') (hdis : adis Fs (awt W0_s) = true) (harw : arw Fs W0_s = true) (hadj : adj Fs = true) (hc_s : ∀ c_s, c_s ∈ cuts_s → asideZ c_s = true ∧ ∃ m_s, apre (fun X_s sc_s tm => arunT S_s rf B_s es Fs W0_s sp_s vn mi d0_s A_s.1.length sl_s cuts_s f_s c_s X_s sc_s tm = true) B_s m_s c_s.1 [] []) {E0_s : List Int} {g_s : List (Nat × Nat)} (hn : E0_s.length = A_s.1.length) (hsl : ∀ k_s, sl_s = some k_s → ∃ n_s : Nat, zget g_s 0 = some (5, n_s) ∧ zget E0_s k_s = some (n_s : Int) ∧ n_s ≤ 3072) : ∀ (n_s : Nat) (c_s : aC), c_s ∈ cuts_s → ∀ (E_s : List Int) (x_s : zC), (∃ q_s, E_s = E0_s ++ q_s) → aRel S_s rf (aiv B_s) E_s c_s.1 x_s → aDs E_s c_s.2.1.1 → x_s.2.2.2.1 = g_s → (∀ j_s F_s, zget Fs j_s = some F_s → aFas x_s.2.2.2 F_s) → aJ x_s.2.2.2 → (∀ k_s, x_s.2.2.2.2.1 48 k_s = x_s.2.2.2.2.1 122 k_s) → (c_s.2.2.1 + alv E_s c_s.2.2.2).toNat < n_s → zTS d0_s [] mi x_s (fun u_s h1 => u_s = some (.int 1) ∧ h1.1 = g_s)
  | 0, _, _, _, _, _, _, _, _, _, _, _, h_s => by omega
  | n_s + 1, c_s, hcm, E_s, x_s, hE, R_s, hD, hg, hfa, hj, htie, hm_s => by
    obtain ⟨h2, hr⟩ := hc_s c_s hcm
    unfold asideZ at h2
    rw [Bool.and_eq_true, Bool.and_eq_true] at h2
    obtain ⟨h2, h3, h4⟩ := h2
    have sl0 : ∀ (E1_s : List Int), (∃ q_s, E1_s = E0_s ++ q_s) → aSl0 E1_s x_s.2.2.2.1 sl_s := fun E1_s hE1 k_s hk => by
      obtain ⟨n_s, s1_s, s2_s, s3_s⟩ := hsl k_s hk
      obtain ⟨q_s, hq⟩ := hE1
      exact ⟨n_s, by rw [hg]; exact s1_s, by rw [hq]; exact zget_app s2_s, s3_s⟩
    obtain ⟨m0_s, hr⟩ := hr
    obtain ⟨E1_s, X1, sc_s, tm, h1, R1, hE1, hsc, htm⟩ := apre_ok m0_s hr R_s (fun p_s hp => (by cases hp)) (fun p_s hp => (by cases hp))
    have hD1 : aDs E1_s c_s.2.1.1 := by
      obtain ⟨q_s, hq⟩ := hE1
      rw [hq]
      exact aDs_ext hD
    have hE01 : ∃ q_s, E1_s = E0_s ++ q_s := by
      obtain ⟨q_s, hq⟩ := hE
      obtain ⟨q', hq'⟩ := hE1
      exact ⟨q_s ++ q', by rw [hq', hq, List.append_assoc]⟩
    unfold arunT at h1
    rw [← hn] at h1
    refine arunZ_ok (Es := E_s) (h0 := x_s.2.2.2) hes hdis harw hadj hfa (fun d_s od X_s G_s E_q_s x' l1 r1_s r2 r8 r3 r4 r7 r9 => ?_) (fun X_s w_s od E_q_s x' u_s l1 r1_s r3 r4 => ?_) f_s d0_s true _ [] [] (tm, none) E1_s x_s [] h1 R1 hD1 (fun f_s hf => by cases hf) (fun f_s hf => by cases hf) ⟨fun f_s hf => (by cases hf), fun f_s hf => (by cases hf), sl0 E1_s hE01, hsc⟩ trivial (fun p_s hp => (by cases hp)) ⟨htie, htm⟩ hE1 aFr_refl hj
    · unfold alfZ at l1
      rw [Bool.and_eq_true] at l1
      have hfa' := aclose hdis hadj hfa r1_s r4 l1.2
      have l1 := l1.1
      unfold alfC at l1
      rw [Bool.and_eq_true] at l1
      have ed := (Nat.eq_of_beq_eq_true l1.1).symm
      subst ed
      obtain ⟨c', m1_s, m2_s⟩ := List.any_eq_true.mp l1.2
      rw [Bool.and_eq_true] at m2_s
      have m2_s := m2_s.2
      unfold alc1 at m2_s
      rw [Bool.and_eq_true, Bool.and_eq_true, Bool.and_eq_true] at m2_s
      obtain ⟨⟨⟨m3_s, m4_s⟩, m6_s⟩, m5_s⟩ := m2_s
      dsimp only at m5_s
      obtain ⟨q', hq'⟩ := r3
      obtain ⟨q_s, hq⟩ := hE
      have em : ∃ q2_s, (asgp E0_s.length c'.1 X_s).map (aval E_q_s) = E0_s ++ q2_s := by
        unfold asgp
        dsimp only
        rw [List.map_append, hq', hq, List.append_assoc, aid0]
        exact ⟨_, rfl⟩
      have k_s := ale0_ok r1_s.1 r2 m5_s
      rw [alng_ok, alsg_ok] at k_s
      have z_s : alv E_q_s ([] : aLn) = 0 := rfl
      rw [z_s] at k_s
      have hx : alv E_q_s c_s.2.2.2 = alv E_s c_s.2.2.2 := by
        rw [hq']
        exact alv_ext (by rw [R_s.1.1]; exact h3)
      rw [hx] at k_s
      have h' := (hc_s c' m1_s).1
      unfold asideZ at h'
      rw [Bool.and_eq_true] at h'
      have R' := ameet_ok r1_s m3_s
      have D' := adsM_ok r1_s.1 r2 m4_s
      have k2_s := ale0_ok R'.1 D' h'.1
      rw [alng_ok] at k2_s
      have z2 : alv ((asgp E0_s.length c'.1 X_s).map (aval E_q_s)) ([] : aLn) = 0 := rfl
      rw [z2] at k2_s
      exact acutsP hes hdis harw hadj hc_s hn hsl n_s c' m1_s _ x' em R' D' (r4.2.2.trans hg) hfa' r7 r9 (by dsimp only at k_s k2_s; omega)
    · exact ⟨alone_ok r1_s.1 l1 r3, r4.2.2.trans hg⟩
theorem alawP (hes : ∀ e', e' ∈ es → aOK S_s rf B_s e') (hdis : adis Fs (awt W0_s) = true) (harw : arw Fs W0_s = true) (hadj : adj Fs = true) (hc_s : ∀ c_s, c_s ∈ cuts_s → asideZ c_s = true ∧ ∃ m_s, apre (fun X_s sc_s tm => arunT S_s rf B_s es Fs W0_s sp_s vn mi d0_s A_s.1.length sl_s cuts_s f_s c_s X_s sc_s tm = true) B_s m_s c_s.1 [] []) (h_s : asegZ S_s rf B_s es Fs W0_s sp_s vn mi d0_s A_s sl_s cuts_s f_s none = true) {E_s : List Int} {x_s : zC} (R_s : aRel S_s rf (aiv B_s) E_s A_s x_s) (hsl : aSl0 E_s x_s.2.2.2.1 sl_s) (hfa : ∀ j_s F_s, zget Fs j_s = some F_s → aFas x_s.2.2.2 F_s) (hj : aJ x_s.2.2.2) (htie : ∀ k_s, x_s.2.2.2.2.1 48 k_s = x_s.2.2.2.2.1 122 k_s) : zT d0_s mi x_s (fun u_s h1 => u_s = some (.int 1) ∧ h1.1 = x_s.2.2.2.1) := by
  unfold asegZ at h_s
  dsimp only at h_s
  have hn : E_s.length = A_s.1.length := R_s.1.1
  rw [← hn] at h_s
  show zTS d0_s [] mi x_s _
  refine arunZ_ok (Es := E_s) (h0 := x_s.2.2.2) hes hdis harw hadj hfa (fun d_s od X_s G_s E_q_s x' l1 r1_s r2 r8 r3 r4 r7 r9 => ?_) (fun X_s w_s od E_q_s x' u_s l1 r1_s r3 r4 => ?_) f_s d0_s true _ [] [] ([], none) E_s x_s [] h_s R_s (fun f_s hf => by cases hf) (fun f_s hf => by cases hf) (fun f_s hf => by cases hf) ⟨fun f_s hf => (by cases hf), fun f_s hf => (by cases hf), hsl, fun p_s hp => (by cases hp)⟩ trivial (fun p_s hp => (by cases hp)) ⟨htie, fun p_s hp => (by cases hp)⟩ ⟨[], by rw [List.append_nil]⟩ aFr_refl hj
  · unfold alfZ at l1
    rw [Bool.and_eq_true] at l1
    have hfa' := aclose hdis hadj hfa r1_s r4 l1.2
    have l1 := l1.1
    unfold alfC at l1
    rw [Bool.and_eq_true] at l1
    have ed := (Nat.eq_of_beq_eq_true l1.1).symm
    subst ed
    obtain ⟨c', m1_s, m2_s⟩ := List.any_eq_true.mp l1.2
    rw [Bool.and_eq_true] at m2_s
    have m2_s := m2_s.2
    unfold alc1 at m2_s
    rw [Bool.and_eq_true, Bool.and_eq_true, Bool.and_eq_true] at m2_s
    obtain ⟨⟨⟨m3_s, m4_s⟩, m6_s⟩, m5_s⟩ := m2_s
    obtain ⟨q', hq'⟩ := r3
    have em : ∃ q2_s, (asgp E_s.length c'.1 X_s).map (aval E_q_s) = E_s ++ q2_s := by
      unfold asgp
      dsimp only
      rw [List.map_append, hq', aid0]
      exact ⟨_, rfl⟩
    exact acutsP hes hdis harw hadj hc_s hn hsl _ c' m1_s _ x' em (ameet_ok r1_s m3_s) (adsM_ok r1_s.1 r2 m4_s) r4.2.2 hfa' r7 r9 (Nat.lt_succ_self _)
  · exact ⟨alone_ok r1_s.1 l1 r3, r4.2.2⟩
end AZ7
