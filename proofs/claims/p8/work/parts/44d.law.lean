/-! THE LAW'S RUN, its cuts and facts: the law comes to its end, with 1. -/
noncomputable def arunZ (S_s : Nat → Option (Nat × Nat)) (rf : Nat → Nat → List Nat) (B_s : aB) (es : List aE) (Fs : List aFa) (W0_s : aW) (sp_s : Nat → Nat → List aAc) (vn : Nat → Nat → Bool) (mi0 : Nat) (cutp : Nat → Bool) (leafC : Nat → List Nat → aX → aG → Bool) (leafR : aX → Option aV → Bool) : Nat → Nat → Bool → aY → List Nat → aDv → aTm → Bool
  | 0, _, _, _, _, _, _ => false
  | f_s + 1, d_s, b_s, Y, od, dv, tm => bif !b_s && (Y.2.2.2.isEmpty && (Nat.beq Y.2.2.1 mi0 && cutp Y.1.2.2.1)) then tm.2.isNone && leafC d_s od (anX Y.1) Y.2.1 else (aacts Fs (sp_s Y.2.2.1 Y.1.2.2.1) (Y.1, od)).all (fun Z_s => match zif3 Y.2.2.1 Z_s.1.2.2.1 with
    | none => false
    | some e_s => (match aslc Y.2.1.1 Z_s.1 Y.2.2.1 e_s with
      | some X' => arunZ S_s rf B_s es Fs W0_s sp_s vn mi0 cutp leafC leafR f_s d_s false (X', Y.2) Z_s.2 dv tm
      | none => (match asz (vn Y.2.2.1 Z_s.1.2.2.1) Y.2.1 dv e_s Z_s.1 with
        | some Ys => Ys.all (fun p_s => arunZ S_s rf B_s es Fs W0_s sp_s vn mi0 cutp leafC leafR f_s d_s false (p_s.1, (p_s.2.2 ++ Y.2.1.1, Y.2.1.2), Y.2.2) Z_s.2 p_s.2.1 tm)
        | none => (match atm S_s B_s tm e_s Z_s.1 with
          | some p_s => arunZ S_s rf B_s es Fs W0_s sp_s vn mi0 cutp leafC leafR f_s d_s false (p_s.1, Y.2) Z_s.2 dv p_s.2
          | none => (match acore S_s rf B_s es (awo Fs W0_s Z_s.2) d_s Z_s.1 Y.2.1 Y.2.2.1 Y.2.2.2 with
            | some (.inl Ys) => Ys.all (fun p_s => arunZ S_s rf B_s es Fs W0_s sp_s vn mi0 cutp leafC leafR f_s p_s.1 false p_s.2 Z_s.2 dv tm)
            | some (.inr p_s) => leafR p_s.1 p_s.2
            | none => false)))))
/-- the two rows are written by no plain step -/
def arw (Fs : List aFa) (W_s : aW) : Bool := (!(awe W_s.2 48) && !(awe W_s.2 122)) && (W_s.1.all (fun c_s => !(Nat.beq c_s.1 48) && !(Nat.beq c_s.1 122)) && Fs.all (fun F_s => (aFc F_s).all (fun c_s => !(Nat.beq c_s.1 48) && !(Nat.beq c_s.1 122))))
theorem arw_ok {Fs : List aFa} {W_s : aW} {od : List Nat} (h_s : arw Fs W_s = true) (o k_s : Nat) (ho : o = 48 ∨ o = 122) : aWf (awo Fs W_s od) o k_s = false := by
  unfold arw at h_s
  rw [Bool.and_eq_true, Bool.and_eq_true, Bool.and_eq_true] at h_s
  obtain ⟨⟨h1, h2⟩, h3, h4⟩ := h_s
  cases hw : aWf (awo Fs W_s od) o k_s
  · rfl
  · exfalso
    unfold aWf at hw
    rw [Bool.and_eq_true, Bool.or_eq_true] at hw
    rcases hw.2 with g_s | g_s
    · have g_s : awe W_s.2 o = true := g_s
      rcases ho with rfl | rfl
      · rw [g_s] at h1
        cases h1
      · rw [g_s] at h2
        cases h2
    · have g_s := awp_mem g_s
      have key_s : (!(Nat.beq o 48) && !(Nat.beq o 122)) = true := by
        rcases List.mem_append.mp g_s with g_s | g_s
        · obtain ⟨i_s, i1_s, i2_s⟩ := List.mem_flatMap.mp g_s
          unfold aFj at i2_s
          split at i2_s
          · rename_i G_s hG
            exact List.all_eq_true.mp (List.all_eq_true.mp h4 G_s (zget_in hG)) (o, k_s) i2_s
          · cases i2_s
        · exact List.all_eq_true.mp h3 (o, k_s) g_s
      rcases ho with rfl | rfl
      · cases key_s
      · cases key_s
section AZ5
variable {S_s : Nat → Option (Nat × Nat)} {rf : Nat → Nat → List Nat} {B_s : aB} {es : List aE} {Fs : List aFa} {W0_s : aW} {sp_s : Nat → Nat → List aAc} {vn : Nat → Nat → Bool} {mi0 : Nat} {cutp : Nat → Bool} {leafC : Nat → List Nat → aX → aG → Bool} {leafR : aX → Option aV → Bool} {Es : List Int} {h0 : zH} {P_s : Option Value → zH → Prop}
theorem arunZ_ok (hes : ∀ e_s, e_s ∈ es → aOK S_s rf B_s e_s) (hdis : adis Fs (awt W0_s) = true) (harw : arw Fs W0_s = true) (hadj : adj Fs = true) (h0f : ∀ j_s F_s, zget Fs j_s = some F_s → aFas h0 F_s)
    (hC : ∀ d_s od X_s G_s E_s x_s, leafC d_s od X_s G_s = true → aRel S_s rf (aiv B_s) E_s X_s x_s → aDs E_s G_s.1 → aHfs E_s x_s.2.2.2 G_s.2.2.2 → (∃ q_s, E_s = Es ++ q_s) → aFr (aWf (awo Fs (awt W0_s) od)) h0 x_s.2.2.2 → aJ x_s.2.2.2 → (∀ k_s, x_s.2.2.2.2.1 48 k_s = x_s.2.2.2.2.1 122 k_s) → zTS d_s [] mi0 x_s P_s)
    (hR : ∀ X_s w_s od E_s (x_s : zC) u_s, leafR X_s w_s = true → aRel S_s rf (aiv B_s) E_s X_s x_s → aRet E_s u_s w_s → aFr (aWf (awo Fs (awt W0_s) od)) h0 x_s.2.2.2 → P_s u_s x_s.2.2.2) :
    ∀ f_s d_s b_s (Y : aY) od dv tm E_s x_s fs, arunZ S_s rf B_s es Fs W0_s sp_s vn mi0 cutp leafC leafR f_s d_s b_s Y od dv tm = true → aRel S_s rf (aiv B_s) E_s Y.1 x_s → aDs E_s Y.2.1.1 → aDfs E_s Y.2.1.2.1 → aDqs E_s Y.2.1.2.2.1 → aHfs E_s x_s.2.2.2 Y.2.1.2.2.2 → aFs E_s fs Y.2.2.2 → aDvs E_s dv → aTms E_s x_s.2.2.2.2.1 tm → (∃ q_s, E_s = Es ++ q_s) → aFr (aWf (awo Fs (awt W0_s) od)) h0 x_s.2.2.2 → aJ x_s.2.2.2 → zTS d_s fs Y.2.2.1 x_s P_s
  | 0, _, _, _, _, _, _, _, _, _, h_s, _, _, _, _, _, _, _, _, _, _, _ => by cases h_s
  | f_s + 1, d_s, b_s, (X_s, G_s, mi, gs), od, dv, tm, E_s, x_s, fs, h_s, R_s, hD, hF, hQ, hH, hG, hV, hT_s, hE, hw, hj => by
    unfold arunZ at h_s
    dsimp only at h_s ⊢
    generalize hcnd : (!b_s && (gs.isEmpty && (Nat.beq mi mi0 && cutp X_s.2.2.1))) = cnd at h_s
    cases cnd with
    | true =>
      dsimp only [cond_true] at h_s
      rw [Bool.and_eq_true, Bool.and_eq_true, Bool.and_eq_true] at hcnd
      have e1_s := Nat.eq_of_beq_eq_true hcnd.2.2.1
      subst e1_s
      match gs, fs, hG, hcnd with
      | [], [], _, _ =>
        rw [Bool.and_eq_true] at h_s
        obtain ⟨l, t_s⟩ := tm
        match t_s, h_s.1 with
        | none, _ => exact hC d_s od (anX X_s) G_s E_s x_s h_s.2 (anX_ok R_s) hD hH hE hw hj hT_s.1
      | [], _ :: _, hG, _ => exact hG.elim
      | _ :: _, _, _, hcnd => cases hcnd.2.1
    | false =>
      dsimp only [cond_false] at h_s
      obtain ⟨Z_s, qz, z1, z2, z3⟩ := aacts_ok (l := sp_s mi X_s.2.2.1) (Z_s := (X_s, od)) hdis hadj h0f R_s hw
      have h1 := List.all_eq_true.mp h_s Z_s z1
      have hD := aDs_ext (q := qz) hD
      have hF := aDfs_ext (q := qz) hF
      have hQ := aDqs_ext (q := qz) hQ
      have hH := aHfs_ext (q := qz) hH
      have hG := aFs_ext (q := qz) hG
      have hV := aDvs_ext (q_s := qz) hV
      have hT_s := aTms_ext (q_s := qz) hT_s
      have hE : ∃ q_s, E_s ++ qz = Es ++ q_s := by
        obtain ⟨q_s, hq⟩ := hE
        exact ⟨q_s ++ qz, by rw [hq, List.append_assoc]⟩
      generalize E_s ++ qz = E_s at z2 hD hF hQ hH hG hV hT_s hE
      split at h1
      · cases h1
      · rename_i e_s he
        have he := zif3_eq he
        rw [z2.2.1] at he
        split at h1
        · rename_i X' hx
          obtain ⟨y1, e2_s, y_s, g1, g2, g3_s, g4, g5_s⟩ := aslc_ok z2 hD hx
          refine zTS_step he g1 (zTS_step g2 g3_s ?_)
          refine arunZ_ok hes hdis harw hadj h0f hC hR f_s d_s false (X', G_s, mi, gs) Z_s.2 dv tm E_s y_s fs h1 g5_s hD hF hQ ?_ hG hV ?_ hE ?_ ?_
          · rw [g4]
            exact hH
          · rw [g4]
            exact hT_s
          · rw [g4]
            exact z3
          · rw [g4]
            exact hj
        · split at h1
          · rename_i Ys hp
            obtain ⟨y_s, q_s, g1, g4, p_s, g5_s, g2, g3_s, g6⟩ := asz_ok z2 hD hF hQ hV hp
            refine zTS_step he g1 ?_
            have h2 := List.all_eq_true.mp h1 p_s g5_s
            obtain ⟨q0, hq0⟩ := hE
            refine arunZ_ok hes hdis harw hadj h0f hC hR f_s d_s false (p_s.1, (p_s.2.2 ++ G_s.1, G_s.2), mi, gs) Z_s.2 p_s.2.1 tm (E_s ++ q_s) y_s fs h2 g2 ?_ (aDfs_ext hF) (aDqs_ext hQ) ?_ (aFs_ext hG) g3_s ?_ ⟨q0 ++ q_s, by rw [hq0, List.append_assoc]⟩ ?_ ?_
            · intro f_s hf
              rcases List.mem_append.mp hf with hf | hf
              · exact g6 f_s hf
              · exact aDs_ext hD f_s hf
            · rw [g4]
              exact aHfs_ext hH
            · rw [g4]
              exact aTms_ext hT_s
            · rw [g4]
              exact z3
            · rw [g4]
              exact hj
          · split at h1
            · rename_i p_s hp
              obtain ⟨Z', tm'⟩ := p_s
              obtain ⟨y_s, q_s, g1, g2, g3_s, g4⟩ := atm_ok z2 hT_s hp
              refine zTS_step he g1 ?_
              obtain ⟨q0, hq0⟩ := hE
              exact arunZ_ok hes hdis harw hadj h0f hC hR f_s d_s false (Z', G_s, mi, gs) Z_s.2 dv tm' (E_s ++ q_s) y_s fs h1 g2 (aDs_ext hD) (aDfs_ext hF) (aDqs_ext hQ) (aTmk_H g4 (aHfs_ext hH)) (aFs_ext hG) (aDvs_ext hV) g3_s ⟨q0 ++ q_s, by rw [hq0, List.append_assoc]⟩ (aFr_trans z3 (aTmk_fr (W_s := awo Fs W0_s Z_s.2) g4)) (aTmk_J g4 hj)
            · split at h1
              · rename_i Ys hc_s
                refine acore_ok hes z2 hD hF hQ hH hG hj hc_s (fun p_s hp q_s x' fs' r1_s r2 r3 r6 r8 r4 r5_s r7 => ?_)
                have h2 := List.all_eq_true.mp h1 p_s hp
                obtain ⟨q0, hq0⟩ := hE
                exact arunZ_ok hes hdis harw hadj h0f hC hR f_s p_s.1 false p_s.2 Z_s.2 dv tm (E_s ++ q_s) x' fs' h2 r1_s r2 r3 r6 r8 r4 (aDvs_ext hV) (aTms_same (aTms_ext hT_s) (fun k_s => r5_s.1 48 k_s (arw_ok harw 48 k_s (Or.inl rfl))) (fun k_s => r5_s.1 122 k_s (arw_ok harw 122 k_s (Or.inr rfl)))) ⟨q0 ++ q_s, by rw [hq0, List.append_assoc]⟩ (aFr_trans z3 (awt_mono (W_s := awo Fs W0_s Z_s.2) r5_s)) r7
              · rename_i p_s hc_s
                obtain ⟨X', w_s⟩ := p_s
                refine acoreR_ok z2 hG hc_s (fun e1_s u_s hu => ?_)
                obtain ⟨e', e1_s⟩ := e1_s
                rw [e1_s] at h1
                exact hR _ w_s Z_s.2 E_s x_s u_s h1 (anr_ok z2) hu z3
              · cases h1
end AZ5
/-- an opened fact is closed by what is known -/
def acls (X_s : aX) (F_s : aFa) : Bool := F_s.any (fun p_s =>
  let sg := (List.range' 0 p_s.1.length).map (asF (asT X_s.2.1 p_s.2 []))
  amB X_s.1 p_s.1 sg && amT sg X_s.1 X_s.2.1 p_s.2)
theorem acls_ok {S_s : Nat → Option (Nat × Nat)} {rf : Nat → Nat → List Nat} {iv_s : Nat → Nat → Int × Int} {E_s : List Int} {X_s : aX} {x_s : zC} {F_s : aFa} (R_s : aRel S_s rf iv_s E_s X_s x_s) (h_s : acls X_s F_s = true) : aFas x_s.2.2.2 F_s := by
  obtain ⟨p_s, p1_s, p2_s⟩ := List.any_eq_true.mp h_s
  dsimp only at p2_s
  rw [Bool.and_eq_true] at p2_s
  refine ⟨p_s, p1_s, _, amB_ok R_s.1 p2_s.1, fun o k_s a_s ha_s => ?_⟩
  obtain ⟨b_s, b1, b2⟩ := amT_ok p2_s.2 ha_s
  exact amI_ok R_s.1 (R_s.2.2.2.2.2 o k_s b_s b1) b2
def acla (Fs : List aFa) (od : List Nat) (X_s : aX) : Bool := od.all (fun j_s => match zget Fs j_s with
  | some F_s => acls X_s F_s
  | none => false)
def alfZ (Fs : List aFa) (cuts_s : List aC) (n0_s d0_s : Nat) (ms : Option (Int × aLn)) (d_s : Nat) (od : List Nat) (X_s : aX) (G_s : aG) : Bool := alfC cuts_s n0_s d0_s ms d_s X_s G_s && acla Fs od X_s
def alone (X_s : aX) (w_s : Option aV) : Bool := match w_s with
  | some (.inl (.inl a_s)) => ieq (abd X_s.1 a_s).1 1 && ieq (abd X_s.1 a_s).2 1
  | _ => false
/-- the run from a cut of the law, or from its start -/
noncomputable def asegZ (S_s : Nat → Option (Nat × Nat)) (rf : Nat → Nat → List Nat) (B_s : aB) (es : List aE) (Fs : List aFa) (W0_s : aW) (sp_s : Nat → Nat → List aAc) (vn : Nat → Nat → Bool) (mi d0_s : Nat) (A_s : aX) (sl_s : Option Nat) (cuts_s : List aC) (f_s : Nat) (c_s : Option aC) : Bool := match c_s with
  | none => arunZ S_s rf B_s es Fs W0_s sp_s vn mi (acutp cuts_s) (alfZ Fs cuts_s A_s.1.length d0_s none) alone f_s d0_s true (A_s, ([], [], [], ([], [], (sl_s, []))), mi, []) [] [] ([], none)
  | some c_s => arunZ S_s rf B_s es Fs W0_s sp_s vn mi (acutp cuts_s) (alfZ Fs cuts_s A_s.1.length d0_s (some c_s.2.2)) alone f_s d0_s true (c_s.1, (c_s.2.1.1, [], [], ([], [], (sl_s, []))), mi, []) [] [] ([], none) && (ale0 c_s.1.1 c_s.2.1.1 (alng c_s.2.2.2 (-c_s.2.2.1, [])) && (c_s.2.2.2.all (fun p_s => Nat.blt p_s.2 c_s.1.1.length) && c_s.2.1.2.isEmpty))
section AZ6
variable {S_s : Nat → Option (Nat × Nat)} {rf : Nat → Nat → List Nat} {B_s : aB} {es : List aE} {Fs : List aFa} {W0_s : aW} {sp_s : Nat → Nat → List aAc} {vn : Nat → Nat → Bool} {mi d0_s : Nat} {A_s : aX} {sl_s : Option Nat} {cuts_s : List aC} {f_s : Nat}
theorem alone_ok {E_s : List Int} {X_s : aX} {w_s : Option aV} {u_s : Option Value} (hs : aSat E_s X_s.1) (h_s : alone X_s w_s = true) (hu : aRet E_s u_s w_s) : u_s = some (.int 1) := by
  unfold alone at h_s
  split at h_s
  · rename_i a_s
    rw [Bool.and_eq_true, ieq_eq, ieq_eq] at h_s
    match u_s, hu with
    | some v_s, hu =>
      obtain ⟨z_s, rfl, hz⟩ := hu
      have b_s := abd_ok hs hz
      have e_s : z_s = 1 := Int32.toInt_inj.mp (by
        have z1 : (1 : Int32).toInt = 1 := rfl
        omega)
      rw [e_s]
    | none, hu => exact hu.elim
  · cases h_s
theorem aclose {h0 : zH} {E_s : List Int} {X_s : aX} {x_s : zC} {od : List Nat} {V : aW} (hdis : adis Fs V = true) (hadj : adj Fs = true) (h0f : ∀ j_s F_s, zget Fs j_s = some F_s → aFas h0 F_s) (R_s : aRel S_s rf (aiv B_s) E_s X_s x_s) (hw : aFr (aWf (awo Fs V od)) h0 x_s.2.2.2) (h_s : acla Fs od X_s = true) : ∀ j_s F_s, zget Fs j_s = some F_s → aFas x_s.2.2.2 F_s := by
  intro j_s F_s hF
  by_cases hm_s : j_s ∈ od
  · have h1 := List.all_eq_true.mp h_s j_s hm_s
    rw [hF] at h1
    exact acls_ok R_s h1
  · exact aFas_same (h0f j_s F_s hF) (fun o k_s hc_s => hw.1 o k_s (awo_not hdis hadj hF hm_s hc_s))
theorem acutsZ (hes : ∀ e', e' ∈ es → aOK S_s rf B_s e') (hdis : adis Fs (awt W0_s) = true) (harw : arw Fs W0_s = true) (hadj : adj Fs = true) (hc_s : ∀ c_s, c_s ∈ cuts_s → asegZ S_s rf B_s es Fs W0_s sp_s vn mi d0_s A_s sl_s cuts_s f_s (some c_s) = true) {E0_s : List Int} {g_s : List (Nat × Nat)} (hn : E0_s.length = A_s.1.length) (hsl : ∀ k_s, sl_s = some k_s → ∃ n_s : Nat, zget g_s 0 = some (5, n_s) ∧ zget E0_s k_s = some (n_s : Int) ∧ n_s ≤ 3072) : ∀ (n_s : Nat) (c_s : aC), c_s ∈ cuts_s → ∀ (E_s : List Int) (x_s : zC), (∃ q_s, E_s = E0_s ++ q_s) → aRel S_s rf (aiv B_s) E_s c_s.1 x_s → aDs E_s c_s.2.1.1 → x_s.2.2.2.1 = g_s → (∀ j_s F_s, zget Fs j_s = some F_s → aFas x_s.2.2.2 F_s) → aJ x_s.2.2.2 → (∀ k_s, x_s.2.2.2.2.1 48 k_s = x_s.2.2.2.2.1 122 k_s) → (c_s.2.2.1 + alv E_s c_s.2.2.2).toNat < n_s → zTS d0_s [] mi x_s (fun u_s h1 => u_s = some (.int 1) ∧ h1.1 = g_s)
  | 0, _, _, _, _, _, _, _, _, _, _, _, h_s => by omega
  | n_s + 1, c_s, hcm, E_s, x_s, hE, R_s, hD, hg, hfa, hj, htie, hm_s => by
    have h_s := hc_s c_s hcm
    unfold asegZ at h_s
    dsimp only at h_s
    rw [Bool.and_eq_true, Bool.and_eq_true, Bool.and_eq_true] at h_s
    obtain ⟨h1, h2, h3, h4⟩ := h_s
    rw [← hn] at h1
    refine arunZ_ok (Es := E_s) (h0 := x_s.2.2.2) hes hdis harw hadj hfa (fun d_s od X_s G_s E_q_s x' l1 r1_s r2 r8 r3 r4 r7 r9 => ?_) (fun X_s w_s od E_q_s x' u_s l1 r1_s r3 r4 => ?_) f_s d0_s true _ [] [] ([], none) E_s x_s [] h1 R_s hD (fun f_s hf => by cases hf) (fun f_s hf => by cases hf) ⟨fun f_s hf => (by cases hf), fun f_s hf => (by cases hf), fun k_s hk => by
        obtain ⟨n_s, s1_s, s2_s, s3_s⟩ := hsl k_s hk
        obtain ⟨q_s, hq⟩ := hE
        exact ⟨n_s, by rw [hg]; exact s1_s, by rw [hq]; exact zget_app s2_s, s3_s⟩, fun p_s hp => (by cases hp)⟩ trivial (fun p_s hp => (by cases hp)) ⟨htie, fun p_s hp => (by cases hp)⟩ ⟨[], by rw [List.append_nil]⟩ aFr_refl hj
    · unfold alfZ at l1
      rw [Bool.and_eq_true] at l1
      have hfa' := aclose hdis hadj hfa r1_s r4 l1.2
      have l1 := l1.1
      unfold alfC at l1
      rw [Bool.and_eq_true] at l1
      have ed := (Nat.eq_of_beq_eq_true l1.1).symm
      subst ed
      obtain ⟨c', m1_s, m2_s⟩ := List.any_eq_true.mp l1.2
      rw [Bool.and_eq_true] at m2_s
      have m2_s := m2_s.2
      unfold alc1 at m2_s
      rw [Bool.and_eq_true, Bool.and_eq_true, Bool.and_eq_true] at m2_s
      obtain ⟨⟨⟨m3_s, m4_s⟩, m6_s⟩, m5_s⟩ := m2_s
      dsimp only at m5_s
      obtain ⟨q', hq'⟩ := r3
      obtain ⟨q_s, hq⟩ := hE
      have em : ∃ q2_s, (asgp E0_s.length c'.1 X_s).map (aval E_q_s) = E0_s ++ q2_s := by
        unfold asgp
        dsimp only
        rw [List.map_append, hq', hq, List.append_assoc, aid0]
        exact ⟨_, rfl⟩
      have k_s := ale0_ok r1_s.1 r2 m5_s
      rw [alng_ok, alsg_ok] at k_s
      have z_s : alv E_q_s ([] : aLn) = 0 := rfl
      rw [z_s] at k_s
      have hx : alv E_q_s c_s.2.2.2 = alv E_s c_s.2.2.2 := by
        rw [hq']
        exact alv_ext (by rw [R_s.1.1]; exact h3)
      rw [hx] at k_s
      have h' := hc_s c' m1_s
      unfold asegZ at h'
      dsimp only at h'
      rw [Bool.and_eq_true, Bool.and_eq_true] at h'
      have R' := ameet_ok r1_s m3_s
      have D' := adsM_ok r1_s.1 r2 m4_s
      have k2_s := ale0_ok R'.1 D' h'.2.1
      rw [alng_ok] at k2_s
      have z2 : alv ((asgp E0_s.length c'.1 X_s).map (aval E_q_s)) ([] : aLn) = 0 := rfl
      rw [z2] at k2_s
      exact acutsZ hes hdis harw hadj hc_s hn hsl n_s c' m1_s _ x' em R' D' (r4.2.2.trans hg) hfa' r7 r9 (by dsimp only at k_s k2_s; omega)
    · exact ⟨alone_ok r1_s.1 l1 r3, r4.2.2.trans hg⟩
theorem alaw_ok (hes : ∀ e', e' ∈ es → aOK S_s rf B_s e') (hdis : adis Fs (awt W0_s) = true) (harw : arw Fs W0_s = true) (hadj : adj Fs = true) (hc_s : ∀ c_s, c_s ∈ cuts_s → asegZ S_s rf B_s es Fs W0_s sp_s vn mi d0_s A_s sl_s cuts_s f_s (some c_s) = true) (h_s : asegZ S_s rf B_s es Fs W0_s sp_s vn mi d0_s A_s sl_s cuts_s f_s none = true) {E_s : List Int} {x_s : zC} (R_s : aRel S_s rf (aiv B_s) E_s A_s x_s) (hsl : aSl0 E_s x_s.2.2.2.1 sl_s) (hfa : ∀ j_s F_s, zget Fs j_s = some F_s → aFas x_s.2.2.2 F_s) (hj : aJ x_s.2.2.2) (htie : ∀ k_s, x_s.2.2.2.2.1 48 k_s = x_s.2.2.2.2.1 122 k_s) : zT d0_s mi x_s (fun u_s h1 => u_s = some (.int 1) ∧ h1.1 = x_s.2.2.2.1) := by
  unfold asegZ at h_s
  dsimp only at h_s
  have hn : E_s.length = A_s.1.length := R_s.1.1
  rw [← hn] at h_s
  show zTS d0_s [] mi x_s _
  refine arunZ_ok (Es := E_s) (h0 := x_s.2.2.2) hes hdis harw hadj hfa (fun d_s od X_s G_s E_q_s x' l1 r1_s r2 r8 r3 r4 r7 r9 => ?_) (fun X_s w_s od E_q_s x' u_s l1 r1_s r3 r4 => ?_) f_s d0_s true _ [] [] ([], none) E_s x_s [] h_s R_s (fun f_s hf => by cases hf) (fun f_s hf => by cases hf) (fun f_s hf => by cases hf) ⟨fun f_s hf => (by cases hf), fun f_s hf => (by cases hf), hsl, fun p_s hp => (by cases hp)⟩ trivial (fun p_s hp => (by cases hp)) ⟨htie, fun p_s hp => (by cases hp)⟩ ⟨[], by rw [List.append_nil]⟩ aFr_refl hj
  · unfold alfZ at l1
    rw [Bool.and_eq_true] at l1
    have hfa' := aclose hdis hadj hfa r1_s r4 l1.2
    have l1 := l1.1
    unfold alfC at l1
    rw [Bool.and_eq_true] at l1
    have ed := (Nat.eq_of_beq_eq_true l1.1).symm
    subst ed
    obtain ⟨c', m1_s, m2_s⟩ := List.any_eq_true.mp l1.2
    rw [Bool.and_eq_true] at m2_s
    have m2_s := m2_s.2
    unfold alc1 at m2_s
    rw [Bool.and_eq_true, Bool.and_eq_true, Bool.and_eq_true] at m2_s
    obtain ⟨⟨⟨m3_s, m4_s⟩, m6_s⟩, m5_s⟩ := m2_s
    obtain ⟨q', hq'⟩ := r3
    have em : ∃ q2_s, (asgp E_s.length c'.1 X_s).map (aval E_q_s) = E_s ++ q2_s := by
      unfold asgp
      dsimp only
      rw [List.map_append, hq', aid0]
      exact ⟨_, rfl⟩
    exact acutsZ hes hdis harw hadj hc_s hn hsl _ c' m1_s _ x' em (ameet_ok r1_s m3_s) (adsM_ok r1_s.1 r2 m4_s) r4.2.2 hfa' r7 r9 (Nat.lt_succ_self _)
  · exact ⟨alone_ok r1_s.1 l1 r3, r4.2.2⟩
end AZ6
