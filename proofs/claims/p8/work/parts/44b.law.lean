/-! NUMBERS OF ONE ENTRY are compared; numbers worked out twice are one. -/
def asmc : Nat → Int → Int → Bool
  | 0, x_s, y_s => decide (x_s = y_s)
  | 1, x_s, y_s => !decide (x_s = y_s)
  | 2, x_s, y_s => decide (x_s < y_s)
  | 3, x_s, y_s => !decide (x_s < y_s)
  | 4, x_s, y_s => decide (y_s < x_s)
  | _, x_s, y_s => !decide (y_s < x_s)
theorem asmc_ok {b_s t_s n_s : Nat} {x_s y_s : Int32} : zicmp b_s x_s y_s t_s n_s = bif asmc b_s x_s.toInt y_s.toInt then t_s else n_s := by
  have heq : (x_s = y_s) ↔ (x_s.toInt = y_s.toInt) := Int32.toInt_inj.symm
  have hlt : (x_s < y_s) ↔ (x_s.toInt < y_s.toInt) := Int32.lt_iff_toInt_lt
  have hgt : (y_s < x_s) ↔ (y_s.toInt < x_s.toInt) := Int32.lt_iff_toInt_lt
  match b_s with
  | 0 =>
    show (if x_s = y_s then t_s else n_s) = bif decide (x_s.toInt = y_s.toInt) then t_s else n_s
    by_cases q_s : x_s = y_s
    · rw [if_pos q_s, decide_eq_true (heq.mp q_s)]
      rfl
    · rw [if_neg q_s, decide_eq_false (fun e_s => q_s (heq.mpr e_s))]
      rfl
  | 1 =>
    show (if x_s = y_s then n_s else t_s) = bif !decide (x_s.toInt = y_s.toInt) then t_s else n_s
    by_cases q_s : x_s = y_s
    · rw [if_pos q_s, decide_eq_true (heq.mp q_s)]
      rfl
    · rw [if_neg q_s, decide_eq_false (fun e_s => q_s (heq.mpr e_s))]
      rfl
  | 2 =>
    show (if x_s < y_s then t_s else n_s) = bif decide (x_s.toInt < y_s.toInt) then t_s else n_s
    by_cases q_s : x_s < y_s
    · rw [if_pos q_s, decide_eq_true (hlt.mp q_s)]
      rfl
    · rw [if_neg q_s, decide_eq_false (fun e_s => q_s (hlt.mpr e_s))]
      rfl
  | 3 =>
    show (if x_s < y_s then n_s else t_s) = bif !decide (x_s.toInt < y_s.toInt) then t_s else n_s
    by_cases q_s : x_s < y_s
    · rw [if_pos q_s, decide_eq_true (hlt.mp q_s)]
      rfl
    · rw [if_neg q_s, decide_eq_false (fun e_s => q_s (hlt.mpr e_s))]
      rfl
  | 4 =>
    show (if y_s < x_s then t_s else n_s) = bif decide (y_s.toInt < x_s.toInt) then t_s else n_s
    by_cases q_s : y_s < x_s
    · rw [if_pos q_s, decide_eq_true (hgt.mp q_s)]
      rfl
    · rw [if_neg q_s, decide_eq_false (fun e_s => q_s (hgt.mpr e_s))]
      rfl
  | m_s + 5 =>
    show (if y_s < x_s then n_s else t_s) = bif !decide (y_s.toInt < x_s.toInt) then t_s else n_s
    by_cases q_s : y_s < x_s
    · rw [if_pos q_s, decide_eq_true (hgt.mp q_s)]
      rfl
    · rw [if_neg q_s, decide_eq_false (fun e_s => q_s (hgt.mpr e_s))]
      rfl
/-- is a comparison decided by what is known -/
def asdb : Nat → Bool → Bool → Bool → Bool → Option Bool
  | 0, lt_s, ge, gt, le_s => bif lt_s then some false else bif gt then some false else bif ge && le_s then some true else none
  | 1, lt_s, ge, gt, le_s => bif lt_s then some true else bif gt then some true else bif ge && le_s then some false else none
  | 2, lt_s, ge, _, _ => bif lt_s then some true else bif ge then some false else none
  | 3, lt_s, ge, _, _ => bif lt_s then some false else bif ge then some true else none
  | 4, _, _, gt, le_s => bif gt then some true else bif le_s then some false else none
  | _, _, _, gt, le_s => bif gt then some false else bif le_s then some true else none
theorem asdb_ok {b_s : Nat} {lt_s ge gt le_s r_s : Bool} {x_s y_s : Int} (h1 : lt_s = true → x_s < y_s) (h2 : ge = true → y_s ≤ x_s) (h3 : gt = true → y_s < x_s) (h4 : le_s = true → x_s ≤ y_s) (h_s : asdb b_s lt_s ge gt le_s = some r_s) : asmc b_s x_s y_s = r_s := by
  match b_s, h_s with
  | 0, h_s =>
    have h_s : (bif lt_s then some false else bif gt then some false else bif ge && le_s then some true else none) = some r_s := h_s
    show decide (x_s = y_s) = r_s
    cases hl : lt_s
    · cases hg : gt
      · rw [hl, hg] at h_s
        cases hq : (ge && le_s)
        · rw [hq] at h_s
          cases h_s
        · rw [hq] at h_s
          cases h_s
          rw [Bool.and_eq_true] at hq
          have a1_s := h2 hq.1
          have a2 := h4 hq.2
          exact decide_eq_true (by omega)
      · rw [hl, hg] at h_s
        cases h_s
        have a1_s := h3 hg
        exact decide_eq_false (by omega)
    · rw [hl] at h_s
      cases h_s
      have a1_s := h1 hl
      exact decide_eq_false (by omega)
  | 1, h_s =>
    have h_s : (bif lt_s then some true else bif gt then some true else bif ge && le_s then some false else none) = some r_s := h_s
    show (!decide (x_s = y_s)) = r_s
    cases hl : lt_s
    · cases hg : gt
      · rw [hl, hg] at h_s
        cases hq : (ge && le_s)
        · rw [hq] at h_s
          cases h_s
        · rw [hq] at h_s
          cases h_s
          rw [Bool.and_eq_true] at hq
          have a1_s := h2 hq.1
          have a2 := h4 hq.2
          rw [decide_eq_true (show x_s = y_s by omega)]
          rfl
      · rw [hl, hg] at h_s
        cases h_s
        have a1_s := h3 hg
        rw [decide_eq_false (show ¬ x_s = y_s by omega)]
        rfl
    · rw [hl] at h_s
      cases h_s
      have a1_s := h1 hl
      rw [decide_eq_false (show ¬ x_s = y_s by omega)]
      rfl
  | 2, h_s =>
    have h_s : (bif lt_s then some true else bif ge then some false else none) = some r_s := h_s
    show decide (x_s < y_s) = r_s
    cases hl : lt_s
    · cases hg : ge
      · rw [hl, hg] at h_s
        cases h_s
      · rw [hl, hg] at h_s
        cases h_s
        have a1_s := h2 hg
        exact decide_eq_false (by omega)
    · rw [hl] at h_s
      cases h_s
      exact decide_eq_true (h1 hl)
  | 3, h_s =>
    have h_s : (bif lt_s then some false else bif ge then some true else none) = some r_s := h_s
    show (!decide (x_s < y_s)) = r_s
    cases hl : lt_s
    · cases hg : ge
      · rw [hl, hg] at h_s
        cases h_s
      · rw [hl, hg] at h_s
        cases h_s
        have a1_s := h2 hg
        rw [decide_eq_false (show ¬ x_s < y_s by omega)]
        rfl
    · rw [hl] at h_s
      cases h_s
      rw [decide_eq_true (h1 hl)]
      rfl
  | 4, h_s =>
    have h_s : (bif gt then some true else bif le_s then some false else none) = some r_s := h_s
    show decide (y_s < x_s) = r_s
    cases hl : gt
    · cases hg : le_s
      · rw [hl, hg] at h_s
        cases h_s
      · rw [hl, hg] at h_s
        cases h_s
        have a1_s := h4 hg
        exact decide_eq_false (by omega)
    · rw [hl] at h_s
      cases h_s
      exact decide_eq_true (h3 hl)
  | m_s + 5, h_s =>
    have h_s : (bif gt then some false else bif le_s then some true else none) = some r_s := h_s
    show (!decide (y_s < x_s)) = r_s
    cases hl : gt
    · cases hg : le_s
      · rw [hl, hg] at h_s
        cases h_s
      · rw [hl, hg] at h_s
        cases h_s
        have a1_s := h4 hg
        rw [decide_eq_false (show ¬ y_s < x_s by omega)]
        rfl
    · rw [hl] at h_s
      cases h_s
      rw [decide_eq_true (h3 hl)]
      rfl
/-- c + x - y is 0 or less -/
def asle (cs : aCs) (ds : aD) (c_s : Int) (ax ay : aI) : Bool := ale0 cs ds (alI 1 ax (alI (-1) ay (c_s, [])))
theorem asle_ok {E_s : List Int} {cs : aCs} {ds : aD} {c_s x_s y_s : Int} {ax ay : aI} (hs : aSat E_s cs) (hd_s : aDs E_s ds) (hx : aIs E_s x_s ax) (hy : aIs E_s y_s ay) (h_s : asle cs ds c_s ax ay = true) : c_s + x_s - y_s ≤ 0 := by
  have k_s := ale0_ok hs hd_s h_s
  rw [alI_ok, alI_ok, aval_eq hx, aval_eq hy] at k_s
  have z_s : alv E_s ([] : aLn) = 0 := rfl
  rw [z_s] at k_s
  omega
def asdc (b_s : Nat) (ax ay : aI) (cs : aCs) (ds : aD) : Option Bool := asdb b_s (asle cs ds 1 ax ay) (asle cs ds 0 ay ax) (asle cs ds 1 ay ax) (asle cs ds 0 ax ay)
def adbz (b_s : Nat) (t_s : Bool) : aI → aI → aD
  | .inl (kx, ox), .inl (ky, oy) => adb2 b_s t_s kx ky ox oy
  | _, _ => []
theorem adbz_ok {E_s : List Int} {b_s : Nat} {t_s : Bool} {ax ay : aI} {x_s y_s : Int32} (hx : aIs E_s x_s.toInt ax) (hy : aIs E_s y_s.toInt ay) (ht : asmc b_s x_s.toInt y_s.toInt = t_s) : aDs E_s (adbz b_s t_s ax ay) := by
  match ax, ay, hx, hy with
  | .inl (kx, ox), .inl (ky, oy), hx, hy =>
    have k_s := adb2_ok (b := b_s) (t := 1) (n := 0) hx hy (by decide)
    rw [asmc_ok, ht] at k_s
    cases t_s
    · exact k_s
    · exact k_s
  | .inl _, .inr _, _, _ => exact fun f_s hf => (by cases hf)
  | .inr _, .inl _, _, _ => exact fun f_s hf => (by cases hf)
  | .inr _, .inr _, _, _ => exact fun f_s hf => (by cases hf)
def asbr (len_s a_s b_s : Nat) (G_s : aG) (X_s : aX) : Option (List (aX × aD)) := match X_s.2.2.2.2 with
  | .inl (.inl ay) :: .inl (.inl ax) :: r_s => (match asdc b_s ax ay X_s.1 G_s.1 with
    | some t_s => some [((X_s.1, X_s.2.1, (bif t_s then a_s else X_s.2.2.1 + len_s), X_s.2.2.2.1, r_s), [])]
    | none => some ((aprs G_s.2.1 G_s.2.2.1 (aopt (fun c_s => (c_s, X_s.2.1, a_s, X_s.2.2.2.1, r_s)) (acmp X_s.1 b_s ax ay).1)).map (fun Z_s => (Z_s, adbz b_s true ax ay)) ++ (aprs G_s.2.1 G_s.2.2.1 (aopt (fun c_s => (c_s, X_s.2.1, X_s.2.2.1 + len_s, X_s.2.2.2.1, r_s)) (acmp X_s.1 b_s ax ay).2)).map (fun Z_s => (Z_s, adbz b_s false ax ay))))
  | _ => none
theorem zif_cmp {b_s t_s n_s : Nat} {x_s y_s : Int64} : zif b_s (lg_cmp x_s y_s) t_s n_s = bif asmc b_s x_s.toInt y_s.toInt then t_s else n_s := by
  rcases Int.lt_trichotomy x_s.toInt y_s.toInt with q_s | q_s | q_s
  · have n1_s : ¬ x_s > y_s := fun w_s => by have := Int64.lt_iff_toInt_lt.mp w_s; omega
    have n2_s : ¬ x_s = y_s := fun w_s => by rw [w_s] at q_s; omega
    have e3_s : lg_cmp x_s y_s = -1 := by unfold lg_cmp; rw [if_neg n1_s, if_neg n2_s]
    rw [e3_s, zif_m]
    have d1_s : decide (x_s.toInt = y_s.toInt) = false := decide_eq_false (by omega)
    have d2_s : decide (x_s.toInt < y_s.toInt) = true := decide_eq_true q_s
    have d3_s : decide (y_s.toInt < x_s.toInt) = false := decide_eq_false (by omega)
    match b_s with
    | 0 =>
      show n_s = bif decide (x_s.toInt = y_s.toInt) then t_s else n_s
      rw [d1_s]
      rfl
    | 1 =>
      show t_s = bif !decide (x_s.toInt = y_s.toInt) then t_s else n_s
      rw [d1_s]
      rfl
    | 2 =>
      show t_s = bif decide (x_s.toInt < y_s.toInt) then t_s else n_s
      rw [d2_s]
      rfl
    | 3 =>
      show n_s = bif !decide (x_s.toInt < y_s.toInt) then t_s else n_s
      rw [d2_s]
      rfl
    | 4 =>
      show n_s = bif decide (y_s.toInt < x_s.toInt) then t_s else n_s
      rw [d3_s]
      rfl
    | _ + 5 =>
      show t_s = bif !decide (y_s.toInt < x_s.toInt) then t_s else n_s
      rw [d3_s]
      rfl
  · have n2_s : x_s = y_s := Int64.toInt_inj.mp q_s
    have n1_s : ¬ x_s > y_s := fun w_s => by have := Int64.lt_iff_toInt_lt.mp w_s; omega
    have e3_s : lg_cmp x_s y_s = 0 := by unfold lg_cmp; rw [if_neg n1_s, if_pos n2_s]
    rw [e3_s, zif_z]
    have d1_s : decide (x_s.toInt = y_s.toInt) = true := decide_eq_true q_s
    have d2_s : decide (x_s.toInt < y_s.toInt) = false := decide_eq_false (by omega)
    have d3_s : decide (y_s.toInt < x_s.toInt) = false := decide_eq_false (by omega)
    match b_s with
    | 0 =>
      show t_s = bif decide (x_s.toInt = y_s.toInt) then t_s else n_s
      rw [d1_s]
      rfl
    | 1 =>
      show n_s = bif !decide (x_s.toInt = y_s.toInt) then t_s else n_s
      rw [d1_s]
      rfl
    | 2 =>
      show n_s = bif decide (x_s.toInt < y_s.toInt) then t_s else n_s
      rw [d2_s]
      rfl
    | 3 =>
      show t_s = bif !decide (x_s.toInt < y_s.toInt) then t_s else n_s
      rw [d2_s]
      rfl
    | 4 =>
      show n_s = bif decide (y_s.toInt < x_s.toInt) then t_s else n_s
      rw [d3_s]
      rfl
    | _ + 5 =>
      show t_s = bif !decide (y_s.toInt < x_s.toInt) then t_s else n_s
      rw [d3_s]
      rfl
  · have e3_s : lg_cmp x_s y_s = 1 := by unfold lg_cmp; rw [if_pos (Int64.lt_iff_toInt_lt.mpr q_s)]
    rw [e3_s, zif_p]
    have d1_s : decide (x_s.toInt = y_s.toInt) = false := decide_eq_false (by omega)
    have d2_s : decide (x_s.toInt < y_s.toInt) = false := decide_eq_false (by omega)
    have d3_s : decide (y_s.toInt < x_s.toInt) = true := decide_eq_true q_s
    match b_s with
    | 0 =>
      show n_s = bif decide (x_s.toInt = y_s.toInt) then t_s else n_s
      rw [d1_s]
      rfl
    | 1 =>
      show t_s = bif !decide (x_s.toInt = y_s.toInt) then t_s else n_s
      rw [d1_s]
      rfl
    | 2 =>
      show n_s = bif decide (x_s.toInt < y_s.toInt) then t_s else n_s
      rw [d2_s]
      rfl
    | 3 =>
      show t_s = bif !decide (x_s.toInt < y_s.toInt) then t_s else n_s
      rw [d2_s]
      rfl
    | 4 =>
      show t_s = bif decide (y_s.toInt < x_s.toInt) then t_s else n_s
      rw [d3_s]
      rfl
    | _ + 5 =>
      show n_s = bif !decide (y_s.toInt < x_s.toInt) then t_s else n_s
      rw [d3_s]
      rfl
/-- a comparison of longs that is decided, and the branch behind it -/
def aslb (ds : aD) (X_s : aX) (len_s : Nat) : zI → Option aX := fun (op_s, len2, a2, b2, _, _, _) => bif Nat.beq op_s 15 then (match X_s.2.2.2.2 with
  | .inl (.inr ay) :: .inl (.inr ax) :: r_s => (match asdc b2 ax ay X_s.1 ds with
    | some t_s => some (X_s.1, X_s.2.1, (bif t_s then a2 else X_s.2.2.1 + len_s + len2), X_s.2.2.2.1, r_s)
    | none => none)
  | _ => none) else none
noncomputable def aslc (ds : aD) (X_s : aX) (mi : Nat) : zI → Option aX := fun (op_s, len_s, _, _, _, _, _) => bif Nat.beq op_s 14 then (match zif3 mi (X_s.2.2.1 + len_s) with
  | some e2_s => aslb ds X_s len_s e2_s
  | none => none) else none
theorem aslc_ok {S_s : Nat → Option (Nat × Nat)} {rf : Nat → Nat → List Nat} {iv_s : Nat → Nat → Int × Int} {E_s : List Int} {X_s Z_s : aX} {x_s : zC} {mi : Nat} {e_s : zI} {ds : aD} (R_s : aRel S_s rf iv_s E_s X_s x_s) (hd_s : aDs E_s ds) (h0 : aslc ds X_s mi e_s = some Z_s) : ∃ y1 e2_s y_s, zstep e_s x_s = some (.inl y1) ∧ zi mi y1.1 = some e2_s ∧ zstep e2_s y1 = some (.inl y_s) ∧ y_s.2.2.2 = x_s.2.2.2 ∧ aRel S_s rf iv_s E_s Z_s y_s := by
  obtain ⟨op_s, len_s, a_s, b_s, c_s, v_s, sw_s⟩ := e_s
  unfold aslc at h0
  dsimp only at h0
  cases hb_s : Nat.beq op_s 14
  · rw [hb_s] at h0
    cases h0
  · rw [hb_s] at h0
    dsimp only [cond_true] at h0
    have e1_s := Nat.eq_of_beq_eq_true hb_s
    subst e1_s
    split at h0
    · rename_i e2_s he2
      have he3 := zif3_eq he2
      obtain ⟨op2, len2, a2, b2, c2_s, v2, sw2⟩ := e2_s
      unfold aslb at h0
      dsimp only at h0
      cases hb2 : Nat.beq op2 15
      · rw [hb2] at h0
        cases h0
      · rw [hb2] at h0
        dsimp only [cond_true] at h0
        have e3_s := Nat.eq_of_beq_eq_true hb2
        subst e3_s
        obtain ⟨cs, T, pc, al_s, as_s⟩ := X_s
        obtain ⟨pc', lo_s, st_s, h_s⟩ := x_s
        obtain ⟨hs, hpc, hl, hst, hh⟩ := R_s
        have hpc : pc = pc' := hpc
        subst hpc
        dsimp only at h0
        split at h0
        · rename_i ay ax r_s
          obtain ⟨u_s, sr, e4_s, ⟨yv, rfl, hy⟩, h3⟩ := aSt_cons hst
          obtain ⟨u_s, sr2, rfl, ⟨xv, rfl, hx⟩, h5⟩ := aSt_cons h3
          have e4_s : st_s = .long yv :: .long xv :: sr2 := e4_s
          subst e4_s
          split at h0
          · rename_i t_s ht
            have ht : asmc b2 xv.toInt yv.toInt = t_s := by
              unfold asdc at ht
              refine asdb_ok (fun g_s => ?_) (fun g_s => ?_) (fun g_s => ?_) (fun g_s => ?_) ht
              · have := asle_ok hs hd_s hx hy g_s
                omega
              · have := asle_ok hs hd_s hy hx g_s
                omega
              · have := asle_ok hs hd_s hy hx g_s
                omega
              · have := asle_ok hs hd_s hx hy g_s
                omega
            cases h0
            refine ⟨(pc + len_s, lo_s, .int (lg_cmp xv yv) :: sr2, h_s), _, (zif b2 (lg_cmp xv yv) a2 (pc + len_s + len2), lo_s, sr2, h_s), rfl, he3, rfl, rfl, ?_⟩
            rw [zif_cmp, ht]
            exact ⟨hs, rfl, hl, h5, hh⟩
          · cases h0
        · cases h0
    · cases h0
/-- known contents whose bounds are one are that -/
def anI (cs : aCs) : aI → aI
  | .inl (k_s, o) => (match zget cs k_s with
    | some q_s => bif ieq q_s.1 q_s.2 then .inr (q_s.1 + o) else .inl (k_s, o)
    | none => .inl (k_s, o))
  | .inr n_s => .inr n_s
theorem anI_ok {E_s : List Int} {cs : aCs} {z_s : Int} {a_s : aI} (hs : aSat E_s cs) (h_s : aIs E_s z_s a_s) : aIs E_s z_s (anI cs a_s) := by
  match a_s, h_s with
  | .inl (k_s, o), h_s =>
    unfold anI
    dsimp only
    cases hk : zget cs k_s with
    | none => exact h_s
    | some q_s =>
      dsimp only
      cases hc_s : ieq q_s.1 q_s.2
      · exact h_s
      · rw [ieq_eq] at hc_s
        obtain ⟨w_s, h1, h2⟩ := h_s
        have b_s := hs.2 k_s w_s q_s h1 hk
        exact (show z_s = q_s.1 + o by omega)
  | .inr n_s, h_s => exact h_s
def anT (cs : aCs) : aT → aT
  | [] => []
  | (o, k_s, a_s) :: r_s => (o, k_s, anI cs a_s) :: anT cs r_s
theorem anT_ok {cs : aCs} : ∀ {T : aT} {o k_s : Nat} {b_s : aI}, afind (anT cs T) o k_s = some b_s → ∃ a_s, afind T o k_s = some a_s ∧ b_s = anI cs a_s
  | [], _, _, _, h_s => by cases h_s
  | (o1, k1_s, a1_s) :: r_s, o, k_s, b_s, h_s => by
    have h_s : (bif Nat.beq o1 o && Nat.beq k1_s k_s then some (anI cs a1_s) else afind (anT cs r_s) o k_s) = some b_s := h_s
    rw [show afind ((o1, k1_s, a1_s) :: r_s) o k_s = (bif Nat.beq o1 o && Nat.beq k1_s k_s then some a1_s else afind r_s o k_s) from rfl]
    cases hb_s : (Nat.beq o1 o && Nat.beq k1_s k_s)
    · rw [hb_s] at h_s
      exact anT_ok h_s
    · rw [hb_s] at h_s
      have h_s : some (anI cs a1_s) = some b_s := h_s
      cases h_s
      exact ⟨a1_s, rfl, rfl⟩
def anX (X_s : aX) : aX := (X_s.1, anT X_s.1 X_s.2.1, X_s.2.2)
theorem anX_ok {S_s : Nat → Option (Nat × Nat)} {rf : Nat → Nat → List Nat} {iv_s : Nat → Nat → Int × Int} {E_s : List Int} {X_s : aX} {x_s : zC} (R_s : aRel S_s rf iv_s E_s X_s x_s) : aRel S_s rf iv_s E_s (anX X_s) x_s := by
  obtain ⟨r1_s, r2, r3, r4, r5_s, r6⟩ := R_s
  refine ⟨r1_s, r2, r3, r4, r5_s, fun o k_s b_s hb_s => ?_⟩
  obtain ⟨a_s, a1_s, rfl⟩ := anT_ok hb_s
  exact anI_ok r1_s (r6 o k_s a_s a1_s)
/-- operations: two numbers (7), one number (9) -/
def zop (g_s : Nat) (x_s y_s : Int32) : Int32 := bif Nat.blt g_s 100 then zbin g_s x_s y_s else zun (g_s - 100) x_s
def aDvs (E_s : List Int) (dv : aDv) : Prop := ∀ p_s, p_s ∈ dv → ∃ (x_s y_s : Int32) (w_s : Int), aIs E_s x_s.toInt p_s.2.2.1 ∧ aIs E_s y_s.toInt p_s.2.2.2 ∧ zget E_s p_s.1 = some w_s ∧ w_s = (zop p_s.2.1 x_s y_s).toInt
theorem aDvs_ext {E_s q_s : List Int} {dv : aDv} (h_s : aDvs E_s dv) : aDvs (E_s ++ q_s) dv := by
  intro p_s hp
  obtain ⟨x_s, y_s, w_s, h1, h2, h3, h4⟩ := h_s p_s hp
  exact ⟨x_s, y_s, w_s, aIs_ext h1, aIs_ext h2, zget_app h3, h4⟩
def avf (cs : aCs) (g_s : Nat) (ax ay : aI) : aDv → Option Nat
  | [] => none
  | (k_s, g', ax', ay') :: r_s => bif Nat.beq g' g_s && (aeqI (anI cs ax') ax && aeqI (anI cs ay') ay) then some k_s else avf cs g_s ax ay r_s
theorem avf_ok {cs : aCs} {g_s : Nat} {ax ay : aI} : ∀ {dv : aDv} {k_s : Nat}, avf cs g_s ax ay dv = some k_s → ∃ ax' ay', (k_s, g_s, ax', ay') ∈ dv ∧ anI cs ax' = ax ∧ anI cs ay' = ay
  | [], _, h_s => by cases h_s
  | (k', g', ax', ay') :: r_s, k_s, h_s => by
    unfold avf at h_s
    cases hb_s : (Nat.beq g' g_s && (aeqI (anI cs ax') ax && aeqI (anI cs ay') ay))
    · rw [hb_s] at h_s
      obtain ⟨u1_s, u2_s, m1_s, m2_s, m3_s⟩ := avf_ok (dv := r_s) h_s
      exact ⟨u1_s, u2_s, List.mem_cons_of_mem _ m1_s, m2_s, m3_s⟩
    · rw [hb_s] at h_s
      have h_s : some k' = some k_s := h_s
      cases h_s
      rw [Bool.and_eq_true, Bool.and_eq_true] at hb_s
      have e1_s := Nat.eq_of_beq_eq_true hb_s.1
      subst e1_s
      exact ⟨ax', ay', List.mem_cons_self, aeqI_ok hb_s.2.1, aeqI_ok hb_s.2.2⟩
def avn2 (len_s g_s : Nat) (ax ay : aI) (r_s : List aV) (dv : aDv) (X_s : aX) : aX × aDv := match avf X_s.1 g_s ax ay dv with
  | some k_s => ((X_s.1, X_s.2.1, X_s.2.2.1 + len_s, X_s.2.2.2.1, .inl (.inl (.inl (k_s, 0))) :: r_s), dv)
  | none => ((X_s.1 ++ [afull], X_s.2.1, X_s.2.2.1 + len_s, X_s.2.2.2.1, .inl (.inl (.inl (X_s.1.length, 0))) :: r_s), (X_s.1.length, g_s, ax, ay) :: dv)
def avn (len_s op_s b_s : Nat) (dv : aDv) (X_s : aX) : Option (aX × aDv) := bif Nat.beq op_s 7 then (match X_s.2.2.2.2 with
  | .inl (.inl ay) :: .inl (.inl ax) :: r_s => bif Nat.blt b_s 100 then some (avn2 len_s b_s ax ay r_s dv X_s) else none
  | _ => none) else bif Nat.beq op_s 9 then (match X_s.2.2.2.2 with
  | .inl (.inl ax) :: r_s => some (avn2 len_s (100 + b_s) ax (.inr 0) r_s dv X_s)
  | _ => none) else none
/-- the steps of the law's run that the checker itself doesn't have -/
def asz (v_s : Bool) (G_s : aG) (dv : aDv) : zI → aX → Option (List (aX × aDv × aD)) := fun (op_s, len_s, a_s, b_s, _, _, _) X_s => bif Nat.beq op_s 16 then (match asbr len_s a_s b_s G_s (anrm X_s) with
  | some l => some (l.map (fun p_s => (p_s.1, dv, p_s.2)))
  | none => none) else bif v_s then (match avn len_s op_s b_s dv (anrm X_s) with
  | some p_s => some [(p_s.1, p_s.2, [])]
  | none => none) else none
section AZ2
variable {S_s : Nat → Option (Nat × Nat)} {rf : Nat → Nat → List Nat} {iv_s : Nat → Nat → Int × Int} {E_s : List Int}
theorem asbr_ok {X_s : aX} {x_s : zC} {len_s a_s b_s c_s : Nat} {v_s : Value} {sw_s : List (Int32 × Nat)} {G_s : aG} {Ys : List (aX × aD)} (R_s : aRel S_s rf iv_s E_s X_s x_s) (hd_s : aDs E_s G_s.1) (hf : aDfs E_s G_s.2.1) (hq : aDqs E_s G_s.2.2.1) (h0 : asbr len_s a_s b_s G_s X_s = some Ys) : ∃ y_s, zstep (16, len_s, a_s, b_s, c_s, v_s, sw_s) x_s = some (.inl y_s) ∧ y_s.2.2.2 = x_s.2.2.2 ∧ ∃ p_s, p_s ∈ Ys ∧ aRel S_s rf iv_s E_s p_s.1 y_s ∧ aDs E_s p_s.2 := by
  obtain ⟨cs, T, pc, al_s, as_s⟩ := X_s
  obtain ⟨pc', lo_s, st_s, h_s⟩ := x_s
  obtain ⟨hs, hpc, hl, hst, hh⟩ := R_s
  have hpc : pc = pc' := hpc
  subst hpc
  unfold asbr at h0
  dsimp only at h0
  split at h0
  · rename_i ay ax r_s
    obtain ⟨u_s, sr, e3_s, ⟨yv, rfl, hy⟩, h3⟩ := aSt_cons hst
    obtain ⟨u_s, sr2, rfl, ⟨xv, rfl, hx⟩, h5⟩ := aSt_cons h3
    have e3_s : st_s = .int yv :: .int xv :: sr2 := e3_s
    subst e3_s
    have key_s : zstep (16, len_s, a_s, b_s, c_s, v_s, sw_s) (pc, lo_s, .int yv :: .int xv :: sr2, h_s) = some (.inl (bif asmc b_s xv.toInt yv.toInt then a_s else pc + len_s, lo_s, sr2, h_s)) := by
      show some (Sum.inl (zicmp b_s xv yv a_s (pc + len_s), lo_s, sr2, h_s)) = _
      rw [asmc_ok]
    refine ⟨_, key_s, rfl, ?_⟩
    split at h0
    · rename_i t_s ht
      have ht : asmc b_s xv.toInt yv.toInt = t_s := by
        unfold asdc at ht
        refine asdb_ok (fun g_s => ?_) (fun g_s => ?_) (fun g_s => ?_) (fun g_s => ?_) ht
        · have := asle_ok hs hd_s hx hy g_s
          omega
        · have := asle_ok hs hd_s hy hx g_s
          omega
        · have := asle_ok hs hd_s hy hx g_s
          omega
        · have := asle_ok hs hd_s hx hy g_s
          omega
      cases h0
      refine ⟨_, List.mem_singleton.mpr rfl, ?_, fun f_s hf => (by cases hf)⟩
      rw [ht]
      exact ⟨hs, rfl, hl, h5, hh⟩
    · cases h0
      rcases acmp_ok (b := b_s) (t := 1) (n := 0) hs hx hy with ⟨c', c1_s, c2_s, c3_s⟩ | ⟨c', c1_s, c2_s, c3_s⟩
      · have hm_s : asmc b_s xv.toInt yv.toInt = true := by
          rw [asmc_ok] at c3_s
          cases hq : asmc b_s xv.toInt yv.toInt
          · rw [hq] at c3_s
            cases c3_s
          · rfl
        rw [hm_s]
        have R' : aRel S_s rf iv_s E_s (c', T, a_s, al_s, r_s) (a_s, lo_s, sr2, h_s) := ⟨c2_s, rfl, hl, h5, hh⟩
        obtain ⟨Z_s, z1, z2⟩ := aprs_ok hf hq (aopt_in (f := fun c_s => (c_s, T, a_s, al_s, r_s)) c1_s) R'
        exact ⟨_, List.mem_append_left _ (List.mem_map.mpr ⟨Z_s, z1, rfl⟩), z2, adbz_ok hx hy hm_s⟩
      · have hm_s : asmc b_s xv.toInt yv.toInt = false := by
          rw [asmc_ok] at c3_s
          cases hq : asmc b_s xv.toInt yv.toInt
          · rfl
          · rw [hq] at c3_s
            cases c3_s
        rw [hm_s]
        have R' : aRel S_s rf iv_s E_s (c', T, pc + len_s, al_s, r_s) (pc + len_s, lo_s, sr2, h_s) := ⟨c2_s, rfl, hl, h5, hh⟩
        obtain ⟨Z_s, z1, z2⟩ := aprs_ok hf hq (aopt_in (f := fun c_s => (c_s, T, pc + len_s, al_s, r_s)) c1_s) R'
        exact ⟨_, List.mem_append_right _ (List.mem_map.mpr ⟨Z_s, z1, rfl⟩), z2, adbz_ok hx hy hm_s⟩
  · cases h0
theorem avn2_ok {len_s g_s pc : Nat} {ax ay : aI} {r_s : List aV} {dv dv' : aDv} {cs : aCs} {T : aT} {al_s : List (Option aV)} {as0 : List aV} {Z_s : aX} {x_s y_s : Int32} {lo_s : List (Option Value)} {sr : List Value} {h_s : zH} (hs : aSat E_s cs) (hl : aLo E_s lo_s al_s) (h5 : aSt E_s sr r_s) (hh : aHp S_s rf iv_s E_s T h_s) (hv : aDvs E_s dv) (hx : aIs E_s x_s.toInt ax) (hy : aIs E_s y_s.toInt ay) (h0 : avn2 len_s g_s ax ay r_s dv (cs, T, pc, al_s, as0) = (Z_s, dv')) : ∃ q_s, aRel S_s rf iv_s (E_s ++ q_s) Z_s (pc + len_s, lo_s, .int (zop g_s x_s y_s) :: sr, h_s) ∧ aDvs (E_s ++ q_s) dv' := by
  unfold avn2 at h0
  split at h0
  · rename_i k_s hk
    cases h0
    obtain ⟨ux, uy, m1_s, m2_s, m3_s⟩ := avf_ok hk
    obtain ⟨x', y', w_s, g1, g2, g3_s, g4⟩ := hv _ m1_s
    dsimp only at g1 g2 g3_s g4 m2_s m3_s
    have g1 := anI_ok hs g1
    have g2 := anI_ok hs g2
    rw [m2_s] at g1
    rw [m3_s] at g2
    have ex_s : x' = x_s := Int32.toInt_inj.mp ((aval_eq g1).symm.trans (aval_eq hx))
    have ey : y' = y_s := Int32.toInt_inj.mp ((aval_eq g2).symm.trans (aval_eq hy))
    subst ex_s
    subst ey
    refine ⟨[], ?_, by rw [List.append_nil]; exact hv⟩
    rw [List.append_nil]
    exact ⟨hs, rfl, hl, ⟨⟨_, rfl, w_s, g3_s, by omega⟩, h5⟩, hh⟩
  · cases h0
    have bw : afull.1 ≤ (zop g_s x_s y_s).toInt ∧ (zop g_s x_s y_s).toInt ≤ afull.2 := na_rng _
    have hn : aIs (E_s ++ [(zop g_s x_s y_s).toInt]) (zop g_s x_s y_s).toInt (.inl (cs.length, 0)) := by
      rw [← hs.1]
      exact aIs_new
    refine ⟨[(zop g_s x_s y_s).toInt], ⟨aSat_ext hs bw.1 bw.2, rfl, aLo_ext hl, ⟨⟨_, rfl, hn⟩, aSt_ext h5⟩, aHp_ext hh⟩, fun p_s hp => ?_⟩
    rcases List.mem_cons.mp hp with rfl | hp
    · refine ⟨x_s, y_s, _, aIs_ext hx, aIs_ext hy, ?_, rfl⟩
      show zget (E_s ++ [(zop g_s x_s y_s).toInt]) cs.length = _
      rw [← hs.1]
      exact zget_end E_s _
    · exact aDvs_ext hv p_s hp
theorem asz_ok {v_s : Bool} {G_s : aG} {dv : aDv} {e_s : zI} {X_s : aX} {Ys : List (aX × aDv × aD)} {x_s : zC} (R_s : aRel S_s rf iv_s E_s X_s x_s) (hd_s : aDs E_s G_s.1) (hf : aDfs E_s G_s.2.1) (hq : aDqs E_s G_s.2.2.1) (hv : aDvs E_s dv) (h0 : asz v_s G_s dv e_s X_s = some Ys) : ∃ y_s q_s, zstep e_s x_s = some (.inl y_s) ∧ y_s.2.2.2 = x_s.2.2.2 ∧ ∃ p_s, p_s ∈ Ys ∧ aRel S_s rf iv_s (E_s ++ q_s) p_s.1 y_s ∧ aDvs (E_s ++ q_s) p_s.2.1 ∧ aDs (E_s ++ q_s) p_s.2.2 := by
  obtain ⟨op_s, len_s, a_s, b_s, c_s, vv, sw_s⟩ := e_s
  unfold asz at h0
  dsimp only at h0
  cases hb_s : Nat.beq op_s 16
  · rw [hb_s] at h0
    dsimp only [cond_false] at h0
    cases v_s with
    | false => cases h0
    | true =>
      dsimp only [cond_true] at h0
      split at h0
      · rename_i p_s hp
        obtain ⟨Z_s, dv'⟩ := p_s
        cases h0
        have R_s := anrm_ok R_s
        generalize anrm X_s = X_s at R_s hp
        obtain ⟨cs, T, pc, al_s, as_s⟩ := X_s
        obtain ⟨pc', lo_s, st_s, h_s⟩ := x_s
        obtain ⟨hs, hpc, hl, hst, hh⟩ := R_s
        have hpc : pc = pc' := hpc
        subst hpc
        have fin_s : ∀ {y_s : zC} {q_s : List Int}, zstep (op_s, len_s, a_s, b_s, c_s, vv, sw_s) (pc, lo_s, st_s, h_s) = some (.inl y_s) → y_s.2.2.2 = h_s → aRel S_s rf iv_s (E_s ++ q_s) Z_s y_s → aDvs (E_s ++ q_s) dv' → ∃ y_s q_s, zstep (op_s, len_s, a_s, b_s, c_s, vv, sw_s) (pc, lo_s, st_s, h_s) = some (.inl y_s) ∧ y_s.2.2.2 = h_s ∧ ∃ p_s, p_s ∈ [((Z_s, dv', []) : aX × aDv × aD)] ∧ aRel S_s rf iv_s (E_s ++ q_s) p_s.1 y_s ∧ aDvs (E_s ++ q_s) p_s.2.1 ∧ aDs (E_s ++ q_s) p_s.2.2 := fun {y_s} {q_s} g1 g2 g3_s g4 => ⟨y_s, q_s, g1, g2, _, List.mem_singleton.mpr rfl, g3_s, g4, fun f_s hf => (by cases hf)⟩
        unfold avn at hp
        dsimp only at hp
        cases hb7 : Nat.beq op_s 7
        · rw [hb7] at hp
          dsimp only [cond_false] at hp
          cases hb9 : Nat.beq op_s 9
          · rw [hb9] at hp
            cases hp
          · rw [hb9] at hp
            have e1_s := Nat.eq_of_beq_eq_true hb9
            subst e1_s
            dsimp only [cond_true] at hp
            split at hp
            · rename_i ax r_s
              obtain ⟨u_s, sr, e3_s, ⟨xv, rfl, hx⟩, h3⟩ := aSt_cons hst
              have e3_s : st_s = .int xv :: sr := e3_s
              subst e3_s
              have hp := Option.some.inj hp
              obtain ⟨q_s, q1_s, q2_s⟩ := avn2_ok (y_s := 0) hs hl h3 hh hv hx (show aIs E_s (0 : Int32).toInt (.inr 0) from rfl) hp
              refine fin_s ?_ rfl q1_s q2_s
              show some (Sum.inl (pc + len_s, lo_s, .int (zun b_s xv) :: sr, h_s)) = _
              rw [show zop (100 + b_s) xv 0 = zun b_s xv by
                unfold zop
                rw [show Nat.blt (100 + b_s) 100 = false by
                  cases hq : Nat.blt (100 + b_s) 100
                  · rfl
                  · rw [Nat.blt_eq] at hq
                    omega, show 100 + b_s - 100 = b_s by omega]
                rfl]
            · cases hp
        · rw [hb7] at hp
          have e1_s := Nat.eq_of_beq_eq_true hb7
          subst e1_s
          dsimp only [cond_true] at hp
          split at hp
          · rename_i ay ax r_s
            obtain ⟨u_s, sr, e3_s, ⟨yv, rfl, hy⟩, h3⟩ := aSt_cons hst
            obtain ⟨u_s, sr2, rfl, ⟨xv, rfl, hx⟩, h5⟩ := aSt_cons h3
            have e3_s : st_s = .int yv :: .int xv :: sr2 := e3_s
            subst e3_s
            cases hb1 : Nat.blt b_s 100
            · rw [hb1] at hp
              cases hp
            · rw [hb1] at hp
              have hp := Option.some.inj hp
              obtain ⟨q_s, q1_s, q2_s⟩ := avn2_ok hs hl h5 hh hv hx hy hp
              refine fin_s ?_ rfl q1_s q2_s
              show some (Sum.inl (pc + len_s, lo_s, .int (zbin b_s xv yv) :: sr2, h_s)) = _
              rw [show zop b_s xv yv = zbin b_s xv yv by
                unfold zop
                rw [hb1]
                rfl]
          · cases hp
      · cases h0
  · rw [hb_s] at h0
    have e1_s := Nat.eq_of_beq_eq_true hb_s
    subst e1_s
    dsimp only [cond_true] at h0
    split at h0
    · rename_i l hz
      cases h0
      obtain ⟨y_s, g1, g2, p_s, g3_s, g4, g5_s⟩ := asbr_ok (anrm_ok R_s) hd_s hf hq hz
      exact ⟨y_s, [], g1, g2, _, List.mem_map.mpr ⟨p_s, g3_s, rfl⟩, by rw [List.append_nil]; exact g4, by rw [List.append_nil]; exact hv, by rw [List.append_nil]; exact g5_s⟩
    · cases h0
end AZ2
