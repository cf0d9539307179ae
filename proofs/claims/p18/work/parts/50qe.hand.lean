/-! A TEXT'S LINES. -/
abbrev pB : Type := Option pA × pA
def pln (tk : Nat → Int) (a_s : Nat) (r_s : Nat ⊕ (Nat × pB)) : Prop := (∃ e_s, pP tk 0 0 a_s pz0 (.inl e_s) ∧ r_s = .inl e_s) ∨ ∃ p_s, pP tk 0 0 a_s pz0 (.inr p_s) ∧ ((¬ tk p_s.1 = 63 ∧ r_s = .inr (p_s.1, none, p_s.2)) ∨ (tk p_s.1 = 63 ∧ ((∃ e_s, pP tk 0 0 (p_s.1 + 1) pz0 (.inl e_s) ∧ r_s = .inl e_s) ∨ ∃ p1_s, pP tk 0 0 (p_s.1 + 1) pz0 (.inr p1_s) ∧ r_s = .inr (p1_s.1, some p_s.2, p1_s.2))))
theorem pln_det {tk : Nat → Int} {a_s : Nat} {r_s r1_s : Nat ⊕ (Nat × pB)} (h_s : pln tk a_s r_s) (h1 : pln tk a_s r1_s) : r_s = r1_s := by
  rcases h_s with ⟨e_s, x1_s, rfl⟩ | ⟨p_s, x1_s, x2_s⟩
  · rcases h1 with ⟨e1_s, y1, rfl⟩ | ⟨p1_s, y1, y2⟩
    · have q_s := pP_det x1_s y1
      cases q_s
      rfl
    · have q_s := pP_det x1_s y1
      cases q_s
  · rcases h1 with ⟨e1_s, y1, rfl⟩ | ⟨p1_s, y1, y2⟩
    · have q_s := pP_det x1_s y1
      cases q_s
    · have q_s := pP_det x1_s y1
      cases q_s
      rcases x2_s with ⟨x3, rfl⟩ | ⟨x3, x4_s⟩
      · rcases y2 with ⟨y3, rfl⟩ | ⟨y3, y4⟩
        · rfl
        · exact absurd y3 x3
      · rcases y2 with ⟨y3, rfl⟩ | ⟨y3, y4⟩
        · exact absurd x3 y3
        · rcases x4_s with ⟨e2_s, x5_s, rfl⟩ | ⟨p2_s, x5_s, rfl⟩
          · rcases y4 with ⟨e3_s, y5, rfl⟩ | ⟨p3_s, y5, rfl⟩
            · have q_s := pP_det x5_s y5
              cases q_s
              rfl
            · have q_s := pP_det x5_s y5
              cases q_s
          · rcases y4 with ⟨e3_s, y5, rfl⟩ | ⟨p3_s, y5, rfl⟩
            · have q_s := pP_det x5_s y5
              cases q_s
            · have q_s := pP_det x5_s y5
              cases q_s
              rfl
def ptx (tk : Nat → Int) (n_s : Nat) : Nat → Nat → List pB → Nat ⊕ List pB → Prop
  | 0, _, _, _ => False
  | k_s + 1, a_s, l, r_s => (∃ e_s, pln tk a_s (.inl e_s) ∧ r_s = .inl e_s) ∨ ∃ p_s, pln tk a_s (.inr p_s) ∧ ((n_s ≤ p_s.1 ∧ r_s = .inr (l ++ [p_s.2])) ∨ (p_s.1 < n_s ∧ ((¬ tk p_s.1 = 59 ∧ r_s = .inl p_s.1) ∨ (tk p_s.1 = 59 ∧ ptx tk n_s k_s (p_s.1 + 1) (l ++ [p_s.2]) r_s))))
theorem ptx_det {tk : Nat → Int} {n_s : Nat} : ∀ {k_s k1_s a_s : Nat} {l : List pB} {r_s r1_s : Nat ⊕ List pB}, ptx tk n_s k_s a_s l r_s → ptx tk n_s k1_s a_s l r1_s → r_s = r1_s
  | 0, _, _, _, _, _, h_s, _ => h_s.elim
  | _ + 1, 0, _, _, _, _, _, h_s => h_s.elim
  | k_s + 1, k1_s + 1, a_s, l, r_s, r1_s, h_s, h1 => by
    rcases h_s with ⟨e_s, x1_s, rfl⟩ | ⟨p_s, x1_s, x2_s⟩
    · rcases h1 with ⟨e1_s, y1, rfl⟩ | ⟨p1_s, y1, y2⟩
      · have q_s := pln_det x1_s y1
        cases q_s
        rfl
      · have q_s := pln_det x1_s y1
        cases q_s
    · rcases h1 with ⟨e1_s, y1, rfl⟩ | ⟨p1_s, y1, y2⟩
      · have q_s := pln_det x1_s y1
        cases q_s
      · have q_s := pln_det x1_s y1
        cases q_s
        rcases x2_s with ⟨x3, rfl⟩ | ⟨x3, x4_s⟩
        · rcases y2 with ⟨y3, rfl⟩ | ⟨y3, y4⟩
          · rfl
          · omega
        · rcases y2 with ⟨y3, rfl⟩ | ⟨y3, y4⟩
          · omega
          · rcases x4_s with ⟨x5_s, rfl⟩ | ⟨x5_s, x6⟩
            · rcases y4 with ⟨y5, rfl⟩ | ⟨y5, y6⟩
              · rfl
              · exact absurd y5 x5_s
            · rcases y4 with ⟨y5, rfl⟩ | ⟨y5, y6⟩
              · exact absurd x5_s y5
              · exact ptx_det (k_s := k_s) (k1_s := k1_s) x6 y6
/-- the code of a line that begins at len; of lines -/
def cLn (len_s : Nat) (l : pB) : List Int32 := match l.1 with
  | none => l.2.1 ++ [59]
  | some y_s => y_s.1 ++ ([63, Int32.ofNat (len_s + (y_s.1.length + (l.2.1.length + 3)))] ++ (l.2.1 ++ [59]))
def cTx : Nat → List pB → List Int32
  | _, [] => []
  | len_s, l :: r_s => cLn len_s l ++ cTx (len_s + (cLn len_s l).length) r_s
theorem cTx_end : ∀ (len_s : Nat) (l : List pB) (p_s : pB), cTx len_s (l ++ [p_s]) = cTx len_s l ++ cLn (len_s + (cTx len_s l).length) p_s
  | len_s, [], p_s => by
    show cLn len_s p_s ++ [] = [] ++ cLn (len_s + 0) p_s
    rw [List.append_nil, List.nil_append, Nat.add_zero]
  | len_s, a_s :: l, p_s => by
    show cLn len_s a_s ++ cTx (len_s + (cLn len_s a_s).length) (l ++ [p_s]) = (cLn len_s a_s ++ cTx (len_s + (cLn len_s a_s).length) l) ++ cLn (len_s + (cLn len_s a_s ++ cTx (len_s + (cLn len_s a_s).length) l).length) p_s
    rw [cTx_end, List.append_assoc, List.length_append, Nat.add_assoc]
def mLn (l : pB) : Bool := (match l.1 with
  | none => false
  | some y_s => y_s.2.2) || l.2.2.2
def mTx : List pB → Bool
  | [] => false
  | l :: r_s => mLn l || mTx r_s
theorem mTx_end : ∀ (l : List pB) (p_s : pB), mTx (l ++ [p_s]) = (mTx l || mLn p_s)
  | [], p_s => by
    show (mLn p_s || false) = (false || mLn p_s)
    rw [Bool.or_false, Bool.false_or]
  | a_s :: l, p_s => by
    show (mLn a_s || mTx (l ++ [p_s])) = ((mLn a_s || mTx l) || mLn p_s)
    rw [mTx_end, Bool.or_assoc]
theorem ofN_ {len_s : Nat} {c_s : Int32} (hb_s : len_s ≤ 3072) (hc_s : c_s.toInt = (len_s : Int)) : Int32.ofNat len_s = c_s := Int32.toInt_inj.mp (by rw [na_ofn hb_s, hc_s])
section LN_s
variable {F_s : Nat} {h_s : zH} {K_s : Int32 → zH → Prop} {q_s n_s len_s a_s : Nat} {f_s : Nat → Nat → Int32}
/-- what stands behind a line -/
def poL (q_s len_s a0_s n_s : Nat) (m0_s : Int32) (f1_s : Nat → Nat → Int32) (v_s : Int32) : Nat ⊕ (Nat × pB) → Prop
  | .inl e_s => v_s = 0 ∧ (f1_s 40 2).toInt = (e_s : Int)
  | .inr p_s => v_s = 1 ∧ a0_s < p_s.1 ∧ p_s.1 ≤ n_s ∧ (f1_s 40 2).toInt = (p_s.1 : Int) ∧ (f1_s q_s 2).toInt = ((len_s + (cLn len_s p_s.2).length : Nat) : Int) ∧ (cLn len_s p_s.2).length + 2 * a0_s ≤ 2 * p_s.1 + 1 ∧ (∀ j_s c_s, zget (cLn len_s p_s.2) j_s = some c_s → f1_s (q_s + 1) (len_s + j_s) = c_s) ∧ f1_s q_s 0 = (if mLn p_s.2 then 1 else m0_s)
theorem sp_64 (hm_s : q_s = 14 ∨ q_s = 17) (hk : hKn h_s) (hp0 : prC q_s n_s len_s a_s f_s) (t_s : ∀ v_s f1_s, frC q_s len_s f_s f1_s → (∃ r_s, pln (tkF f_s) a_s r_s ∧ poL q_s len_s a_s n_s (f_s q_s 0) f1_s v_s r_s) → K_s v_s (h_s.1, f1_s, h_s.2.2.1, h_s.2.2.2)) : wF F_s 64 (0, [some (.ref 40), some (.ref q_s), none], [], (h_s.1, f_s, h_s.2.2.1, h_s.2.2.2)) (gI K_s) := by
  obtain ⟨p1_s, p2_s, p3_s, p4_s, p5_s, p6_s⟩ := hp0
  refine wF_le (Nat.le_succ F_s) (sg_64_0 (h_s := (h_s.1, f_s, h_s.2.2.1, h_s.2.2.2)) hm_s hk ?_)
  refine (cpar F_s).1 h_s _ q_s n_s len_s 0 0 a_s 0 0 f_s hm_s hk rfl (by omega) rfl (by omega) ⟨p1_s, p2_s, p3_s, p4_s, p5_s, p6_s⟩ (fun v_s f1_s fr1 hr _ => ?_)
  obtain ⟨r_s, hp, hpo⟩ := hr
  match r_s, hp, hpo with
  | .inl e9_s, hp, hpo =>
    obtain ⟨rfl, hpz⟩ := hpo
    exact ⟨fun _ => t_s 0 f1_s fr1 ⟨.inl e9_s, Or.inl ⟨e9_s, hp, rfl⟩, rfl, hpz⟩, fun w_s => absurd rfl w_s⟩
  | .inr p_s, hp, hpo =>
    obtain ⟨rfl, g1, g2, g3_s, g4, g5_s, g6, g7⟩ := hpo
    have tk1 : tkF f1_s = tkF f_s := frC_tk hm_s fr1
    have fn1 : (f1_s 40 1).toInt = (n_s : Int) := by
      rw [fr1 40 1 (by omega) (by omega) (by omega)]
      exact p3_s
    refine ⟨fun w_s => absurd w_s (by decide), fun _ => ?_⟩
    refine sp_69 (h_s := (h_s.1, f1_s, h_s.2.2.1, h_s.2.2.2)) (a_s := p_s.1) hk g3_s (by omega) (fun c9_s f2_s b1 b2 _ => ⟨fun w_s => absurd w_s (by decide), fun _ => ?_⟩) (fun c9_s _ => ⟨fun _ => ?_, fun w_s => absurd rfl w_s⟩)
    · have c9_s : tkF f1_s p_s.1 = 63 := c9_s
      have b2 : ∀ o k_s, ¬ (o = 40 ∧ k_s = 2) → f2_s o k_s = f1_s o k_s := b2
      have hl2 : p_s.1 < n_s := by
        by_cases e7_s : n_s ≤ p_s.1
        · have := tkF_out fn1 p_s.1 e7_s
          omega
        · omega
      have l2 : (f2_s q_s 2).toInt = ((len_s + p_s.2.1.length : Nat) : Int) := by
        rw [b2 q_s 2 (by omega)]
        exact g4
      refine wF_le (Nat.le_succ F_s) (sg_56_0 (h_s := (h_s.1, f2_s, h_s.2.2.1, h_s.2.2.2)) hm_s hk ?_)
      refine sp_54 (h_s := (h_s.1, f2_s, h_s.2.2.1, h_s.2.2.2)) (len_s := len_s + p_s.2.1.length) hm_s hk l2 (by omega) (fun f3_s d1_s d2_s d3_s _ => ?_)
      refine sp_54 (h_s := (h_s.1, f3_s, h_s.2.2.1, h_s.2.2.2)) (len_s := len_s + p_s.2.1.length + 1) hm_s hk d2_s (by omega) (fun f4_s e1_s e2_s e3_s _ _ => ?_)
      have d3_s : ∀ o k_s, ¬ (o = q_s + 1 ∧ k_s = len_s + p_s.2.1.length) → ¬ (o = q_s ∧ k_s = 2) → f3_s o k_s = f2_s o k_s := d3_s
      have e3_s : ∀ o k_s, ¬ (o = q_s + 1 ∧ k_s = len_s + p_s.2.1.length + 1) → ¬ (o = q_s ∧ k_s = 2) → f4_s o k_s = f3_s o k_s := e3_s
      have fr4 : frC q_s len_s f_s f4_s := by
        intro o k_s u1_s u2_s u3
        rw [e3_s o k_s (by omega) (by omega), d3_s o k_s (by omega) (by omega), b2 o k_s u1_s]
        exact fr1 o k_s u1_s u2_s u3
      have tk4 : tkF f4_s = tkF f_s := frC_tk hm_s fr4
      have m4_s : f4_s q_s 0 = (if p_s.2.2.2 then 1 else f_s q_s 0) := by
        rw [e3_s q_s 0 (by omega) (by omega), d3_s q_s 0 (by omega) (by omega), b2 q_s 0 (by omega)]
        exact g7
      refine (cpar F_s).1 h_s _ q_s n_s (len_s + p_s.2.1.length + 2) 0 0 (p_s.1 + 1) 0 0 f4_s hm_s hk rfl (by omega) rfl (by omega) ⟨?_, hl2, ?_, p4_s, by omega, by omega⟩ (fun v_s f5_s fr5 hr _ => ?_)
      · rw [e3_s 40 2 (by omega) (by omega), d3_s 40 2 (by omega) (by omega)]
        exact b1
      · rw [fr4 40 1 (by omega) (by omega) (by omega)]
        exact p3_s
      · obtain ⟨r_s, hp5, hpo⟩ := hr
        rw [tk4] at hp5
        have fr6 : frC q_s len_s f_s f5_s := by
          intro o k_s u1_s u2_s u3
          rw [fr5 o k_s u1_s u2_s (by omega)]
          exact fr4 o k_s u1_s u2_s u3
        match r_s, hp5, hpo with
        | .inl e9_s, hp5, hpo =>
          obtain ⟨rfl, hpz⟩ := hpo
          exact ⟨fun _ => t_s 0 f5_s fr6 ⟨.inl e9_s, Or.inr ⟨p_s, hp, Or.inr ⟨by rw [← tk1]; exact c9_s, Or.inl ⟨e9_s, hp5, rfl⟩⟩⟩, rfl, hpz⟩, fun w_s => absurd rfl w_s⟩
        | .inr y_s, hp5, hpo =>
          obtain ⟨rfl, y1, y2, y3, y4, y5, y6, y7⟩ := hpo
          rw [m4_s] at y7
          refine ⟨fun w_s => absurd w_s (by decide), fun _ => ?_⟩
          refine sp_54 (h_s := (h_s.1, f5_s, h_s.2.2.1, h_s.2.2.2)) (len_s := len_s + p_s.2.1.length + 2 + y_s.2.1.length) hm_s hk y4 (by omega) (fun f6_s r1_s r2 r3 _ => ?_)
          have r3 : ∀ o k_s, ¬ (o = q_s + 1 ∧ k_s = len_s + p_s.2.1.length + 2 + y_s.2.1.length) → ¬ (o = q_s ∧ k_s = 2) → f6_s o k_s = f5_s o k_s := r3
          have ex_s : (f4_s q_s 2 - 1).toInt = ((len_s + p_s.2.1.length + 1 : Nat) : Int) := by
            rw [na_sub (by rw [n1_]; omega) (by rw [n1_]; omega), n1_]
            omega
          have zx := azix (i := f4_s q_s 2 - 1) (by omega)
          refine wF_le (Nat.le_succ F_s) (sg_57_0 (h_s := (h_s.1, f6_s, h_s.2.2.1, h_s.2.2.2)) (x1_s := f4_s q_s 2 - 1) hm_s hk ⟨fun c_s => absurd c_s (by omega), fun c_s => ⟨fun c1_s => fun c2_s => ?_, fun c1_s => absurd c1_s (by omega)⟩⟩)
          have e8 : zix (f4_s q_s 2 - 1) = len_s + p_s.2.1.length + 1 := by omega
          intro _
          dsimp only
          rw [e8]
          have lnl : (cLn len_s (some p_s.2, y_s.2)).length = p_s.2.1.length + (y_s.2.1.length + 3) := by
            unfold cLn
            simp only [List.length_append, List.length_cons, List.length_nil]
            omega
          refine t_s 1 (zup f6_s (q_s + 1) (len_s + p_s.2.1.length + 1) (f6_s q_s 2)) ?_ ⟨.inr (y_s.1, some p_s.2, y_s.2), Or.inr ⟨p_s, hp, Or.inr ⟨by rw [← tk1]; exact c9_s, Or.inr ⟨y_s, hp5, rfl⟩⟩⟩, rfl, by omega, y2, ?_, ?_, ?_, ?_, ?_⟩
          · intro o k_s u1_s u2_s u3
            rw [zne_up (by omega), r3 o k_s (by omega) (by omega)]
            exact fr6 o k_s u1_s u2_s u3
          · rw [zne_up (by omega), r3 40 2 (by omega) (by omega)]
            exact y3
          · rw [zne_up (by omega), lnl]
            omega
          · rw [lnl]
            omega
          · intro j_s c_s hj
            unfold cLn at hj
            dsimp only at hj
            rcases zget_apd hj with ⟨j1, j2_s⟩ | ⟨j1, j2_s⟩
            · rw [zne_up (by omega), r3 _ _ (by omega) (by omega), fr5 _ _ (by omega) (by omega) (by omega), e3_s _ _ (by omega) (by omega), d3_s _ _ (by omega) (by omega), b2 _ _ (by omega)]
              exact g6 j_s c_s j2_s
            · rcases zget_apd j2_s with ⟨j3_s, j4_s⟩ | ⟨j3_s, j4_s⟩
              · simp only [List.length_cons, List.length_nil] at j3_s
                match h7 : j_s - p_s.2.1.length, j4_s with
                | 0, j4_s =>
                  cases j4_s
                  rw [zne_up (by omega), r3 _ _ (by omega) (by omega), fr5 _ _ (by omega) (by omega) (by omega), e3_s _ _ (by omega) (by omega), show len_s + j_s = len_s + p_s.2.1.length by omega]
                  exact d1_s
                | 1, j4_s =>
                  cases j4_s
                  rw [show len_s + j_s = len_s + p_s.2.1.length + 1 by omega, zsame_up]
                  exact (ofN_ (by omega) (by rw [r2]; omega)).symm
                | k_s + 2, j4_s => omega
              · simp only [List.length_cons, List.length_nil] at j3_s j4_s
                rcases zget_apd j4_s with ⟨j5_s, j6_s⟩ | ⟨j5_s, j6_s⟩
                · rw [zne_up (by omega), r3 _ _ (by omega) (by omega)]
                  have u_s := y6 _ c_s j6_s
                  rw [show len_s + p_s.2.1.length + 2 + (j_s - p_s.2.1.length - (0 + 1 + 1)) = len_s + j_s by omega] at u_s
                  exact u_s
                · match h7 : j_s - p_s.2.1.length - (0 + 1 + 1) - y_s.2.1.length, j6_s with
                  | 0, j6_s =>
                    cases j6_s
                    rw [zne_up (by omega), show len_s + j_s = len_s + p_s.2.1.length + 2 + y_s.2.1.length by omega]
                    exact r1_s
                  | k_s + 1, j6_s => cases j6_s
          · rw [zne_up (by omega), r3 _ _ (by omega) (by omega), y7]
            show _ = (if (p_s.2.2.2 || y_s.2.2.2) = true then 1 else f_s q_s 0)
            generalize p_s.2.2.2 = b8
            generalize y_s.2.2.2 = b9
            cases b8 <;> cases b9 <;> rfl
    · have c9_s : ¬ tkF f1_s p_s.1 = 63 := c9_s
      refine sp_54 (h_s := (h_s.1, f1_s, h_s.2.2.1, h_s.2.2.2)) (len_s := len_s + p_s.2.1.length) hm_s hk g4 (by omega) (fun f2_s d1_s d2_s d3_s _ => ?_)
      have d3_s : ∀ o k_s, ¬ (o = q_s + 1 ∧ k_s = len_s + p_s.2.1.length) → ¬ (o = q_s ∧ k_s = 2) → f2_s o k_s = f1_s o k_s := d3_s
      have lnl : (cLn len_s (none, p_s.2)).length = p_s.2.1.length + 1 := by
        unfold cLn
        simp only [List.length_append, List.length_cons, List.length_nil]
      refine t_s 1 f2_s ?_ ⟨.inr (p_s.1, none, p_s.2), Or.inr ⟨p_s, hp, Or.inl ⟨by rw [← tk1]; exact c9_s, rfl⟩⟩, rfl, g1, g2, ?_, ?_, ?_, ?_, ?_⟩
      · intro o k_s u1_s u2_s u3
        rw [d3_s o k_s (by omega) (by omega)]
        exact fr1 o k_s u1_s u2_s u3
      · rw [d3_s 40 2 (by omega) (by omega)]
        exact g3_s
      · rw [lnl]
        omega
      · rw [lnl]
        omega
      · intro j_s c_s hj
        unfold cLn at hj
        dsimp only at hj
        rcases zget_apd hj with ⟨j1, j2_s⟩ | ⟨j1, j2_s⟩
        · rw [d3_s _ _ (by omega) (by omega)]
          exact g6 j_s c_s j2_s
        · match h7 : j_s - p_s.2.1.length, j2_s with
          | 0, j2_s =>
            cases j2_s
            rw [show len_s + j_s = len_s + p_s.2.1.length by omega]
            exact d1_s
          | k_s + 1, j2_s => cases j2_s
      · rw [d3_s _ _ (by omega) (by omega), g7]
        show _ = (if (false || p_s.2.2.2) = true then 1 else f_s q_s 0)
        generalize p_s.2.2.2 = b8
        cases b8 <;> rfl
end LN_s
