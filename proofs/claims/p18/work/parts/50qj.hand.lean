/-! LAW: class and reference. -/
theorem cp77 {h_s : zH} {K_s : Int32 → zH → Prop} {n_s : Nat} {x1_s x2_s : Int32} {f0_s : Nat → Nat → Int32} (hk : hKn h_s) (hx2 : x2_s.toInt = (n_s : Int)) (hn : n_s ≤ 120) (t_s : ∀ f1_s, (∀ k_s, k_s < n_s → f1_s 110 k_s = f0_s 109 k_s) → f1_s 102 14 = x2_s → (∀ o k_s, ¬ (o = 110 ∧ k_s < n_s) → ¬ (o = 102 ∧ k_s = 14) → f1_s o k_s = f0_s o k_s) → K_s 1 (h_s.1, f1_s, h_s.2.2.1, h_s.2.2.2)) : ∀ (F_s j_s : Nat) (x3 : Int32) (f_s : Nat → Nat → Int32), x3.toInt = (j_s : Int) → j_s ≤ n_s → (∀ k_s, k_s < j_s → f_s 110 k_s = f0_s 109 k_s) → (∀ o k_s, ¬ (o = 110 ∧ k_s < j_s) → f_s o k_s = f0_s o k_s) → wF F_s 177 (37, [some (.ref 102), some (.int x1_s), some (.int x2_s), some (.int x3)], [], (h_s.1, f_s, h_s.2.2.1, h_s.2.2.2)) (gI K_s)
  | 0, _, _, _, _, _, _, _ => wF_zero
  | F_s + 1, j_s, x3, f_s, hx3, hj, g1, g2 => by
    refine sg_177_37 (h_s := (h_s.1, f_s, h_s.2.2.1, h_s.2.2.2)) hk ⟨fun c1_s => fun c2_s => ?_, fun c1_s => ?_⟩
    · have z_s := azix (i := x3) (by omega)
      have ez : zix x3 = j_s := by omega
      refine cp77 hk hx2 hn t_s F_s (j_s + 1) (x3 + 1) _ (by rw [in1_ (by omega)]; omega) (by omega) (fun k_s hq => ?_) (fun o k_s hq => ?_)
      · by_cases e_s : k_s = j_s
        · subst e_s
          rw [ez, zsame_up]
          exact g2 109 k_s (by omega)
        · rw [zne_up (by omega)]
          exact g1 k_s (by omega)
      · rw [zne_up (by omega)]
        exact g2 o k_s (by omega)
    · have ej : j_s = n_s := by omega
      subst ej
      refine t_s _ (fun k_s hq => ?_) zsame_up (fun o k_s h1 h2 => ?_)
      · rw [zne_up (by omega)]
        exact g1 k_s hq
      · rw [zne_up h2]
        exact g2 o k_s h1
theorem sp_177 {F_s : Nat} {h_s : zH} {K_s : Int32 → zH → Prop} {tk : Nat → Int} {n_s : Nat} {f_s : Nat → Nat → Int32} (hk : hKn h_s) (hx2 : (f_s 102 12).toInt = (n_s : Int)) (hn : n_s ≤ 120) (htk : ∀ a_s, tk a_s = if (a_s : Int) < (n_s : Int) then (f_s 109 a_s).toInt else -1) (hpos : ∀ k_s, k_s < n_s → 0 ≤ tk k_s) (t1_s : ∀ (e_s k_s : Nat) (w_s : Int32) f1_s, ptx tk n_s k_s 0 [] (.inl e_s) → w_s.toInt = (e_s : Int) → f1_s 102 12 = 0 → (∀ o k_s, ¬ (o = 102 ∧ (k_s = 12 ∨ 15 ≤ k_s ∧ k_s ≤ 19)) → f1_s o k_s = f_s o k_s) → K_s (-100 - w_s) (h_s.1, f1_s, h_s.2.2.1, h_s.2.2.2)) (t2_s : ∀ (k_s : Nat) (ls : List pB) f1_s, ptx tk n_s k_s 0 [] (.inr ls) → f1_s 102 12 = 0 → (f1_s 102 14).toInt = (n_s : Int) → (∀ k_s, k_s < n_s → f1_s 110 k_s = f_s 109 k_s) → (∀ o k_s, ¬ (o = 102 ∧ 12 ≤ k_s ∧ k_s ≤ 19) → ¬ (o = 110 ∧ k_s < n_s) → f1_s o k_s = f_s o k_s) → K_s 1 (h_s.1, f1_s, h_s.2.2.1, h_s.2.2.2)) : wF F_s 177 (0, [some (.ref 102), none, none, none], [], (h_s.1, f_s, h_s.2.2.1, h_s.2.2.2)) (gI K_s) := by
  refine wF_le (Nat.le_succ F_s) (sg_177_0 (h_s := (h_s.1, f_s, h_s.2.2.1, h_s.2.2.2)) hk ?_)
  refine sp_176 (tk := tk) (n_s := n_s) hk (Or.inl rfl) hx2 hn (fun a_s => by rw [htk a_s, if_pos (show ((-1 : Int32)).toInt < 0 by decide)]) hpos (fun v_s f1_s fr1 hr _ => ?_)
  obtain ⟨k_s, r_s, hr1, hr2⟩ := hr
  have e12_s : f1_s 102 12 = f_s 102 12 := fr1 102 12 (by omega)
  match r_s, hr1, hr2 with
  | .inl e_s, hr1, hr2 =>
    have hr2 : (f1_s 102 18).toInt = (e_s : Int) := hr2
    refine ⟨fun (c_s : (f1_s 102 18).toInt < 0) => absurd c_s (by omega), fun _ => ?_⟩
    refine t1_s e_s k_s (f1_s 102 18) _ hr1 hr2 zsame_up (fun o j_s hq => ?_)
    rw [zne_up (by omega)]
    exact fr1 o j_s (by omega)
  | .inr ls, hr1, hr2 =>
    obtain ⟨g1, g2⟩ := hr2
    refine ⟨fun _ => ?_, fun (c_s : ¬ (f1_s 102 18).toInt < 0) => absurd g1 (by omega)⟩
    show wF F_s 177 (37, [some (.ref 102), some (.int v_s), some (.int (f1_s 102 12)), some (.int 0)], [], (h_s.1, zup f1_s 102 12 0, h_s.2.2.1, h_s.2.2.2)) (gI K_s)
    rw [e12_s]
    refine cp77 (f0_s := zup f1_s 102 12 0) hk hx2 hn (fun f2_s b1 b2 b3 => t2_s k_s ls f2_s hr1 ?_ (by rw [b2]; exact hx2) (fun j_s hq => ?_) (fun o j_s h1 h2 => ?_)) F_s 0 0 _ rfl (by omega) (fun j_s hq => by omega) (fun _ _ _ => rfl)
    · rw [b3 102 12 (by omega) (by omega), zsame_up]
    · rw [b1 j_s hq, zne_up (by omega)]
      exact fr1 109 j_s (by omega)
    · rw [b3 o j_s (by omega) (by omega), zne_up (by omega)]
      exact fr1 o j_s (by omega)
def poT (q_s : Nat) (f1_s : Nat → Nat → Int32) (v_s : Int32) : Nat ⊕ List pB → Prop
  | .inl e_s => v_s.toInt = (e_s : Int)
  | .inr ls => v_s.toInt = -1 ∧ (f1_s q_s 2).toInt = ((cTx 0 ls).length : Int) ∧ (cTx 0 ls).length ≤ 241 ∧ (∀ j_s c_s, zget (cTx 0 ls) j_s = some c_s → f1_s (q_s + 1) j_s = c_s) ∧ f1_s q_s 0 = (if mTx ls then 1 else 0)
theorem ln63 {h_s : zH} {K_s : Int32 → zH → Prop} {q_s n_s : Nat} {f0_s : Nat → Nat → Int32} (hm_s : q_s = 14 ∨ q_s = 17) (hk : hKn h_s) : ∀ (F_s i_s a_s : Nat) (x2_s : Int32) (f_s : Nat → Nat → Int32) (l : List pB), x2_s.toInt = (i_s : Int) → 2 * i_s ≤ a_s → prC q_s n_s (cTx 0 l).length a_s f_s → (∀ j_s c_s, zget (cTx 0 l) j_s = some c_s → f_s (q_s + 1) j_s = c_s) → f_s q_s 0 = (if mTx l then 1 else 0) → frC q_s 0 f0_s f_s → (∀ v_s f1_s, frC q_s 0 f0_s f1_s → (∃ k_s r_s, ptx (tkF f0_s) n_s k_s a_s l r_s ∧ poT q_s f1_s v_s r_s) → K_s v_s (h_s.1, f1_s, h_s.2.2.1, h_s.2.2.2)) → wF F_s 63 (11, [some (.ref 40), some (.ref q_s), some (.int x2_s)], [], (h_s.1, f_s, h_s.2.2.1, h_s.2.2.2)) (gI K_s)
  | 0, _, _, _, _, _, _, _, _, _, _, _, _ => wF_zero
  | F_s + 1, i_s, a_s, x2_s, f_s, l, hx, hi2, hp, hc_s, hmw, hf, t_s => by
    obtain ⟨p1_s, p2_s, p3_s, p4_s, p5_s, p6_s⟩ := hp
    have tk0 : tkF f_s = tkF f0_s := frC_tk hm_s hf
    refine sg_63_11 (h_s := (h_s.1, f_s, h_s.2.2.1, h_s.2.2.2)) hm_s hk ⟨fun c_s => absurd c_s (by omega), fun _ => ?_⟩
    refine sp_64 hm_s hk ⟨p1_s, p2_s, p3_s, p4_s, p5_s, p6_s⟩ (fun v_s f1_s fr1 hr _ => ?_)
    obtain ⟨r_s, hpl, hpo⟩ := hr
    rw [tk0] at hpl
    have fr2 : frC q_s 0 f0_s f1_s := fun o k_s u1_s u2_s u3 => by
      rw [fr1 o k_s u1_s u2_s (by omega)]
      exact hf o k_s u1_s u2_s u3
    match r_s, hpl, hpo with
    | .inl e_s, hpl, hpo =>
      obtain ⟨rfl, hpz⟩ := hpo
      exact ⟨fun _ => t_s _ f1_s fr2 ⟨1, .inl e_s, Or.inl ⟨e_s, hpl, rfl⟩, hpz⟩, fun w_s => absurd rfl w_s⟩
    | .inr p_s, hpl, hpo =>
      obtain ⟨rfl, g1, g2, g3_s, g4, g5_s, g6, g7⟩ := hpo
      rw [hmw] at g7
      have fn1 : (f1_s 40 1).toInt = (n_s : Int) := by
        rw [fr1 40 1 (by omega) (by omega) (by omega)]
        exact p3_s
      have tk1 : tkF f1_s = tkF f0_s := frC_tk hm_s fr2
      have ce := cTx_end 0 l p_s.2
      rw [Nat.zero_add] at ce
      have cl_s : (cTx 0 (l ++ [p_s.2])).length = (cTx 0 l).length + (cLn (cTx 0 l).length p_s.2).length := by rw [ce, List.length_append]
      have cc : ∀ j_s c_s, zget (cTx 0 (l ++ [p_s.2])) j_s = some c_s → f1_s (q_s + 1) j_s = c_s := by
        intro j_s c_s hj
        rw [ce] at hj
        rcases zget_apd hj with ⟨j1, j2_s⟩ | ⟨j1, j2_s⟩
        · rw [fr1 _ _ (by omega) (by omega) (by omega)]
          exact hc_s j_s c_s j2_s
        · have u_s := g6 _ c_s j2_s
          rw [show (cTx 0 l).length + (j_s - (cTx 0 l).length) = j_s by omega] at u_s
          exact u_s
      have cm : f1_s q_s 0 = (if mTx (l ++ [p_s.2]) then 1 else 0) := by
        rw [g7, mTx_end]
        cases mTx l <;> cases mLn p_s.2 <;> rfl
      refine ⟨fun w_s => absurd w_s (by decide), fun _ => ⟨fun (c_s : (f1_s 40 2).toInt < (f1_s 40 1).toInt) => ?_, fun (c_s : ¬ (f1_s 40 2).toInt < (f1_s 40 1).toInt) => ?_⟩⟩
      · refine sp_69 (h_s := (h_s.1, f1_s, h_s.2.2.1, h_s.2.2.2)) (a_s := p_s.1) hk g3_s (by omega) (fun c9_s f2_s b1 b2 _ => ⟨fun w_s => absurd w_s (by decide), fun _ => ?_⟩) (fun c9_s _ => ⟨fun _ => ?_, fun w_s => absurd rfl w_s⟩)
        · have c9_s : tkF f1_s p_s.1 = 59 := c9_s
          have b2 : ∀ o k_s, ¬ (o = 40 ∧ k_s = 2) → f2_s o k_s = f1_s o k_s := b2
          refine ln63 (f0_s := f0_s) hm_s hk F_s (i_s + 1) (p_s.1 + 1) (x2_s + 1) f2_s (l ++ [p_s.2]) (by rw [in1_ (by omega)]; omega) (by omega) ⟨b1, by omega, ?_, p4_s, ?_, by omega⟩ (fun j_s c_s hj => ?_) ?_ (fun o k_s u1_s u2_s u3 => ?_) (fun v_s f3_s fr3 hr => ?_)
          · rw [b2 40 1 (by omega)]
            exact fn1
          · rw [b2 q_s 2 (by omega), cl_s]
            exact g4
          · rw [b2 _ _ (by omega)]
            exact cc j_s c_s hj
          · rw [b2 _ _ (by omega)]
            exact cm
          · rw [b2 o k_s u1_s]
            exact fr2 o k_s u1_s u2_s u3
          · obtain ⟨k_s, r_s, hr1, hr2⟩ := hr
            exact t_s v_s f3_s fr3 ⟨k_s + 1, r_s, Or.inr ⟨p_s, hpl, Or.inr ⟨by omega, Or.inr ⟨by rw [← tk1]; exact c9_s, hr1⟩⟩⟩, hr2⟩
        · have c9_s : ¬ tkF f1_s p_s.1 = 59 := c9_s
          exact t_s _ f1_s fr2 ⟨1, .inl p_s.1, Or.inr ⟨p_s, hpl, Or.inr ⟨by omega, Or.inl ⟨by rw [← tk1]; exact c9_s, rfl⟩⟩⟩, g3_s⟩
      · exact t_s _ f1_s fr2 ⟨1, .inr (l ++ [p_s.2]), Or.inr ⟨p_s, hpl, Or.inl ⟨by omega, rfl⟩⟩, rfl, by rw [cl_s]; exact g4, by omega, cc, cm⟩
theorem sp_63 {F_s : Nat} {h_s : zH} {K_s : Int32 → zH → Prop} {q_s n_s : Nat} {f_s : Nat → Nat → Int32} (hm_s : q_s = 14 ∨ q_s = 17) (hk : hKn h_s) (hn : (f_s 40 1).toInt = (n_s : Int)) (hb_s : n_s ≤ 120) (t_s : ∀ v_s f1_s, frC q_s 0 f_s f1_s → (∃ k_s r_s, ptx (tkF f_s) n_s k_s 0 [] r_s ∧ poT q_s f1_s v_s r_s) → K_s v_s (h_s.1, f1_s, h_s.2.2.1, h_s.2.2.2)) : wF F_s 63 (0, [some (.ref 40), some (.ref q_s), none], [], (h_s.1, f_s, h_s.2.2.1, h_s.2.2.2)) (gI K_s) := by
  refine wF_le (Nat.le_succ F_s) (sg_63_0 (h_s := (h_s.1, f_s, h_s.2.2.1, h_s.2.2.2)) hm_s hk ?_)
  refine ln63 (f0_s := f_s) (n_s := n_s) hm_s hk F_s 0 0 0 (zup (zup (zup f_s q_s 2 0) q_s 0 0) 40 2 0) [] rfl (by omega) ⟨?_, by omega, ?_, hb_s, ?_, (by show 0 ≤ 2 * 0; omega)⟩ (fun j_s c_s hj => by cases hj) ?_ (fun o k_s u1_s u2_s u3 => ?_) t_s
  · rw [zsame_up]
    rfl
  · rw [zne_up (by omega), zne_up (by omega), zne_up (by omega)]
    exact hn
  · rw [zne_up (by omega), zne_up (by omega), zsame_up]
    rfl
  · rw [zne_up (by omega), zsame_up]
    rfl
  · rw [zne_up (by omega), zne_up (by omega), zne_up (by omega)]
/-- THE TAPE -/
def tT (h_s : zH) : Prop := ∃ n_s : Nat, n_s ≤ 120 ∧ (h_s.2.1 40 1).toInt = (n_s : Int) ∧ h_s.2.1 102 12 = h_s.2.1 40 1 ∧ ∀ k_s, k_s < n_s → h_s.2.1 109 k_s = h_s.2.1 41 k_s ∧ 0 ≤ (h_s.2.1 41 k_s).toInt
section TP
variable {F_s : Nat} {h_s : zH} {x1_s : Int32}
theorem pr_feed (hk : hKn h_s) (hs : tT h_s) : wF F_s 100 (0, [some (.ref 6), some (.int x1_s)], [], h_s) (gI (fun v_s h1 => wF F_s 165 (0, [some (.ref 102), some (.int x1_s)], [], h1) (gI (fun v2 h2 => v_s = v2 ∧ tT h2)))) := by
  obtain ⟨n_s, n1_s, n2_s, n3_s, n4_s⟩ := hs
  have hs : tT h_s := ⟨n_s, n1_s, n2_s, n3_s, n4_s⟩
  have n5_s : (h_s.2.1 102 12).toInt = (n_s : Int) := by
    rw [n3_s]
    exact n2_s
  have z1 := azix (i := h_s.2.1 40 1) (by omega)
  have z2 := azix (i := h_s.2.1 102 12) (by omega)
  have e1_s : zix (h_s.2.1 40 1) = n_s := by omega
  have e2_s : zix (h_s.2.1 102 12) = n_s := by omega
  refine wF_le (Nat.le_succ F_s) (sg_100_0 hk ⟨fun c1_s => ?_, fun c1_s => ⟨fun c2_s => ?_, fun c2_s => ⟨fun c3_s => fun c4_s => ?_, fun c3_s => ?_⟩⟩⟩)
  · exact wF_le (Nat.le_succ F_s) (sg_165_0 hk ⟨fun _ => ⟨rfl, hs⟩, fun c_s => absurd c1_s c_s⟩)
  · exact wF_le (Nat.le_succ F_s) (sg_165_0 hk ⟨fun c_s => absurd c_s c1_s, fun _ => ⟨fun _ => ⟨rfl, hs⟩, fun c_s => absurd c2_s c_s⟩⟩)
  · have q12_s : zup (zup h_s.2.1 41 (zix (h_s.2.1 40 1)) x1_s) 40 1 (h_s.2.1 40 1 + 1) 102 12 = h_s.2.1 102 12 := by rw [zne_up (by omega), zne_up (by omega)]
    refine wF_le (Nat.le_succ F_s) (sg_165_0 (h_s := (h_s.1, zup (zup h_s.2.1 41 (zix (h_s.2.1 40 1)) x1_s) 40 1 (h_s.2.1 40 1 + 1), h_s.2.2.1, h_s.2.2.2)) hk ⟨fun c_s => absurd c_s c1_s, fun _ => ⟨fun c_s => absurd c_s c2_s, fun _ => ⟨fun c_s => ?_, fun c_s => fun c5_s => ⟨?_, ?_⟩⟩⟩⟩)
    · dsimp only at c_s
      rw [q12_s] at c_s
      omega
    · dsimp only
      rw [q12_s, n3_s]
    · dsimp only
      rw [q12_s, e1_s, e2_s]
      refine ⟨n_s + 1, by omega, ?_, ?_, fun k_s hq => ?_⟩
      · dsimp only
        rw [zne_up (by omega), zne_up (by omega), zsame_up, in1_ (by omega)]
        omega
      · dsimp only
        rw [zsame_up, zne_up (by omega), zne_up (by omega), zsame_up, n3_s]
      · dsimp only
        by_cases e_s : k_s = n_s
        · subst e_s
          rw [zne_up (by omega), zsame_up, zne_up (by omega), zne_up (by omega), zne_up (by omega), zsame_up]
          exact ⟨rfl, by omega⟩
        · rw [zne_up (by omega), zne_up (by omega), zne_up (by omega), zne_up (by omega), zne_up (by omega), zne_up (by omega), zne_up (by omega), zne_up (by omega)]
          exact n4_s k_s (by omega)
  · refine wF_le (Nat.le_succ F_s) (sg_165_0 hk ⟨fun c_s => absurd c_s c1_s, fun _ => ⟨fun c_s => absurd c_s c2_s, fun _ => ⟨fun _ => ⟨rfl, hs⟩, fun c_s => ?_⟩⟩⟩)
    omega
theorem pr_law (hk : hKn h_s) (hs : tT h_s) : wF F_s 101 (0, [some (.ref 6), none, none], [], h_s) (gI (fun v_s h1 => wF F_s 177 (0, [some (.ref 102), none, none, none], [], h1) (gI (fun v2 h2 => v_s = v2 ∧ tT h2)))) := by
  obtain ⟨n_s, n1_s, n2_s, n3_s, n4_s⟩ := hs
  have n5_s : (h_s.2.1 102 12).toInt = (n_s : Int) := by
    rw [n3_s]
    exact n2_s
  refine wF_le (Nat.le_succ F_s) (sg_101_0 hk (fun q_s r1_s m1_s => ?_))
  refine sp_63 (f_s := h_s.2.1) (n_s := n_s) m1_s hk n2_s n1_s (fun v_s f1_s fr1 hr hk1 => ?_)
  obtain ⟨k_s, r_s, hr1, hr2⟩ := hr
  have htk : ∀ a_s, tkF h_s.2.1 a_s = if (a_s : Int) < (n_s : Int) then (h_s.2.1 109 a_s).toInt else -1 := by
    intro a_s
    unfold tkF
    rw [n2_s]
    by_cases e_s : (a_s : Int) < (n_s : Int)
    · rw [if_pos e_s, if_pos e_s, (n4_s a_s (by omega)).1]
    · rw [if_neg e_s, if_neg e_s]
  have hpos : ∀ a_s, a_s < n_s → 0 ≤ tkF h_s.2.1 a_s := by
    intro a_s ha_s
    unfold tkF
    rw [if_pos (by omega)]
    exact (n4_s a_s ha_s).2
  have go_s : ∀ (rr : Nat → Nat → Option Nat) (hk2 : hKn (h_s.1, zup f1_s 40 1 0, h_s.2.2.1, rr)) (u_s : Int32), (∀ (e_s k1_s : Nat) (w_s : Int32), ptx (tkF h_s.2.1) n_s k1_s 0 [] (.inl e_s) → w_s.toInt = (e_s : Int) → u_s = -100 - w_s) → (∀ (k1_s : Nat) (ls : List pB), ptx (tkF h_s.2.1) n_s k1_s 0 [] (.inr ls) → u_s = 1) → wF F_s 177 (0, [some (.ref 102), none, none, none], [], (h_s.1, zup f1_s 40 1 0, h_s.2.2.1, rr)) (gI (fun v2 h2 => u_s = v2 ∧ tT h2)) := by
    intro rr hk2 u_s hu1 hu2
    have ff_s : ∀ o k_s, (o = 102 ∨ o = 109) → zup f1_s 40 1 0 o k_s = h_s.2.1 o k_s := fun o k_s ho => by
      rw [zne_up (by omega)]
      exact fr1 o k_s (by omega) (by omega) (by omega)
    refine sp_177 (h_s := (h_s.1, zup f1_s 40 1 0, h_s.2.2.1, rr)) (tk := tkF h_s.2.1) (n_s := n_s) (f_s := zup f1_s 40 1 0) hk2 (by rw [ff_s _ _ (Or.inl rfl)]; exact n5_s) n1_s (fun a_s => by rw [ff_s _ _ (Or.inr rfl)]; exact htk a_s) hpos (fun e_s k1_s w_s f2_s b1 b2 b3 b4 => ⟨hu1 e_s k1_s w_s b1 b2, 0, by omega, ?_, ?_, fun j_s hj => by omega⟩) (fun k1_s ls f2_s b1 b2 b3 b4 b5 => ⟨hu2 k1_s ls b1, 0, by omega, ?_, ?_, fun j_s hj => by omega⟩)
    · dsimp only
      rw [b4 40 1 (by omega), zsame_up]
      rfl
    · dsimp only
      rw [b3, b4 40 1 (by omega), zsame_up]
    · dsimp only
      rw [b5 40 1 (by omega) (by omega), zsame_up]
      rfl
    · dsimp only
      rw [b2, b5 40 1 (by omega) (by omega), zsame_up]
  match r_s, hr1, hr2 with
  | .inl e_s, hr1, hr2 =>
    have hr2 : v_s.toInt = (e_s : Int) := hr2
    refine ⟨fun c_s => absurd c_s (by omega), fun _ => ?_⟩
    refine go_s h_s.2.2.2 hk1 _ (fun e1_s k1_s w_s d1_s d2_s => ?_) (fun k1_s ls d1_s => ?_)
    · have q1_s := ptx_det hr1 d1_s
      cases q1_s
      rw [Int32.toInt_inj.mp (hr2.trans d2_s.symm)]
    · have q1_s := ptx_det hr1 d1_s
      cases q1_s
  | .inr ls, hr1, hr2 =>
    refine ⟨fun _ => fun q4_s r4 m4_s => ?_, fun c_s => absurd hr2.1 c_s⟩
    refine go_s (zup (zup h_s.2.2.2 7 10 (some q4_s)) 7 9 (some q_s)) (show hKn (h_s.1, f1_s, h_s.2.2.1, zup (zup h_s.2.2.2 7 10 (some q4_s)) 7 9 (some q_s)) from hkr9 (h_s := (h_s.1, f1_s, h_s.2.2.1, zup h_s.2.2.2 7 10 (some q4_s))) (hkr10 (h_s := (h_s.1, f1_s, h_s.2.2.1, h_s.2.2.2)) hk1 m4_s) m1_s) 1 (fun e1_s k1_s w_s d1_s d2_s => ?_) (fun _ _ _ => rfl)
    have q1_s := ptx_det hr1 d1_s
    cases q1_s
def tTok (W_s : aW) : Bool := (!aWf W_s 40 1 && !aWf W_s 102 12) && (List.range 120).all (fun k_s => !aWf W_s 41 k_s && !aWf W_s 109 k_s)
theorem tT_fr {W_s : aW} (hw : tTok W_s = true) {h_s h1 : zH} (fr_s : aFr (aWf W_s) h_s h1) (hs : tT h_s) : tT h1 := by
  unfold tTok at hw
  rw [Bool.and_eq_true, Bool.and_eq_true, Bool.not_eq_true', Bool.not_eq_true'] at hw
  obtain ⟨⟨w1_s, w2_s⟩, w3_s⟩ := hw
  obtain ⟨n_s, n1_s, n2_s, n3_s, n4_s⟩ := hs
  refine ⟨n_s, n1_s, ?_, ?_, fun k_s hq => ?_⟩
  · rw [fr_s.1 40 1 w1_s]
    exact n2_s
  · rw [fr_s.1 40 1 w1_s, fr_s.1 102 12 w2_s]
    exact n3_s
  · have c_s := List.all_eq_true.mp w3_s k_s (List.mem_range.mpr (by omega))
    rw [Bool.and_eq_true, Bool.not_eq_true', Bool.not_eq_true'] at c_s
    rw [fr_s.1 _ _ c_s.1, fr_s.1 _ _ c_s.2]
    exact n4_s k_s hq
theorem tT_start {E_s : Nat → Int32} {n_s : Nat} {h_s : zH} (hc_s : hcTp h_s = true) : tT (sH E_s n_s [] h_s) := by
  have sv : ∀ o k_s, o ≠ 0 → sov E_s [] h_s.2.1 o k_s = h_s.2.1 o k_s := fun o k_s ho => by rw [sov_nil ho]
  unfold hcTp at hc_s
  rw [Bool.and_eq_true, decide_eq_true_eq, decide_eq_true_eq] at hc_s
  refine ⟨0, by omega, ?_, ?_, fun k_s hq => by omega⟩
  · show (sov E_s [] h_s.2.1 40 1).toInt = 0
    rw [sv _ _ (by omega), hc_s.1]
    rfl
  · show sov E_s [] h_s.2.1 102 12 = sov E_s [] h_s.2.1 40 1
    rw [sv _ _ (by omega), sv _ _ (by omega), hc_s.1, hc_s.2]
end TP
