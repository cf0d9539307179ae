/-! THE REFERENCE WORKS A TEXT OUT. -/
def gvL (nm : Nat → Int32) : List pB → Option Int32
  | [] => none
  | l :: r_s => (match l.1 with
    | none => some (l.2.2.1 nm)
    | some y_s => if y_s.2.1 nm = 0 then gvL nm r_s else some (l.2.2.1 nm))
def gvo (g_s g1 : Option Int32) : Option Int32 := match g_s with
  | some v_s => some v_s
  | none => g1
theorem gvL_end (nm : Nat → Int32) : ∀ (l : List pB) (p_s : pB), gvL nm (l ++ [p_s]) = gvo (gvL nm l) (gvL nm [p_s])
  | [], p_s => rfl
  | a_s :: l, p_s => by
    have ih_s := gvL_end nm l p_s
    obtain ⟨o, b_s⟩ := a_s
    cases o with
    | none => rfl
    | some y_s =>
      show (if y_s.2.1 nm = 0 then gvL nm (l ++ [p_s]) else some (b_s.2.1 nm)) = gvo (if y_s.2.1 nm = 0 then gvL nm l else some (b_s.2.1 nm)) (gvL nm [p_s])
      by_cases e_s : y_s.2.1 nm = 0
      · rw [if_pos e_s, if_pos e_s]
        exact ih_s
      · rw [if_neg e_s, if_neg e_s]
        rfl
def gvi (g_s : Option Int32) (x3 x4_s : Int32) : Prop := match g_s with
  | none => x3.toInt = 0 ∧ x4_s = 0
  | some v_s => ¬ x3.toInt = 0 ∧ x4_s = v_s
theorem gvi_get {g_s : Option Int32} {x3 x4_s : Int32} (hg : gvi g_s x3 x4_s) : x4_s = g_s.getD 0 := by
  cases g_s with
  | none => exact hg.2
  | some v_s => exact hg.2
def poW (nm : Nat → Int32) (f1_s : Nat → Nat → Int32) (v_s : Int32) : Nat ⊕ List pB → Prop
  | .inl e_s => (f1_s 102 18).toInt = (e_s : Int)
  | .inr ls => (f1_s 102 18).toInt = -1 ∧ v_s = (gvL nm ls).getD 0
section WO
variable {F_s : Nat} {h_s : zH} {K_s : Int32 → zH → Prop} {tk : Nat → Int} {nm : Nat → Int32} {n_s a_s : Nat} {x1_s x2_s x3 x4_s x5_s x6 x7 : Int32} {l6 l7 : Option Value} {f_s : Nat → Nat → Int32}
theorem e33F (hk : hKn h_s) (h5 : x5_s.toInt = 0) (hf : 0 ≤ (f_s 102 18).toInt) (t_s : K_s x4_s (h_s.1, f_s, h_s.2.2.1, h_s.2.2.2)) : wF F_s 176 (33, [some (.ref 102), some (.int x1_s), some (.int x2_s), some (.int x3), some (.int x4_s), some (.int x5_s), l6, l7], [], (h_s.1, f_s, h_s.2.2.1, h_s.2.2.2)) (gI K_s) := wF_le (Nat.le_succ F_s) (sg_176_33 (h_s := (h_s.1, f_s, h_s.2.2.1, h_s.2.2.2)) hk ⟨fun _ => ⟨fun (c_s : (f_s 102 18).toInt < 0) => absurd c_s (by omega), fun _ => t_s⟩, fun c_s => absurd h5 c_s⟩)
theorem e33 (hk : hKn h_s) (h5 : x5_s.toInt = 0) (hp : prR tk nm n_s 0 a_s f_s) (t1_s : a_s < n_s → ∀ f1_s, frR f_s f1_s → (f1_s 102 18).toInt = (a_s : Int) → K_s 0 (h_s.1, f1_s, h_s.2.2.1, h_s.2.2.2)) (t2_s : n_s ≤ a_s → K_s x4_s (h_s.1, f_s, h_s.2.2.1, h_s.2.2.2)) : wF F_s 176 (33, [some (.ref 102), some (.int x1_s), some (.int x2_s), some (.int x3), some (.int x4_s), some (.int x5_s), l6, l7], [], (h_s.1, f_s, h_s.2.2.1, h_s.2.2.2)) (gI K_s) := by
  have p1_s := hp.1
  have p2_s := hp.2.1
  have p4_s := hp.2.2.2.1
  refine wF_le (Nat.le_succ F_s) (sg_176_33 (h_s := (h_s.1, f_s, h_s.2.2.1, h_s.2.2.2)) hk ⟨fun _ => ⟨fun _ => ⟨fun (c_s : (f_s 102 16).toInt < (f_s 102 17).toInt) => ?_, fun (c_s : ¬ (f_s 102 16).toInt < (f_s 102 17).toInt) => t2_s (by omega)⟩, fun (c_s : ¬ (f_s 102 18).toInt < 0) => absurd p1_s (by omega)⟩, fun c_s => absurd h5 c_s⟩)
  exact sp_167 hk (fun _ f1_s b1 b2 _ => t1_s (by omega) f1_s (fun o k_s hq => b2 o k_s (by omega)) (by rw [b1]; exact p2_s)) (fun c_s => absurd c_s (by omega))
theorem w74F (hk : hKn h_s) (hf : 0 ≤ (f_s 102 18).toInt) (t_s : K_s x4_s (h_s.1, f_s, h_s.2.2.1, h_s.2.2.2)) : wF F_s 176 (74, [some (.ref 102), some (.int x1_s), some (.int x2_s), some (.int x3), some (.int x4_s), some (.int x5_s), some (.int x6), some (.int x7)], [], (h_s.1, f_s, h_s.2.2.1, h_s.2.2.2)) (gI K_s) := wF_le (Nat.le_succ F_s) (sg_176_74 (h_s := (h_s.1, f_s, h_s.2.2.1, h_s.2.2.2)) hk ⟨fun (c_s : (f_s 102 18).toInt < 0) => absurd c_s (by omega), fun _ => sp_168F hk hf (fun _ => e33F hk rfl hf t_s)⟩)
end WO
def W33 (F_s : Nat) : Prop := ∀ (h_s : zH) (K_s : Int32 → zH → Prop) (tk : Nat → Int) (nm : Nat → Int32) (n_s a_s : Nat) (x1_s x2_s x3 x4_s x5_s : Int32) (l6 l7 : Option Value) (f_s : Nat → Nat → Int32) (l : List pB), hKn h_s → prR tk nm n_s 0 a_s f_s → ¬ x5_s.toInt = 0 → gvi (gvL nm l) x3 x4_s → (∀ v_s f1_s, frR f_s f1_s → (∃ k_s r_s, ptx tk n_s k_s a_s l r_s ∧ poW nm f1_s v_s r_s) → K_s v_s (h_s.1, f1_s, h_s.2.2.1, h_s.2.2.2)) → wF F_s 176 (33, [some (.ref 102), some (.int x1_s), some (.int x2_s), some (.int x3), some (.int x4_s), some (.int x5_s), l6, l7], [], (h_s.1, f_s, h_s.2.2.1, h_s.2.2.2)) (gI K_s)
theorem w33_s {F_s : Nat} (ih_s : W33 F_s) : W33 (F_s + 1) := by
  intro h_s K_s tk nm n_s a_s x1_s x2_s x3 x4_s x5_s l6 l7 f_s l hk hp h5 hg t_s
  have i69 := (rpar F_s).1.1
  refine sg_176_33 (h_s := (h_s.1, f_s, h_s.2.2.1, h_s.2.2.2)) hk ⟨fun c_s => absurd c_s h5, fun _ => ?_⟩
  refine i69 h_s _ tk nm n_s 0 a_s f_s hk hp (fun v5 f1_s fr1 hr _ => ?_)
  obtain ⟨r_s, hq, hpo⟩ := hr
  match r_s, hq, hpo with
  | .inl e_s, hq, hpo =>
    have hpo : (f1_s 102 18).toInt = (e_s : Int) := hpo
    exact sp_168F hk (by omega) (fun _ => ⟨fun _ => w74F hk (by omega) (t_s x4_s f1_s fr1 ⟨1, .inl e_s, Or.inl ⟨e_s, Or.inl ⟨e_s, hq, rfl⟩, rfl⟩, hpo⟩), fun w_s => absurd rfl w_s⟩)
  | .inr p_s, hq, hpo =>
    obtain ⟨g1, g2, g3_s, g4, g5_s⟩ := hpo
    have hp1 : prR tk nm n_s 0 p_s.1 f1_s := prR_fr fr1 hp g1 g2 g3_s g4 (by omega)
    have fin_s : ∀ (x6 x7 : Int32) (pb : pB) (a1_s : Nat) (f2_s : Nat → Nat → Int32), prR tk nm n_s 0 a1_s f2_s → frR f_s f2_s → pln tk a_s (.inr (a1_s, pb)) → ((x7.toInt = 0 ∧ gvL nm [pb] = none) ∨ (¬ x7.toInt = 0 ∧ gvL nm [pb] = some x6)) → wF F_s 176 (74, [some (.ref 102), some (.int x1_s), some (.int x2_s), some (.int x3), some (.int x4_s), some (.int x5_s), some (.int x6), some (.int x7)], [], (h_s.1, f2_s, h_s.2.2.1, h_s.2.2.2)) (gI K_s) := by
      intro x6 x7 pb a1_s f2_s hp2 fr2 hpl hx
      have q1_s := hp2.1
      have nx : ∀ y3 y4 : Int32, gvi (gvL nm (l ++ [pb])) y3 y4 → wF F_s 168 (0, [some (.ref 102), some (.int 59)], [], (h_s.1, f2_s, h_s.2.2.1, h_s.2.2.2)) (gI (fun v3 h3 => hKn h3 → wF F_s 176 (33, [some (.ref 102), some (.int x1_s), some (.int x2_s), some (.int y3), some (.int y4), some (.int v3), some (.int x6), some (.int x7)], [], h3) (gI K_s))) := by
        intro y3 y4 hg2
        refine sp_168 (x1_s := 59) hk hp2 (by decide) (fun c9_s f3_s b1 b2 _ => ?_) (fun c9_s _ => ?_)
        · have c9_s : tk a1_s = 59 := c9_s
          have hlt := prR_lt hp2 (by omega)
          have fr3 : frR f2_s f3_s := frR_16 b2
          refine ih_s h_s K_s tk nm n_s (a1_s + 1) x1_s x2_s y3 y4 1 _ _ f3_s (l ++ [pb]) hk (prR_fr fr3 hp2 (by rw [b2 _ _ (by omega)]; exact q1_s) b1 hlt (by rw [b2 _ _ (by omega)]; exact hp2.2.2.2.2.2.1) (by omega)) (by decide) hg2 (fun v_s f4_s fr4 hr => ?_)
          obtain ⟨k_s, r_s, hr1, hr2⟩ := hr
          exact t_s v_s f4_s (frR_tr (frR_tr fr2 fr3) fr4) ⟨k_s + 1, r_s, Or.inr ⟨(a1_s, pb), hpl, Or.inr ⟨hlt, Or.inr ⟨c9_s, hr1⟩⟩⟩, hr2⟩
        · have c9_s : ¬ tk a1_s = 59 := c9_s
          refine e33 hk rfl hp2 (fun hl f3_s fr3 b_s => t_s 0 f3_s (frR_tr fr2 fr3) ⟨1, .inl a1_s, Or.inr ⟨(a1_s, pb), hpl, Or.inr ⟨hl, Or.inl ⟨c9_s, rfl⟩⟩⟩, b_s⟩) (fun hl => t_s y4 f2_s fr2 ⟨1, .inr (l ++ [pb]), Or.inr ⟨(a1_s, pb), hpl, Or.inl ⟨hl, rfl⟩⟩, q1_s, gvi_get hg2⟩)
      have ge := gvL_end nm l pb
      refine wF_le (Nat.le_succ F_s) (sg_176_74 (h_s := (h_s.1, f2_s, h_s.2.2.1, h_s.2.2.2)) hk ⟨fun _ => ⟨fun c_s => nx x3 x4_s ?_, fun c_s => ⟨fun c1_s => nx 1 x6 ?_, fun c1_s => nx x3 x4_s ?_⟩⟩, fun (c_s : ¬ (f2_s 102 18).toInt < 0) => absurd q1_s (by omega)⟩)
      · rcases hx with ⟨_, e2_s⟩ | ⟨e1_s, _⟩
        · rw [ge, e2_s]
          cases hgl : gvL nm l with
          | none =>
            rw [hgl] at hg
            exact hg
          | some v_s =>
            rw [hgl] at hg
            exact hg
        · exact absurd c_s e1_s
      · rcases hx with ⟨e1_s, _⟩ | ⟨_, e2_s⟩
        · exact absurd e1_s c_s
        · rw [ge, e2_s]
          cases hgl : gvL nm l with
          | none => exact ⟨by decide, rfl⟩
          | some v_s =>
            rw [hgl] at hg
            exact absurd c1_s hg.1
      · rw [ge]
        cases hgl : gvL nm l with
        | none =>
          rw [hgl] at hg
          exact absurd hg.1 c1_s
        | some v_s =>
          rw [hgl] at hg
          exact hg
    refine sp_168 (x1_s := 63) hk hp1 (by decide) (fun c9_s f2_s b1 b2 _ => ⟨fun w_s => absurd w_s (by decide), fun _ => ?_⟩) (fun c9_s _ => ⟨fun _ => fin_s v5 1 (none, p_s.2) p_s.1 f1_s hp1 fr1 (Or.inr ⟨p_s, hq, Or.inl ⟨c9_s, rfl⟩⟩) (Or.inr ⟨by decide, by rw [g5_s]; rfl⟩), fun w_s => absurd rfl w_s⟩)
    have c9_s : tk p_s.1 = 63 := c9_s
    have hlt := prR_lt hp1 (by omega)
    have fr2 : frR f1_s f2_s := frR_16 b2
    have hp2 : prR tk nm n_s 0 (p_s.1 + 1) f2_s := prR_fr fr2 hp1 (by rw [b2 _ _ (by omega)]; exact g1) b1 hlt (by rw [b2 _ _ (by omega)]; exact g4) (by omega)
    have sec : ∀ y7 : Int32, ((y7.toInt = 0 ∧ p_s.2.2.1 nm = 0) ∨ (¬ y7.toInt = 0 ∧ ¬ p_s.2.2.1 nm = 0)) → wF F_s 169 (0, [some (.ref 102), none, none], [], (h_s.1, f2_s, h_s.2.2.1, h_s.2.2.2)) (gI (fun v9 h9 => hKn h9 → wF F_s 176 (74, [some (.ref 102), some (.int x1_s), some (.int x2_s), some (.int x3), some (.int x4_s), some (.int x5_s), some (.int v9), some (.int y7)], [], h9) (gI K_s))) := by
      intro y7 hy
      refine i69 h_s _ tk nm n_s 0 (p_s.1 + 1) f2_s hk hp2 (fun v9 f3_s fr3 hr _ => ?_)
      obtain ⟨r_s, hq2, hpo⟩ := hr
      match r_s, hq2, hpo with
      | .inl e_s, hq2, hpo =>
        have hpo : (f3_s 102 18).toInt = (e_s : Int) := hpo
        exact w74F hk (by omega) (t_s x4_s f3_s (frR_tr (frR_tr fr1 fr2) fr3) ⟨1, .inl e_s, Or.inl ⟨e_s, Or.inr ⟨p_s, hq, Or.inr ⟨c9_s, Or.inl ⟨e_s, hq2, rfl⟩⟩⟩, rfl⟩, hpo⟩)
      | .inr y_s, hq2, hpo =>
        obtain ⟨y1, y2, y3, y4, y5⟩ := hpo
        refine fin_s v9 y7 (some p_s.2, y_s.2) y_s.1 f3_s (prR_fr (frR_tr (frR_tr fr1 fr2) fr3) hp y1 y2 y3 y4 (by omega)) (frR_tr (frR_tr fr1 fr2) fr3) (Or.inr ⟨p_s, hq, Or.inr ⟨c9_s, Or.inr ⟨y_s, hq2, rfl⟩⟩⟩) ?_
        rcases hy with ⟨e1_s, e2_s⟩ | ⟨e1_s, e2_s⟩
        · refine Or.inl ⟨e1_s, ?_⟩
          show (if p_s.2.2.1 nm = 0 then none else some (y_s.2.2.1 nm)) = none
          rw [if_pos e2_s]
        · refine Or.inr ⟨e1_s, ?_⟩
          show (if p_s.2.2.1 nm = 0 then none else some (y_s.2.2.1 nm)) = some v9
          rw [if_neg e2_s, y5]
    exact ⟨fun e0_s => sec 0 (Or.inl ⟨rfl, by rw [← g5_s]; exact i0_ e0_s⟩), fun e0_s => sec 1 (Or.inr ⟨by decide, by rw [← g5_s]; exact n0_ e0_s⟩)⟩
theorem w33 : ∀ F_s, W33 F_s
  | 0 => by
    intro _ _ _ _ _ _ _
    intros
    exact wF_zero
  | F_s + 1 => w33_s (w33 F_s)
/-- all of it: from base x1, of n bytes -/
theorem sp_176 {F_s : Nat} {h_s : zH} {K_s : Int32 → zH → Prop} {tk : Nat → Int} {n_s : Nat} {x1_s x2_s : Int32} {f_s : Nat → Nat → Int32} (hk : hKn h_s) (hx1 : x1_s.toInt = -1 ∨ x1_s.toInt = 0) (hx2 : x2_s.toInt = (n_s : Int)) (hn : n_s ≤ 120) (htk : ∀ a_s, tk a_s = if (a_s : Int) < (n_s : Int) then (if x1_s.toInt < 0 then (f_s 109 a_s).toInt else (f_s 110 a_s).toInt) else -1) (hpos : ∀ k_s, k_s < n_s → 0 ≤ tk k_s) (t_s : ∀ v_s f1_s, (∀ o k_s, ¬ (o = 102 ∧ 15 ≤ k_s ∧ k_s ≤ 19) → f1_s o k_s = f_s o k_s) → (∃ k_s r_s, ptx tk n_s k_s 0 [] r_s ∧ poW (fun k_s => f_s 111 k_s) f1_s v_s r_s) → K_s v_s (h_s.1, f1_s, h_s.2.2.1, h_s.2.2.2)) : wF F_s 176 (0, [some (.ref 102), some (.int x1_s), some (.int x2_s), none, none, none, none, none], [], (h_s.1, f_s, h_s.2.2.1, h_s.2.2.2)) (gI K_s) := by
  refine wF_le (Nat.le_succ F_s) (sg_176_0 (h_s := (h_s.1, f_s, h_s.2.2.1, h_s.2.2.2)) hk ?_)
  refine w33 F_s h_s K_s tk (fun k_s => f_s 111 k_s) n_s 0 x1_s x2_s 0 0 1 none none (zup (zup (zup (zup (zup f_s 102 15 x1_s) 102 16 0) 102 17 x2_s) 102 18 (-1)) 102 19 0) [] hk ⟨?_, ?_, by omega, ?_, hn, ?_, by omega, ?_, hpos, ?_, fun k_s => ?_⟩ (by decide) ⟨rfl, rfl⟩ (fun v_s f1_s fr1 hr => t_s v_s f1_s (fun o k_s hq => ?_) hr)
  · rw [zne_up (by omega), zsame_up]
    rfl
  · rw [zne_up (by omega), zne_up (by omega), zne_up (by omega), zsame_up]
    rfl
  · rw [zne_up (by omega), zne_up (by omega), zsame_up]
    exact hx2
  · rw [zsame_up]
    rfl
  · rw [zne_up (by omega), zne_up (by omega), zne_up (by omega), zne_up (by omega), zsame_up]
    exact hx1
  · funext a_s
    unfold tkR
    rw [htk a_s]
    simp (disch := omega) only [zne_up, zsame_up]
    rw [hx2]
  · simp (disch := omega) only [zne_up]
  · rw [fr1 o k_s (by omega)]
    simp (disch := omega) only [zne_up]
