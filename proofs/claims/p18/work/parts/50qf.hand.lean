/-! THE REFERENCE READS A TEXT: leaves. -/
def tkR (f_s : Nat → Nat → Int32) (a_s : Nat) : Int := if (a_s : Int) < (f_s 102 17).toInt then (if (f_s 102 15).toInt < 0 then (f_s 109 a_s).toInt else (f_s 110 a_s).toInt) else -1
def frR (f_s f1_s : Nat → Nat → Int32) : Prop := ∀ o k_s, ¬ (o = 102 ∧ (k_s = 16 ∨ k_s = 18 ∨ k_s = 19)) → f1_s o k_s = f_s o k_s
theorem frR_tr {f_s f1_s f2_s : Nat → Nat → Int32} (h1 : frR f_s f1_s) (h2 : frR f1_s f2_s) : frR f_s f2_s := fun o k_s hq => (h2 o k_s hq).trans (h1 o k_s hq)
theorem frR_tk {f_s f1_s : Nat → Nat → Int32} (hf : frR f_s f1_s) : tkR f1_s = tkR f_s := by
  funext a_s
  unfold tkR
  rw [hf 102 17 (by omega), hf 102 15 (by omega), hf 109 a_s (by omega), hf 110 a_s (by omega)]
def prR (tk : Nat → Int) (nm : Nat → Int32) (n_s op_s a_s : Nat) (f_s : Nat → Nat → Int32) : Prop := (f_s 102 18).toInt = -1 ∧ (f_s 102 16).toInt = (a_s : Int) ∧ a_s ≤ n_s ∧ (f_s 102 17).toInt = (n_s : Int) ∧ n_s ≤ 120 ∧ (f_s 102 19).toInt = (op_s : Int) ∧ op_s ≤ 6 ∧ ((f_s 102 15).toInt = -1 ∨ (f_s 102 15).toInt = 0) ∧ (∀ k_s, k_s < n_s → 0 ≤ tk k_s) ∧ tkR f_s = tk ∧ ∀ k_s, f_s 111 k_s = nm k_s
theorem prR_fr {tk : Nat → Int} {nm : Nat → Int32} {n_s op_s a_s op1 a1_s : Nat} {f_s f1_s : Nat → Nat → Int32} (hf : frR f_s f1_s) (hp : prR tk nm n_s op_s a_s f_s) (e1_s : (f1_s 102 18).toInt = -1) (e2_s : (f1_s 102 16).toInt = (a1_s : Int)) (e3_s : a1_s ≤ n_s) (e4_s : (f1_s 102 19).toInt = (op1 : Int)) (e5_s : op1 ≤ 6) : prR tk nm n_s op1 a1_s f1_s := by
  obtain ⟨_, _, _, p4_s, p5_s, _, _, p8_s, p9_s, p10, p11⟩ := hp
  refine ⟨e1_s, e2_s, e3_s, ?_, p5_s, e4_s, e5_s, ?_, p9_s, ?_, fun k_s => ?_⟩
  · rw [hf 102 17 (by omega)]
    exact p4_s
  · rw [hf 102 15 (by omega)]
    exact p8_s
  · rw [frR_tk hf]
    exact p10
  · rw [hf 111 k_s (by omega)]
    exact p11 k_s
def poR (n_s op_s : Nat) (nm : Nat → Int32) (f1_s : Nat → Nat → Int32) (v_s : Int32) : pR → Prop
  | .inl e_s => (f1_s 102 18).toInt = (e_s : Int)
  | .inr p_s => (f1_s 102 18).toInt = -1 ∧ (f1_s 102 16).toInt = (p_s.1 : Int) ∧ p_s.1 ≤ n_s ∧ (f1_s 102 19).toInt = (op_s : Int) ∧ v_s = p_s.2.2.1 nm
section RT
variable {F_s : Nat} {h_s : zH} {K_s : Int32 → zH → Prop} {x1_s : Int32} {a_s n_s op_s : Nat} {tk : Nat → Int} {nm : Nat → Int32} {f_s : Nat → Nat → Int32}
theorem sp_166 (hk : hKn h_s) (hp : prR tk nm n_s op_s a_s f_s) (t_s : ∀ v_s, ((tk a_s = -1 ∧ v_s.toInt = 0) ∨ (0 ≤ tk a_s ∧ v_s.toInt = tk a_s)) → K_s v_s (h_s.1, f_s, h_s.2.2.1, h_s.2.2.2)) : wF F_s 166 (0, [some (.ref 102)], [], (h_s.1, f_s, h_s.2.2.1, h_s.2.2.2)) (gI K_s) := by
  obtain ⟨p1_s, p2_s, p3_s, p4_s, p5_s, p6_s, p7_s, p8_s, p9_s, p10, p11⟩ := hp
  have z_s := azix (i := f_s 102 16) (by omega)
  have z1 : zix (f_s 102 16) = a_s := by omega
  have ht : tk a_s = tkR f_s a_s := by rw [p10]
  have b0 : (f_s 102 15).toInt = 0 → zix (f_s 102 15 + f_s 102 16) = a_s := fun e_s => by
    have e1_s : (f_s 102 15 + f_s 102 16).toInt = (f_s 102 16).toInt := by
      rw [na_add (by omega) (by omega)]
      omega
    have z2 := azix (i := f_s 102 15 + f_s 102 16) (by omega)
    omega
  refine wF_le (Nat.le_succ F_s) (sg_166_0 (h_s := (h_s.1, f_s, h_s.2.2.1, h_s.2.2.2)) hk ⟨fun c1_s => ⟨fun c2_s => fun c3_s => ?_, fun c2_s => fun c4_s => ?_⟩, fun c1_s => ?_⟩)
  · have c1_s : (f_s 102 16).toInt < (f_s 102 17).toInt := c1_s
    have c2_s : (f_s 102 15).toInt < 0 := c2_s
    dsimp only
    rw [z1]
    have g_s := p9_s a_s (by omega)
    refine t_s _ (Or.inr ⟨g_s, ?_⟩)
    rw [ht]
    unfold tkR
    rw [if_pos (by omega), if_pos c2_s]
  · have c1_s : (f_s 102 16).toInt < (f_s 102 17).toInt := c1_s
    have c2_s : ¬ (f_s 102 15).toInt < 0 := c2_s
    dsimp only
    rw [b0 (by omega)]
    have g_s := p9_s a_s (by omega)
    refine t_s _ (Or.inr ⟨g_s, ?_⟩)
    rw [ht]
    unfold tkR
    rw [if_pos (by omega), if_neg c2_s]
  · have c1_s : ¬ (f_s 102 16).toInt < (f_s 102 17).toInt := c1_s
    refine t_s _ (Or.inl ⟨?_, rfl⟩)
    rw [ht]
    unfold tkR
    rw [if_neg (by omega)]
theorem sp_167 (hk : hKn h_s) (t1_s : (f_s 102 18).toInt < 0 → ∀ f1_s, f1_s 102 18 = f_s 102 16 → (∀ o k_s, ¬ (o = 102 ∧ k_s = 18) → f1_s o k_s = f_s o k_s) → K_s 0 (h_s.1, f1_s, h_s.2.2.1, h_s.2.2.2)) (t2_s : ¬ (f_s 102 18).toInt < 0 → ∀ f1_s, (∀ o k_s, f1_s o k_s = f_s o k_s) → K_s 0 (h_s.1, f1_s, h_s.2.2.1, h_s.2.2.2)) : wF F_s 167 (0, [some (.ref 102)], [], (h_s.1, f_s, h_s.2.2.1, h_s.2.2.2)) (gI K_s) := by
  refine wF_le (Nat.le_succ F_s) (sg_167_0 (h_s := (h_s.1, f_s, h_s.2.2.1, h_s.2.2.2)) hk ⟨fun c1_s => t1_s c1_s _ ?_ ?_, fun c1_s => t2_s c1_s _ ?_⟩)
  · exact zsame_up
  · intro o k_s hq
    exact zne_up hq
  · intro o k_s
    by_cases e_s : o = 102 ∧ k_s = 18
    · obtain ⟨rfl, rfl⟩ := e_s
      exact zsame_up
    · exact zne_up e_s
theorem sp_168 (hk : hKn h_s) (hp : prR tk nm n_s op_s a_s f_s) (hx : 0 < x1_s.toInt) (t1_s : tk a_s = x1_s.toInt → ∀ f1_s, (f1_s 102 16).toInt = ((a_s + 1 : Nat) : Int) → (∀ o k_s, ¬ (o = 102 ∧ k_s = 16) → f1_s o k_s = f_s o k_s) → K_s 1 (h_s.1, f1_s, h_s.2.2.1, h_s.2.2.2)) (t2_s : ¬ tk a_s = x1_s.toInt → K_s 0 (h_s.1, f_s, h_s.2.2.1, h_s.2.2.2)) : wF F_s 168 (0, [some (.ref 102), some (.int x1_s)], [], (h_s.1, f_s, h_s.2.2.1, h_s.2.2.2)) (gI K_s) := by
  obtain ⟨p1_s, p2_s, p3_s, p4_s, p5_s, pr⟩ := hp
  refine wF_le (Nat.le_succ F_s) (sg_168_0 (h_s := (h_s.1, f_s, h_s.2.2.1, h_s.2.2.2)) hk ⟨fun c1_s => sp_166 hk ⟨p1_s, p2_s, p3_s, p4_s, p5_s, pr⟩ (fun v_s hv _ => ⟨fun c_s => t1_s (by omega) _ ?_ ?_, fun c_s => t2_s (by omega)⟩), fun c1_s => ?_⟩)
  · show (zup f_s 102 16 (f_s 102 16 + 1) 102 16).toInt = _
    rw [zsame_up, in1_ (by omega)]
    omega
  · intro o k_s hq
    exact zne_up hq
  · have c1_s : ¬ (f_s 102 18).toInt < 0 := c1_s
    omega
theorem sp_168F (hk : hKn h_s) (hf : 0 ≤ (f_s 102 18).toInt) (t_s : K_s 0 (h_s.1, f_s, h_s.2.2.1, h_s.2.2.2)) : wF F_s 168 (0, [some (.ref 102), some (.int x1_s)], [], (h_s.1, f_s, h_s.2.2.1, h_s.2.2.2)) (gI K_s) := by
  refine wF_le (Nat.le_succ F_s) (sg_168_0 (h_s := (h_s.1, f_s, h_s.2.2.1, h_s.2.2.2)) hk ⟨fun c1_s => ?_, fun _ => t_s⟩)
  have c1_s : (f_s 102 18).toInt < 0 := c1_s
  omega
theorem sp_174 (hk : hKn h_s) (t_s : ∀ v_s, v_s.toInt = nmo x1_s.toInt → K_s v_s h_s) : wF F_s 174 (0, [some (.int x1_s)], [], h_s) (gI K_s) := by
  refine wF_le (Nat.le_succ F_s) (sg_174_0 hk ⟨fun c1_s => ?_, fun c1_s => ⟨fun c2_s => ?_, fun c2_s => ⟨fun c3_s => ?_, fun c3_s => ⟨fun c4_s => ?_, fun c4_s => ⟨fun c5_s => ?_, fun c5_s => ⟨fun c6_s => ?_, fun c6_s => ⟨fun c7_s => ?_, fun c7_s => ⟨fun c8_s => ?_, fun c8_s => ⟨fun c9_s => ?_, fun c9_s => ⟨fun c10_s => ?_, fun c10_s => ⟨fun c11_s => ?_, fun c11_s => ⟨fun c12_s => ?_, fun c12_s => ⟨fun c13_s => ?_, fun c13_s => ⟨fun c14_s => ?_, fun c14_s => ⟨fun c15_s => ?_, fun c15_s => ⟨fun c16 => ?_, fun c16 => ⟨fun c17 => ?_, fun c17 => ⟨fun c18_s => ?_, fun c18_s => ?_⟩⟩⟩⟩⟩⟩⟩⟩⟩⟩⟩⟩⟩⟩⟩⟩⟩⟩)
  · exact t_s _ (by rw [c1_s]; decide)
  · exact t_s _ (by rw [c2_s]; decide)
  · exact t_s _ (by rw [c3_s]; decide)
  · exact t_s _ (by rw [c4_s]; decide)
  · exact t_s _ (by rw [c5_s]; decide)
  · exact t_s _ (by rw [c6_s]; decide)
  · exact t_s _ (by rw [c7_s]; decide)
  · exact t_s _ (by rw [c8_s]; decide)
  · exact t_s _ (by rw [c9_s]; decide)
  · exact t_s _ (by rw [c10_s]; decide)
  · exact t_s _ (by rw [c11_s]; decide)
  · exact t_s _ (by rw [c12_s]; decide)
  · exact t_s _ (by rw [c13_s]; decide)
  · exact t_s _ (by rw [c14_s]; decide)
  · exact t_s _ (by rw [c15_s]; decide)
  · exact t_s _ (by rw [c16]; decide)
  · exact t_s _ (by rw [c17]; decide)
  · exact t_s _ (by rw [c18_s]; decide)
  · exact t_s _ (by unfold nmo; rw [if_neg (by omega), if_neg (by omega), if_neg (by omega), if_neg (by omega), if_neg (by omega), if_neg (by omega)]; rfl)
end RT
def RS (M_s m_s : Nat) (ns : List (Option Value)) (F_s : Nat) : Prop := ∀ (h_s : zH) (K_s : Int32 → zH → Prop) (tk : Nat → Int) (nm : Nat → Int32) (n_s op_s a_s : Nat) (f_s : Nat → Nat → Int32), hKn h_s → prR tk nm n_s op_s a_s f_s → (∀ v_s f1_s, frR f_s f1_s → (∃ r_s, pP tk m_s op_s a_s pz0 r_s ∧ poR n_s op_s nm f1_s v_s r_s) → K_s v_s (h_s.1, f1_s, h_s.2.2.1, h_s.2.2.2)) → wF F_s M_s (0, some (.ref 102) :: ns, [], (h_s.1, f_s, h_s.2.2.1, h_s.2.2.2)) (gI K_s)
def R69 : Nat → Prop := RS 169 0 [none, none]
def R70 : Nat → Prop := RS 170 1 [none, none]
def R71 : Nat → Prop := RS 171 2 [none, none, none]
def R72 : Nat → Prop := RS 172 3 [none, none, none]
def R73 : Nat → Prop := RS 173 4 [none, none, none]
def R75 : Nat → Prop := RS 175 5 [none, none, none, none]
def RL1 (M_s m_s : Nat) (F_s : Nat) : Prop := ∀ (h_s : zH) (K_s : Int32 → zH → Prop) (tk : Nat → Int) (nm : Nat → Int32) (n_s op_s a_s : Nat) (x1_s : Int32) (l2 : Option Value) (f_s : Nat → Nat → Int32) (z_s : pA), hKn h_s → prR tk nm n_s op_s a_s f_s → x1_s = z_s.2.1 nm → (∀ v_s f1_s, frR f_s f1_s → (∃ r_s, pP tk m_s op_s a_s z_s r_s ∧ poR n_s op_s nm f1_s v_s r_s) → K_s v_s (h_s.1, f1_s, h_s.2.2.1, h_s.2.2.2)) → wF F_s M_s (5, [some (.ref 102), some (.int x1_s), l2], [], (h_s.1, f_s, h_s.2.2.1, h_s.2.2.2)) (gI K_s)
def RL3 (F_s : Nat) : Prop := ∀ (h_s : zH) (K_s : Int32 → zH → Prop) (tk : Nat → Int) (nm : Nat → Int32) (n_s op_s a_s : Nat) (x1_s : Int32) (l2 l3 : Option Value) (f_s : Nat → Nat → Int32) (z_s : pA), hKn h_s → prR tk nm n_s op_s a_s f_s → x1_s = z_s.2.1 nm → (∀ v_s f1_s, frR f_s f1_s → (∃ r_s, pP tk 9 op_s a_s z_s r_s ∧ poR n_s op_s nm f1_s v_s r_s) → K_s v_s (h_s.1, f1_s, h_s.2.2.1, h_s.2.2.2)) → wF F_s 172 (5, [some (.ref 102), some (.int x1_s), l2, l3], [], (h_s.1, f_s, h_s.2.2.1, h_s.2.2.2)) (gI K_s)
def RL4 (F_s : Nat) : Prop := ∀ (h_s : zH) (K_s : Int32 → zH → Prop) (tk : Nat → Int) (nm : Nat → Int32) (n_s op_s a_s : Nat) (x1_s x2_s : Int32) (l3 : Option Value) (f_s : Nat → Nat → Int32) (z_s : pA), hKn h_s → prR tk nm n_s op_s a_s f_s → x1_s = z_s.2.1 nm → ((tk a_s = -1 ∧ x2_s.toInt = 0) ∨ (0 ≤ tk a_s ∧ x2_s.toInt = tk a_s)) → (∀ v_s f1_s, frR f_s f1_s → (∃ r_s, pP tk 10 op_s a_s z_s r_s ∧ poR n_s op_s nm f1_s v_s r_s) → K_s v_s (h_s.1, f1_s, h_s.2.2.1, h_s.2.2.2)) → wF F_s 173 (10, [some (.ref 102), some (.int x1_s), some (.int x2_s), l3], [], (h_s.1, f_s, h_s.2.2.1, h_s.2.2.2)) (gI K_s)
theorem frR_rf {f_s : Nat → Nat → Int32} : frR f_s f_s := fun _ _ _ => rfl
theorem frR_16 {f_s f1_s : Nat → Nat → Int32} (h1 : ∀ o k_s, ¬ (o = 102 ∧ k_s = 16) → f1_s o k_s = f_s o k_s) : frR f_s f1_s := fun o k_s hq => h1 o k_s (by omega)
theorem i0_ {x_s : Int32} (e_s : x_s.toInt = 0) : x_s = 0 := Int32.toInt_inj.mp e_s
theorem n0_ {x_s : Int32} (e_s : ¬ x_s.toInt = 0) : ¬ x_s = 0 := fun w_s => e_s (by rw [w_s]; rfl)
section RF
variable {F_s : Nat} {h_s : zH} {K_s : Int32 → zH → Prop} {x1_s x2_s : Int32} {l2 l3 : Option Value} {f_s : Nat → Nat → Int32}
theorem f69 (hk : hKn h_s) (hf : 0 ≤ (f_s 102 18).toInt) (t_s : K_s x1_s (h_s.1, f_s, h_s.2.2.1, h_s.2.2.2)) : wF F_s 169 (5, [some (.ref 102), some (.int x1_s), l2], [], (h_s.1, f_s, h_s.2.2.1, h_s.2.2.2)) (gI K_s) := wF_le (Nat.le_succ F_s) (sg_169_5 (h_s := (h_s.1, f_s, h_s.2.2.1, h_s.2.2.2)) hk (sp_168F hk hf (fun _ => ⟨fun _ => t_s, fun w_s => absurd rfl w_s⟩)))
theorem f70 (hk : hKn h_s) (hf : 0 ≤ (f_s 102 18).toInt) (t_s : K_s x1_s (h_s.1, f_s, h_s.2.2.1, h_s.2.2.2)) : wF F_s 170 (5, [some (.ref 102), some (.int x1_s), l2], [], (h_s.1, f_s, h_s.2.2.1, h_s.2.2.2)) (gI K_s) := wF_le (Nat.le_succ F_s) (sg_170_5 (h_s := (h_s.1, f_s, h_s.2.2.1, h_s.2.2.2)) hk (sp_168F hk hf (fun _ => ⟨fun _ => t_s, fun w_s => absurd rfl w_s⟩)))
theorem f72 (hk : hKn h_s) (hf : 0 ≤ (f_s 102 18).toInt) (t_s : K_s x1_s (h_s.1, f_s, h_s.2.2.1, h_s.2.2.2)) : wF F_s 172 (5, [some (.ref 102), some (.int x1_s), l2, l3], [], (h_s.1, f_s, h_s.2.2.1, h_s.2.2.2)) (gI K_s) := wF_le (Nat.le_succ F_s) (sg_172_5 (h_s := (h_s.1, f_s, h_s.2.2.1, h_s.2.2.2)) hk ⟨fun (c_s : (f_s 102 18).toInt < 0) => absurd c_s (by omega), fun _ => t_s⟩)
theorem f73 (hk : hKn h_s) (hf : 0 ≤ (f_s 102 18).toInt) (t_s : K_s x1_s (h_s.1, f_s, h_s.2.2.1, h_s.2.2.2)) : wF F_s 173 (10, [some (.ref 102), some (.int x1_s), some (.int x2_s), l3], [], (h_s.1, f_s, h_s.2.2.1, h_s.2.2.2)) (gI K_s) := wF_le (Nat.le_succ F_s) (sg_173_10 (h_s := (h_s.1, f_s, h_s.2.2.1, h_s.2.2.2)) hk ⟨fun (c_s : (f_s 102 18).toInt < 0) => absurd c_s (by omega), fun _ => t_s⟩)
end RF
theorem l69_s {F_s : Nat} (i70 : R70 F_s) (i69 : RL1 169 6 F_s) : RL1 169 6 (F_s + 1) := by
  intro h_s K_s tk nm n_s op_s a_s x1_s l2 f_s z_s hk hp hx t_s
  obtain ⟨p1_s, p2_s, p3_s, p4_s, p5_s, p6_s, p7_s, p8_s, p9_s, p10, p11⟩ := hp
  have hp : prR tk nm n_s op_s a_s f_s := ⟨p1_s, p2_s, p3_s, p4_s, p5_s, p6_s, p7_s, p8_s, p9_s, p10, p11⟩
  refine sg_169_5 (h_s := (h_s.1, f_s, h_s.2.2.1, h_s.2.2.2)) hk ?_
  refine sp_168 (x1_s := 124) hk hp (by decide) (fun c1_s f1_s b1 b2 _ => ⟨fun w_s => absurd w_s (by decide), fun _ => ?_⟩) (fun c1_s _ => ⟨fun _ => ?_, fun w_s => absurd rfl w_s⟩)
  · have c1_s : tk a_s = 124 := c1_s
    have hlv : lvl (tk a_s) = ((6 : Nat) : Int) - 6 := by rw [c1_s]; rfl
    have hlt : a_s < n_s := by
      by_cases e_s : a_s < n_s
      · exact e_s
      · exfalso
        rw [← p10] at c1_s
        unfold tkR at c1_s
        rw [if_neg (by omega)] at c1_s
        omega
    have fr1 : frR f_s f1_s := frR_16 b2
    refine i70 h_s _ tk nm n_s op_s (a_s + 1) f1_s hk (prR_fr fr1 hp (by rw [b2 102 18 (by omega)]; exact p1_s) b1 hlt (by rw [b2 102 19 (by omega)]; exact p6_s) p7_s) (fun v_s f2_s fr2 hr _ => ?_)
    obtain ⟨r_s, hq, hpo⟩ := hr
    match r_s, hq, hpo with
    | .inl e_s, hq, hpo =>
      have hpo : (f2_s 102 18).toInt = (e_s : Int) := hpo
      have tt : ∀ v_s, K_s v_s (h_s.1, f2_s, h_s.2.2.1, h_s.2.2.2) := fun v_s => t_s v_s f2_s (frR_tr fr1 fr2) ⟨.inl e_s, pP_sgF (by omega) hlv hq, hpo⟩
      exact ⟨fun _ => ⟨fun _ => f69 hk (by omega) (tt 0), fun _ => f69 hk (by omega) (tt 1)⟩, fun _ => f69 hk (by omega) (tt 1)⟩
    | .inr p_s, hq, hpo =>
      obtain ⟨g1, g2, g3_s, g4, g5_s⟩ := hpo
      have go_s : ∀ (y_s : Int32) (l : Option Value), y_s = jnv x1_s 124 v_s → wF F_s 169 (5, [some (.ref 102), some (.int y_s), l], [], (h_s.1, f2_s, h_s.2.2.1, h_s.2.2.2)) (gI K_s) := fun y_s l hy => i69 h_s K_s tk nm n_s op_s p_s.1 y_s l f2_s (pjn z_s (tk a_s) p_s.2) hk (prR_fr (frR_tr fr1 fr2) hp g1 g2 g3_s g4 p7_s) (by rw [hy, hx, g5_s, c1_s]; rfl) (fun v1_s f3_s fr3 hr => by
        obtain ⟨r_s, hr1, hr2⟩ := hr
        exact t_s v1_s f3_s (frR_tr (frR_tr fr1 fr2) fr3) ⟨r_s, pP_sg (by omega) (by omega) hlv hq hr1, hr2⟩)
      refine ⟨fun e1_s => ⟨fun e2_s => go_s 0 _ ?_, fun e2_s => go_s 1 _ ?_⟩, fun e1_s => go_s 1 _ ?_⟩
      · unfold jnv
        rw [if_pos rfl, if_pos ⟨i0_ e1_s, i0_ e2_s⟩]
      · unfold jnv
        rw [if_pos rfl, if_neg (fun w_s => n0_ e2_s w_s.2)]
      · unfold jnv
        rw [if_pos rfl, if_neg (fun w_s => n0_ e1_s w_s.1)]
  · have c1_s : ¬ tk a_s = 124 := c1_s
    refine t_s x1_s f_s frR_rf ⟨.inr (a_s, z_s), pP_end (by omega) ?_, p1_s, p2_s, p3_s, p6_s, hx⟩
    have q9_s := lvl_in (tk a_s)
    omega
theorem l70_s {F_s : Nat} (i71 : R71 F_s) (i70 : RL1 170 7 F_s) : RL1 170 7 (F_s + 1) := by
  intro h_s K_s tk nm n_s op_s a_s x1_s l2 f_s z_s hk hp hx t_s
  obtain ⟨p1_s, p2_s, p3_s, p4_s, p5_s, p6_s, p7_s, p8_s, p9_s, p10, p11⟩ := hp
  have hp : prR tk nm n_s op_s a_s f_s := ⟨p1_s, p2_s, p3_s, p4_s, p5_s, p6_s, p7_s, p8_s, p9_s, p10, p11⟩
  refine sg_170_5 (h_s := (h_s.1, f_s, h_s.2.2.1, h_s.2.2.2)) hk ?_
  refine sp_168 (x1_s := 38) hk hp (by decide) (fun c1_s f1_s b1 b2 _ => ⟨fun w_s => absurd w_s (by decide), fun _ => ?_⟩) (fun c1_s _ => ⟨fun _ => ?_, fun w_s => absurd rfl w_s⟩)
  · have c1_s : tk a_s = 38 := c1_s
    have hlv : lvl (tk a_s) = ((7 : Nat) : Int) - 6 := by rw [c1_s]; rfl
    have hlt : a_s < n_s := by
      by_cases e_s : a_s < n_s
      · exact e_s
      · exfalso
        rw [← p10] at c1_s
        unfold tkR at c1_s
        rw [if_neg (by omega)] at c1_s
        omega
    have fr1 : frR f_s f1_s := frR_16 b2
    refine i71 h_s _ tk nm n_s op_s (a_s + 1) f1_s hk (prR_fr fr1 hp (by rw [b2 102 18 (by omega)]; exact p1_s) b1 hlt (by rw [b2 102 19 (by omega)]; exact p6_s) p7_s) (fun v_s f2_s fr2 hr _ => ?_)
    obtain ⟨r_s, hq, hpo⟩ := hr
    match r_s, hq, hpo with
    | .inl e_s, hq, hpo =>
      have hpo : (f2_s 102 18).toInt = (e_s : Int) := hpo
      have tt : ∀ v_s, K_s v_s (h_s.1, f2_s, h_s.2.2.1, h_s.2.2.2) := fun v_s => t_s v_s f2_s (frR_tr fr1 fr2) ⟨.inl e_s, pP_sgF (by omega) hlv hq, hpo⟩
      exact ⟨fun _ => f70 hk (by omega) (tt 0), fun _ => ⟨fun _ => f70 hk (by omega) (tt 0), fun _ => f70 hk (by omega) (tt 1)⟩⟩
    | .inr p_s, hq, hpo =>
      obtain ⟨g1, g2, g3_s, g4, g5_s⟩ := hpo
      have go_s : ∀ (y_s : Int32) (l : Option Value), y_s = jnv x1_s 38 v_s → wF F_s 170 (5, [some (.ref 102), some (.int y_s), l], [], (h_s.1, f2_s, h_s.2.2.1, h_s.2.2.2)) (gI K_s) := fun y_s l hy => i70 h_s K_s tk nm n_s op_s p_s.1 y_s l f2_s (pjn z_s (tk a_s) p_s.2) hk (prR_fr (frR_tr fr1 fr2) hp g1 g2 g3_s g4 p7_s) (by rw [hy, hx, g5_s, c1_s]; rfl) (fun v1_s f3_s fr3 hr => by
        obtain ⟨r_s, hr1, hr2⟩ := hr
        exact t_s v1_s f3_s (frR_tr (frR_tr fr1 fr2) fr3) ⟨r_s, pP_sg (by omega) (by omega) hlv hq hr1, hr2⟩)
      have n124 : ¬ (38 : Int) = 124 := by decide
      refine ⟨fun e1_s => go_s 0 _ ?_, fun e1_s => ⟨fun e2_s => go_s 0 _ ?_, fun e2_s => go_s 1 _ ?_⟩⟩
      · unfold jnv
        rw [if_neg n124, if_pos rfl, if_pos (Or.inl (i0_ e1_s))]
      · unfold jnv
        rw [if_neg n124, if_pos rfl, if_pos (Or.inr (i0_ e2_s))]
      · unfold jnv
        rw [if_neg n124, if_pos rfl, if_neg (fun w_s => by
          rcases w_s with w_s | w_s
          · exact n0_ e1_s w_s
          · exact n0_ e2_s w_s)]
  · have c1_s : ¬ tk a_s = 38 := c1_s
    refine t_s x1_s f_s frR_rf ⟨.inr (a_s, z_s), pP_end (by omega) ?_, p1_s, p2_s, p3_s, p6_s, hx⟩
    have q9_s := lvl_in (tk a_s)
    omega
