/-! ASKS, SETTLED: class and reference. -/
section AQ
variable {h_s : zH} {x1_s : Int32}
theorem pr_asks {F_s : Nat} (hk : hKn h_s) (hx : tX h_s) : wF F_s 107 (0, [some (.ref 6), some (.int x1_s)], [], h_s) (gI (fun v_s h1 => wF F_s 199 (0, [some (.ref 102), some (.int x1_s)], [], h1) (gI (fun v2 _ => v_s = v2)))) := by
  obtain ⟨nh, ni, nr, hc_s, _, _, _, _, _⟩ := hx
  have b_s := hc_s.1
  have m0_s := tC_M hc_s
  have e6_s := hc_s.2.1.1
  have e26_s := sb1 m0_s.2.1.1
  have no_s : ¬ (0 ≤ x1_s.toInt ∧ x1_s.toInt < (nh : Int)) → wF F_s 199 (0, [some (.ref 102), some (.int x1_s)], [], h_s) (gI (fun v2 _ => (-1 : Int32) = v2)) := fun w_s => by
    refine wF_le (Nat.le_succ F_s) (sg_199_0 (h_s := h_s) hk ?_)
    rw [e26_s]
    exact ⟨fun _ => rfl, fun c1_s => ⟨fun _ => rfl, fun c2_s => absurd ⟨by omega, by omega⟩ w_s⟩⟩
  refine wF_le (Nat.le_succ F_s) (sg_107_0 (h_s := h_s) hk ?_)
  rw [e6_s]
  refine ⟨fun c1_s => no_s (by omega), fun c1_s => ⟨fun c2_s => ?_, fun c2_s => no_s (by omega)⟩⟩
  have z_s := azix (i := x1_s) (by omega)
  have hp : zix x1_s < nh := by omega
  refine sp_25 (f0_s := h_s.2.1) hk hc_s (fun f1_s S_s g1 hk1 => fun _ => ?_)
  dsimp only
  have g3_s : ∀ a_s k_s, 100 ≤ a_s → f1_s a_s k_s = h_s.2.1 a_s k_s := fun a_s k_s ha_s => g1 a_s k_s (by omega)
  have m1_s : tM nh ni nr f1_s := tM_fr (fun k_s _ _ => g3_s _ _ (by omega)) (fun k_s _ => g3_s _ _ (by omega)) m0_s
  have e261 := sb1 m1_s.2.1.1
  obtain ⟨ek, eh⟩ := ky_fr (f_s := f1_s) (f0_s := h_s.2.1) (fun k_s => g3_s 103 k_s (by omega))
  generalize zix x1_s = p_s at z_s hp
  refine wF_le (Nat.le_succ F_s) (sg_199_0 (h_s := (h_s.1, f1_s, h_s.2.2.1, h_s.2.2.2)) hk ?_)
  dsimp only
  rw [e261]
  refine ⟨fun c_s => absurd c_s (by omega), fun _ => ⟨fun c_s => absurd c_s (by omega), fun _ => ?_⟩⟩
  refine sp_198 (h_s := (h_s.1, f1_s, h_s.2.2.1, h_s.2.2.2)) (f0_s := f1_s) hk1 m1_s (fun f2_s fa G_s dn hk2 => ?_)
  rw [ek, eh] at G_s
  have T : ∀ i_s, i_s < ni → ((f1_s 12 p_s).toInt = (i_s : Int) ↔ hbF f2_s i_s = (p_s : Int)) := fun i_s hi_s => GS_SD (hk_inj m0_s) (hk_0 m0_s) G_s dn S_s ((hkI h_s.2.1 p_s).toNat + 1) p_s hp (by have := hk_0 m0_s p_s hp; omega) i_s hi_s
  have m2_s : tM nh ni nr f2_s := tM_fr (fun k_s _ _ => fa _ _ (by omega) (by omega)) (fun k_s _ => fa _ _ (by omega) (by omega)) m1_s
  have sd_s : (f1_s 12 p_s).toInt = -2 ∨ ∃ i_s : Nat, i_s < ni ∧ (f1_s 12 p_s).toInt = (i_s : Int) := by
    rcases S_s p_s hp with u_s | ⟨i_s, u1_s, u2_s, _⟩
    · exact Or.inl u_s.1
    · exact Or.inr ⟨i_s, u1_s, u2_s⟩
  refine sp_197 (h_s := (h_s.1, f2_s, h_s.2.2.1, h_s.2.2.2)) (f_s := f2_s) (p_s := p_s) hk2 m2_s (by omega) (fun v4_s hv _ => ⟨fun c_s => ?_, fun c_s => ?_⟩)
  · rcases hv with ⟨_, w_s⟩ | ⟨i_s, _, w_s, _⟩
    · rcases sd_s with u_s | ⟨i_s, u1_s, u2_s⟩
      · exact Int32.toInt_inj.mp u_s
      · exact absurd ((T i_s u1_s).mp u2_s) (w_s i_s u1_s)
    · omega
  · refine sp_197 (h_s := (h_s.1, f2_s, h_s.2.2.1, h_s.2.2.2)) (f_s := f2_s) (p_s := p_s) hk2 m2_s (by omega) (fun v6 hv6 _ => ?_)
    rcases hv6 with ⟨_, w_s⟩ | ⟨i_s, w0_s, w1_s, w2_s⟩
    · rcases hv with ⟨w4_s, _⟩ | ⟨i_s, w0_s, _, w2_s⟩
      · omega
      · exact absurd w2_s (w_s i_s w0_s)
    · exact Int32.toInt_inj.mp (((T i_s w0_s).mpr w2_s).trans w1_s.symm)
end AQ
def unS (nh ni : Nat) (ky : Nat → Nat → Int) (hk hd_s : Nat → Int) (p_s d_s : Nat) : Prop := ¬ hd_s d_s = (p_s : Int) ∧ (∀ o, o < ni → hd_s o = (p_s : Int) → ky p_s d_s < ky p_s o) ∧ ∀ q_s : Nat, q_s < nh → hd_s d_s = (q_s : Int) → hk p_s < hk q_s
def inS (n_s : Nat) (hd_s : Nat → Int) : Prop := ∀ i_s j_s, i_s < n_s → j_s < n_s → 0 ≤ hd_s i_s → hd_s i_s = hd_s j_s → i_s = j_s
def stS (nh ni : Nat) (ky : Nat → Nat → Int) (hk hd_s : Nat → Int) : Prop := inS ni hd_s ∧ ∀ p_s d_s, p_s < nh → d_s < ni → ¬ unS nh ni ky hk hd_s p_s d_s
section SE_s
variable {h_s : zH} {K_s : Int32 → zH → Prop} {nh ni nr : Nat} {f0_s : Nat → Nat → Int32}
def hdC (f_s : Nat → Nat → Int32) (i_s : Nat) : Int := (f_s (20 + i_s) 6).toInt
def had1 (n_s : Nat) (hd_s : Nat → Int) (f_s : Nat → Nat → Int32) : Prop := ∀ p_s : Nat, p_s < 6 → ((f_s 12 p_s).toInt = -2 ∧ ∀ i_s, i_s < n_s → ¬ hd_s i_s = (p_s : Int)) ∨ ∃ i_s : Nat, i_s < n_s ∧ hd_s i_s = (p_s : Int) ∧ (f_s 12 p_s).toInt = (i_s : Int)
def C68 (h_s : zH) (K_s : Int32 → zH → Prop) (nh ni : Nat) (f0_s : Nat → Nat → Int32) (F_s : Nat) : Prop := ∀ (x1_s : Int32) (l2 l3 : Option Value) (p_s : Nat) (f_s : Nat → Nat → Int32), (∀ a_s k_s, ¬ (a_s = 12 ∧ k_s < 6) → f_s a_s k_s = f0_s a_s k_s) → inS ni (hdC f0_s) → had1 ni (hdC f0_s) f_s → x1_s.toInt = (p_s : Int) → p_s ≤ nh → (∀ q_s d_s, q_s < p_s → d_s < ni → ¬ unS nh ni (kyI f0_s) (hkI f0_s) (hdC f0_s) q_s d_s) → wF F_s 30 (68, [some (.ref 7), some (.int x1_s), l2, l3], [], (h_s.1, f_s, h_s.2.2.1, h_s.2.2.2)) (gI K_s)
def C78 (h_s : zH) (K_s : Int32 → zH → Prop) (nh ni : Nat) (f0_s : Nat → Nat → Int32) (F_s : Nat) : Prop := ∀ (x1_s x2_s : Int32) (l3 : Option Value) (p_s d_s : Nat) (f_s : Nat → Nat → Int32), (∀ a_s k_s, ¬ (a_s = 12 ∧ k_s < 6) → f_s a_s k_s = f0_s a_s k_s) → inS ni (hdC f0_s) → had1 ni (hdC f0_s) f_s → x1_s.toInt = (p_s : Int) → p_s < nh → x2_s.toInt = (d_s : Int) → d_s ≤ ni → (∀ q_s e_s, q_s < p_s → e_s < ni → ¬ unS nh ni (kyI f0_s) (hkI f0_s) (hdC f0_s) q_s e_s) → (∀ e_s, e_s < d_s → ¬ unS nh ni (kyI f0_s) (hkI f0_s) (hdC f0_s) p_s e_s) → wF F_s 30 (78, [some (.ref 7), some (.int x1_s), some (.int x2_s), l3], [], (h_s.1, f_s, h_s.2.2.1, h_s.2.2.2)) (gI K_s)
def C105 (h_s : zH) (K_s : Int32 → zH → Prop) (nh ni : Nat) (f0_s : Nat → Nat → Int32) (F_s : Nat) : Prop := ∀ (x1_s x2_s x3 : Int32) (p_s d_s : Nat) (f_s : Nat → Nat → Int32), (∀ a_s k_s, ¬ (a_s = 12 ∧ k_s < 6) → f_s a_s k_s = f0_s a_s k_s) → inS ni (hdC f0_s) → had1 ni (hdC f0_s) f_s → x1_s.toInt = (p_s : Int) → p_s < nh → x2_s.toInt = (d_s : Int) → d_s < ni → (∀ q_s e_s, q_s < p_s → e_s < ni → ¬ unS nh ni (kyI f0_s) (hkI f0_s) (hdC f0_s) q_s e_s) → (∀ e_s, e_s < d_s → ¬ unS nh ni (kyI f0_s) (hkI f0_s) (hdC f0_s) p_s e_s) → (x3.toInt = 0 → hdC f0_s d_s = (p_s : Int)) → (¬ x3.toInt = 0 → ¬ hdC f0_s d_s = (p_s : Int)) → wF F_s 30 (105, [some (.ref 7), some (.int x1_s), some (.int x2_s), some (.int x3)], [], (h_s.1, f_s, h_s.2.2.1, h_s.2.2.2)) (gI K_s)
theorem c68_s {F_s : Nat} (hk : hKn h_s) (hc_s : tC nh ni nr f0_s) (t1_s : stS nh ni (kyI f0_s) (hkI f0_s) (hdC f0_s) → ∀ f1_s, (∀ a_s k_s, ¬ (a_s = 12 ∧ k_s < 6) → f1_s a_s k_s = f0_s a_s k_s) → K_s 1 (h_s.1, f1_s, h_s.2.2.1, h_s.2.2.2)) (i7_s : C78 h_s K_s nh ni f0_s F_s) : C68 h_s K_s nh ni f0_s (F_s + 1) := by
  intro x1_s l2 l3 p_s f_s g_s hi_s hh e1_s hp hu
  have e76 : f_s 7 6 = f0_s 7 6 := g_s 7 6 (by omega)
  refine sg_30_68 (h_s := (h_s.1, f_s, h_s.2.2.1, h_s.2.2.2)) hk ?_
  dsimp only
  rw [e76, hc_s.2.1.1, e1_s]
  refine ⟨fun c1_s => i7_s x1_s 0 l3 p_s 0 f_s g_s hi_s hh e1_s (by omega) rfl (Nat.zero_le _) hu (fun e_s he => absurd he (Nat.not_lt_zero e_s)), fun c1_s => t1_s ⟨hi_s, fun q_s d_s hq hd_s => hu q_s d_s (by omega) hd_s⟩ f_s g_s⟩
theorem c78_s {F_s : Nat} (hk : hKn h_s) (hc_s : tC nh ni nr f0_s) (i6_s : C68 h_s K_s nh ni f0_s F_s) (i1_s : C105 h_s K_s nh ni f0_s F_s) : C78 h_s K_s nh ni f0_s (F_s + 1) := by
  intro x1_s x2_s l3 p_s d_s f_s g_s hi_s hh e1_s hp e2_s hd_s hu hv
  have b_s := hc_s.1
  have e77 : f_s 7 7 = f0_s 7 7 := g_s 7 7 (by omega)
  have z2 := azix (i := x2_s) (by omega)
  have ez2 : zix x2_s = d_s := by omega
  have e20 : f_s (20 + d_s) 6 = f0_s (20 + d_s) 6 := g_s _ _ (by omega)
  refine sg_30_78 (h_s := (h_s.1, f_s, h_s.2.2.1, h_s.2.2.2)) hk ?_
  dsimp only
  rw [e77, hc_s.2.1.2.1, ez2, e20, e1_s, e2_s]
  have hdd : (f0_s (20 + d_s) 6).toInt = hdC f0_s d_s := rfl
  rw [hdd]
  refine ⟨fun c1_s => fun c2_s => ⟨fun c3_s => i1_s x1_s x2_s 0 p_s d_s f_s g_s hi_s hh e1_s hp e2_s (by omega) hu hv (fun _ => c3_s) (fun w_s => absurd rfl w_s), fun c3_s => i1_s x1_s x2_s 1 p_s d_s f_s g_s hi_s hh e1_s hp e2_s (by omega) hu hv (fun w_s => absurd w_s (by decide)) (fun _ => c3_s)⟩, fun c1_s => ?_⟩
  refine i6_s (x1_s + 1) _ l3 (p_s + 1) f_s g_s hi_s hh (by rw [in1_ (by omega)]; omega) (by omega) (fun q_s e_s hq he => ?_)
  by_cases eq_s : q_s = p_s
  · rw [eq_s]
    exact hv e_s (by omega)
  · exact hu q_s e_s (by omega) he
theorem c105_s {F_s : Nat} (hk : hKn h_s) (hc_s : tC nh ni nr f0_s) (t0_s : ¬ stS nh ni (kyI f0_s) (hkI f0_s) (hdC f0_s) → ∀ f1_s, (∀ a_s k_s, ¬ (a_s = 12 ∧ k_s < 6) → f1_s a_s k_s = f0_s a_s k_s) → K_s 0 (h_s.1, f1_s, h_s.2.2.1, h_s.2.2.2)) (i7_s : C78 h_s K_s nh ni f0_s F_s) : C105 h_s K_s nh ni f0_s (F_s + 1) := by
  intro x1_s x2_s x3 p_s d_s f_s g_s hi_s hh e1_s hp e2_s hd_s hu hv ha_s hb_s
  have b_s := hc_s.1
  have z1 := azix (i := x1_s) (by omega)
  have ez1 : zix x1_s = p_s := by omega
  have z2 := azix (i := x2_s) (by omega)
  have ez2 : zix x2_s = d_s := by omega
  have e20 : f_s (20 + d_s) 6 = f0_s (20 + d_s) 6 := g_s _ _ (by omega)
  have hcf : tC nh ni nr f_s := tC_fr (fun a_s k_s w_s => g_s a_s k_s (by unfold inC at w_s; omega)) hc_s
  obtain ⟨ek, eh⟩ := ky_fr (f_s := f_s) (f0_s := f0_s) (fun k_s => g_s 103 k_s (by omega))
  have bd := tC_hd hc_s hd_s
  rw [← bd.1] at bd
  have nx : ¬ unS nh ni (kyI f0_s) (hkI f0_s) (hdC f0_s) p_s d_s → wF F_s 30 (78, [some (.ref 7), some (.int x1_s), some (.int (x2_s + 1)), some (.int x3)], [], (h_s.1, f_s, h_s.2.2.1, h_s.2.2.2)) (gI K_s) := fun w_s => by
    refine i7_s x1_s (x2_s + 1) _ p_s (d_s + 1) f_s g_s hi_s hh e1_s hp (by rw [in1_ (by omega)]; omega) (by omega) hu (fun e_s he => ?_)
    by_cases ee : e_s = d_s
    · rw [ee]
      exact w_s
    · exact hv e_s (by omega)
  refine sg_30_105 (h_s := (h_s.1, f_s, h_s.2.2.1, h_s.2.2.2)) hk ?_
  dsimp only
  rw [ez1, ez2]
  refine ⟨fun c1_s => nx (fun u_s => u_s.1 (ha_s c1_s)), fun c1_s => fun c2_s => ?_⟩
  have na := hb_s c1_s
  -- what had says_s
  have hs : (f_s 12 p_s).toInt < 0 ∨ ∃ o : Nat, (f_s 12 p_s).toInt = (o : Int) ∧ o < ni := by
    rcases hh p_s (by omega) with u_s | ⟨i_s, u1_s, u2_s, u3⟩
    · exact Or.inl (by omega)
    · exact Or.inr ⟨i_s, u3, u1_s⟩
  refine sp_29 (h_s := (h_s.1, f_s, h_s.2.2.1, h_s.2.2.2)) (f_s := f_s) (p_s := p_s) (i_s := d_s) hk hcf e1_s e2_s hp hd_s hs (fun w1_s _ => ⟨fun c_s => absurd c_s (by decide), fun _ => fun _ => ?_⟩) (fun o w1_s w2_s w3_s _ => ⟨fun _ => nx (fun u_s => ?_), fun c_s => absurd rfl c_s⟩)
  · have wo : ∀ o, o < ni → hdC f0_s o = (p_s : Int) → kyI f0_s p_s d_s < kyI f0_s p_s o := fun o ho w_s => by
      rcases hh p_s (by omega) with u_s | ⟨i_s, u1_s, u2_s, u3⟩
      · exact absurd w_s (u_s.2 o ho)
      · have eo : o = i_s := hi_s o i_s ho u1_s (by omega) (by omega)
        rw [eo]
        have := w1_s i_s u3 u1_s
        rw [ek] at this
        exact this
    dsimp only
    rw [e20]
    have hq : (f0_s (20 + d_s) 6).toInt < 0 ∨ ∃ q_s : Nat, (f0_s (20 + d_s) 6).toInt = (q_s : Int) ∧ q_s < nh := by
      by_cases c_s : (f0_s (20 + d_s) 6).toInt < 0
      · exact Or.inl c_s
      · exact Or.inr ⟨(f0_s (20 + d_s) 6).toInt.toNat, by omega, by omega⟩
    refine sp_28 (h_s := (h_s.1, f_s, h_s.2.2.1, h_s.2.2.2)) (f_s := f_s) (p_s := p_s) (q_s := 0) hk hcf e1_s hp hq (fun w2_s _ => ⟨fun c_s => absurd c_s (by decide), fun _ => t0_s (fun s_s => s_s.2 p_s d_s hp hd_s ⟨na, wo, fun q_s hq1 hq2 => ?_⟩) f_s g_s⟩) (fun q_s w2_s w3_s w4_s _ => ⟨fun _ => nx (fun u_s => ?_), fun c_s => absurd rfl c_s⟩)
    · have := w2_s q_s hq2 hq1
      rw [eh] at this
      exact this
    · rw [eh] at w4_s
      exact w4_s (u_s.2.2 q_s w3_s w2_s)
  · rw [ek] at w3_s
    rcases hh p_s (by omega) with u2_s | ⟨i_s, u1_s, u2_s, u3⟩
    · omega
    · have eo : o = i_s := by omega
      rw [eo] at w3_s
      exact w3_s (u_s.2.1 i_s u1_s u2_s)
theorem c_all (hk : hKn h_s) (hc_s : tC nh ni nr f0_s) (t1_s : stS nh ni (kyI f0_s) (hkI f0_s) (hdC f0_s) → ∀ f1_s, (∀ a_s k_s, ¬ (a_s = 12 ∧ k_s < 6) → f1_s a_s k_s = f0_s a_s k_s) → K_s 1 (h_s.1, f1_s, h_s.2.2.1, h_s.2.2.2)) (t0_s : ¬ stS nh ni (kyI f0_s) (hkI f0_s) (hdC f0_s) → ∀ f1_s, (∀ a_s k_s, ¬ (a_s = 12 ∧ k_s < 6) → f1_s a_s k_s = f0_s a_s k_s) → K_s 0 (h_s.1, f1_s, h_s.2.2.1, h_s.2.2.2)) : ∀ F_s, C68 h_s K_s nh ni f0_s F_s ∧ C78 h_s K_s nh ni f0_s F_s ∧ C105 h_s K_s nh ni f0_s F_s
  | 0 => ⟨fun _ _ _ _ _ _ _ _ _ _ _ => wF_zero, fun _ _ _ _ _ _ _ _ _ _ _ _ _ _ _ => wF_zero, fun _ _ _ _ _ _ _ _ _ _ _ _ _ _ _ _ _ => wF_zero⟩
  | F_s + 1 => by
    obtain ⟨i6_s, i7_s, i1_s⟩ := c_all hk hc_s t1_s t0_s F_s
    exact ⟨c68_s hk hc_s t1_s i7_s, c78_s hk hc_s i6_s i1_s, c105_s hk hc_s t0_s i7_s⟩
theorem c11 (hk : hKn h_s) (hc_s : tC nh ni nr f0_s) (t1_s : stS nh ni (kyI f0_s) (hkI f0_s) (hdC f0_s) → ∀ f1_s, (∀ a_s k_s, ¬ (a_s = 12 ∧ k_s < 6) → f1_s a_s k_s = f0_s a_s k_s) → K_s 1 (h_s.1, f1_s, h_s.2.2.1, h_s.2.2.2)) (t0_s : ¬ stS nh ni (kyI f0_s) (hkI f0_s) (hdC f0_s) → ∀ f1_s, (∀ a_s k_s, ¬ (a_s = 12 ∧ k_s < 6) → f1_s a_s k_s = f0_s a_s k_s) → K_s 0 (h_s.1, f1_s, h_s.2.2.1, h_s.2.2.2)) : ∀ (F_s n_s : Nat) (x1_s : Int32) (l2 l3 : Option Value) (f_s : Nat → Nat → Int32), (∀ a_s k_s, ¬ (a_s = 12 ∧ k_s < 6) → f_s a_s k_s = f0_s a_s k_s) → x1_s.toInt = (n_s : Int) → n_s ≤ ni → inS n_s (hdC f0_s) → had1 n_s (hdC f0_s) f_s → wF F_s 30 (11, [some (.ref 7), some (.int x1_s), l2, l3], [], (h_s.1, f_s, h_s.2.2.1, h_s.2.2.2)) (gI K_s)
  | 0, _, _, _, _, _, _, _, _, _, _ => wF_zero
  | F_s + 1, n_s, x1_s, l2, l3, f_s, g_s, e1_s, hn, hi_s, hh => by
    have b_s := hc_s.1
    have z1 := azix (i := x1_s) (by omega)
    have ez1 : zix x1_s = n_s := by omega
    have e77 : f_s 7 7 = f0_s 7 7 := g_s 7 7 (by omega)
    have e76 : f_s 7 6 = f0_s 7 6 := g_s 7 6 (by omega)
    have e20 : f_s (20 + n_s) 6 = f0_s (20 + n_s) 6 := g_s _ _ (by omega)
    have e5_s : n_s < ni → (x1_s + 1).toInt = ((n_s + 1 : Nat) : Int) := fun w_s => by
      rw [in1_ (by omega), e1_s]
      omega
    refine sg_30_11 (h_s := (h_s.1, f_s, h_s.2.2.1, h_s.2.2.2)) hk ?_
    dsimp only
    rw [ez1, e77, e76, hc_s.2.1.1, hc_s.2.1.2.1, e20, e1_s]
    refine ⟨fun c1_s => fun c2_s => ?_, fun c1_s => ?_⟩
    · have hn1 : n_s < ni := by omega
      have bd := tC_hd hc_s hn1
      rw [← bd.1] at bd
      have hdn : hdC f0_s n_s = (f0_s (20 + n_s) 6).toInt := rfl
      refine ⟨fun c3_s => ?_, fun c3_s => ⟨fun c4_s => fun c5_s => ⟨fun c6_s => ?_, fun c6_s => ?_⟩, fun c4_s => absurd (show (f0_s (20 + n_s) 6).toInt < (nh : Int) by omega) c4_s⟩⟩
      · refine c11 hk hc_s t1_s t0_s F_s (n_s + 1) (x1_s + 1) _ l3 f_s g_s (e5_s hn1) (by omega) (fun i_s j_s hi1 hj1 h0 he => ?_) (fun p_s hp => ?_)
        · by_cases ei : i_s = n_s
          · rw [ei] at h0
            omega
          · by_cases ej : j_s = n_s
            · rw [ej] at he
              omega
            · exact hi_s i_s j_s (by omega) (by omega) h0 he
        · rcases hh p_s hp with u_s | ⟨i_s, u1_s, u2_s, u3⟩
          · refine Or.inl ⟨u_s.1, fun i_s hi1 => ?_⟩
            by_cases ei : i_s = n_s
            · rw [ei]
              omega
            · exact u_s.2 i_s (by omega)
          · exact Or.inr ⟨i_s, by omega, u2_s, u3⟩
      · have z6 := azix (i := f0_s (20 + n_s) 6) (by omega)
        have hz : hdC f0_s n_s = (zix (f0_s (20 + n_s) 6) : Int) := by omega
        generalize zix (f0_s (20 + n_s) 6) = p0_s at c5_s c6_s hz
        have nn : ∀ i_s, i_s < n_s → ¬ hdC f0_s i_s = (p0_s : Int) := by
          rcases hh p0_s c5_s with u_s | ⟨i_s, u1_s, u2_s, u3⟩
          · exact u_s.2
          · omega
        refine c11 hk hc_s t1_s t0_s F_s (n_s + 1) (x1_s + 1) _ l3 _ (fun a_s k_s w_s => by rw [zne_up (by omega)]; exact g_s a_s k_s w_s) (e5_s hn1) (by omega) (fun i_s j_s hi1 hj1 h0 he => ?_) (fun p_s hp => ?_)
        · by_cases ei : i_s = n_s
          · by_cases ej : j_s = n_s
            · rw [ei, ej]
            · rw [ei, hz] at he
              exact absurd he.symm (nn j_s (by omega))
          · by_cases ej : j_s = n_s
            · rw [ej, hz] at he
              exact absurd he (nn i_s (by omega))
            · exact hi_s i_s j_s (by omega) (by omega) h0 he
        · by_cases ep : p_s = p0_s
          · refine Or.inr ⟨n_s, by omega, by rw [ep]; exact hz, ?_⟩
            rw [ep, zsame_up]
            exact e1_s
          · rw [zne_up (by omega)]
            rcases hh p_s hp with u_s | ⟨i_s, u1_s, u2_s, u3⟩
            · refine Or.inl ⟨u_s.1, fun i_s hi1 => ?_⟩
              by_cases ei : i_s = n_s
              · rw [ei, hz]
                omega
              · exact u_s.2 i_s (by omega)
            · exact Or.inr ⟨i_s, by omega, u2_s, u3⟩
      · have z6 := azix (i := f0_s (20 + n_s) 6) (by omega)
        have hz : hdC f0_s n_s = (zix (f0_s (20 + n_s) 6) : Int) := by omega
        generalize zix (f0_s (20 + n_s) 6) = p0_s at c5_s c6_s hz
        refine t0_s (fun s_s => ?_) f_s g_s
        rcases hh p0_s c5_s with u_s | ⟨i_s, u1_s, u2_s, u3⟩
        · exact c6_s u_s.1
        · have := s_s.1 i_s n_s (by omega) hn1 (by omega) (by omega)
          omega
    · have en : n_s = ni := by omega
      subst en
      exact (c_all hk hc_s t1_s t0_s F_s).1 0 l2 l3 0 f_s g_s hi_s hh rfl (Nat.zero_le _) (fun q_s d_s hq _ => absurd hq (Nat.not_lt_zero q_s))
theorem sp_30 {F_s : Nat} (hk : hKn h_s) (hc_s : tC nh ni nr f0_s) (t1_s : stS nh ni (kyI f0_s) (hkI f0_s) (hdC f0_s) → ∀ f1_s, (∀ a_s k_s, ¬ (a_s = 12 ∧ k_s < 6) → f1_s a_s k_s = f0_s a_s k_s) → K_s 1 (h_s.1, f1_s, h_s.2.2.1, h_s.2.2.2)) (t0_s : ¬ stS nh ni (kyI f0_s) (hkI f0_s) (hdC f0_s) → ∀ f1_s, (∀ a_s k_s, ¬ (a_s = 12 ∧ k_s < 6) → f1_s a_s k_s = f0_s a_s k_s) → K_s 0 (h_s.1, f1_s, h_s.2.2.1, h_s.2.2.2)) : wF F_s 30 (0, [some (.ref 7), none, none, none], [], (h_s.1, f0_s, h_s.2.2.1, h_s.2.2.2)) (gI K_s) := by
  refine wF_le (Nat.le_succ F_s) (sg_30_0 (h_s := (h_s.1, f0_s, h_s.2.2.1, h_s.2.2.2)) hk ?_)
  refine wF_le (Nat.le_succ F_s) (sg_240_0 (h_s := (h_s.1, f0_s, h_s.2.2.1, h_s.2.2.2)) hk ?_)
  refine fl240 (f0_s := f0_s) hk rfl (fun f1_s g1 g2 hk1 => ?_) F_s 0 0 f0_s rfl (by omega) (fun k_s hq => absurd hq (Nat.not_lt_zero k_s)) (fun _ _ _ => rfl)
  exact c11 (h_s := (h_s.1, f1_s, h_s.2.2.1, h_s.2.2.2)) (f0_s := f0_s) hk1 hc_s t1_s t0_s F_s 0 0 none none f1_s g2 rfl (Nat.zero_le _) (fun i_s j_s hi_s _ _ _ => absurd hi_s (Nat.not_lt_zero i_s)) (fun p_s hp => Or.inl ⟨by rw [g1 p_s hp]; rfl, fun i_s hi_s => absurd hi_s (Nat.not_lt_zero i_s)⟩)
end SE_s
