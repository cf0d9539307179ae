/-! THE CLASS READS A TEXT: leaves. -/
def tkF (f_s : Nat → Nat → Int32) (a_s : Nat) : Int := if (a_s : Int) < (f_s 40 1).toInt then (f_s 41 a_s).toInt else -1
theorem tkF_eq {f_s f1_s : Nat → Nat → Int32} (h1 : f1_s 40 1 = f_s 40 1) (h2 : ∀ k_s, f1_s 41 k_s = f_s 41 k_s) : tkF f1_s = tkF f_s := by
  funext a_s
  unfold tkF
  rw [h1, h2]
section LT
variable {F_s : Nat} {h_s : zH} {K_s : Int32 → zH → Prop} {V : zH → Prop} {x1_s x2_s : Int32} {q_s a_s n_s len_s : Nat}
theorem sp_68 (hk : hKn h_s) (ha_s : (h_s.2.1 40 2).toInt = (a_s : Int)) (t_s : ∀ v_s, v_s.toInt = tkF h_s.2.1 a_s → K_s v_s h_s) : wF F_s 68 (0, [some (.ref 40)], [], h_s) (gI K_s) := by
  have z_s := azix (i := h_s.2.1 40 2) (by omega)
  have z1 : zix (h_s.2.1 40 2) = a_s := by omega
  refine wF_le (Nat.le_succ F_s) (sg_68_0 hk ⟨fun c1_s => fun c2_s => ?_, fun c1_s => ?_⟩)
  · rw [z1]
    exact t_s _ (by unfold tkF; rw [if_pos (by omega)])
  · exact t_s _ (by unfold tkF; rw [if_neg (by omega)]; rfl)
theorem sp_69 (hk : hKn h_s) (ha_s : (h_s.2.1 40 2).toInt = (a_s : Int)) (hb_s : a_s ≤ 1000) (t1_s : tkF h_s.2.1 a_s = x1_s.toInt → ∀ f1_s, (f1_s 40 2).toInt = ((a_s + 1 : Nat) : Int) → (∀ o k_s, ¬ (o = 40 ∧ k_s = 2) → f1_s o k_s = h_s.2.1 o k_s) → K_s 1 (h_s.1, f1_s, h_s.2.2.1, h_s.2.2.2)) (t2_s : ¬ tkF h_s.2.1 a_s = x1_s.toInt → K_s 0 h_s) : wF F_s 69 (0, [some (.ref 40), some (.int x1_s)], [], h_s) (gI K_s) := by
  refine wF_le (Nat.le_succ F_s) (sg_69_0 hk (sp_68 hk ha_s (fun v_s hv _ => ⟨fun c_s => t1_s (by omega) _ ?_ ?_, fun c_s => t2_s (by omega)⟩)))
  · rw [zsame_up, in1_ (by omega)]
    omega
  · intro o k_s hq
    rw [zne_up hq]
theorem sp_70 (hk : hKn h_s) (t1_s : ¬ (48 ≤ x1_s.toInt ∧ x1_s.toInt ≤ 57) → K_s 0 h_s) (t2_s : 48 ≤ x1_s.toInt ∧ x1_s.toInt ≤ 57 → K_s 1 h_s) : wF F_s 70 (0, [some (.int x1_s)], [], h_s) (gI K_s) := wF_le (Nat.le_succ F_s) (sg_70_0 hk ⟨fun c1_s => t1_s (by omega), fun c1_s => ⟨fun c2_s => t1_s (by omega), fun c2_s => t2_s (by omega)⟩⟩)
theorem sp_71 (hk : hKn h_s) (t_s : ∀ v_s, v_s.toInt = nmo x1_s.toInt → K_s v_s h_s) : wF F_s 71 (0, [some (.int x1_s)], [], h_s) (gI K_s) := by
  refine wF_le (Nat.le_succ F_s) (sg_71_0 hk ⟨fun c1_s => ?_, fun c1_s => ⟨fun c2_s => ?_, fun c2_s => ⟨fun c3_s => ?_, fun c3_s => ⟨fun c4_s => ?_, fun c4_s => ⟨fun c5_s => ?_, fun c5_s => ⟨fun c6_s => ?_, fun c6_s => ⟨fun c7_s => ?_, fun c7_s => ⟨fun c8_s => ?_, fun c8_s => ⟨fun c9_s => ?_, fun c9_s => ⟨fun c10_s => ?_, fun c10_s => ⟨fun c11_s => ?_, fun c11_s => ⟨fun c12_s => ?_, fun c12_s => ⟨fun c13_s => ?_, fun c13_s => ⟨fun c14_s => ?_, fun c14_s => ⟨fun c15_s => ?_, fun c15_s => ⟨fun c16 => ?_, fun c16 => ⟨fun c17 => ?_, fun c17 => ⟨fun c18_s => ?_, fun c18_s => ?_⟩⟩⟩⟩⟩⟩⟩⟩⟩⟩⟩⟩⟩⟩⟩⟩⟩⟩)
  · exact t_s _ (by rw [c1_s]; decide)
  · exact t_s _ (by rw [c2_s]; decide)
  · exact t_s _ (by rw [c3_s]; decide)
  · exact t_s _ (by rw [c4_s]; decide)
  · exact t_s _ (by rw [c5_s]; decide)
  · exact t_s _ (by rw [c6_s]; decide)
  · exact t_s _ (by rw [c7_s]; decide)
  · exact t_s _ (by rw [c8_s]; decide)
  · exact t_s _ (by rw [c9_s]; decide)
  · exact t_s _ (by rw [c10_s]; decide)
  · exact t_s _ (by rw [c11_s]; decide)
  · exact t_s _ (by rw [c12_s]; decide)
  · exact t_s _ (by rw [c13_s]; decide)
  · exact t_s _ (by rw [c14_s]; decide)
  · exact t_s _ (by rw [c15_s]; decide)
  · exact t_s _ (by rw [c16]; decide)
  · exact t_s _ (by rw [c17]; decide)
  · exact t_s _ (by rw [c18_s]; decide)
  · exact t_s _ (by unfold nmo; rw [if_neg (by omega), if_neg (by omega), if_neg (by omega), if_neg (by omega), if_neg (by omega), if_neg (by omega)]; rfl)
theorem sp_72 (hk : hKn h_s) (t_s : ∀ v_s, v_s.toInt = lvl x1_s.toInt → K_s v_s h_s) : wF F_s 72 (0, [some (.int x1_s)], [], h_s) (gI K_s) := by
  refine wF_le (Nat.le_succ F_s) (sg_72_0 hk ⟨fun c1_s => ?_, fun c1_s => ⟨fun c2_s => ?_, fun c2_s => ⟨fun c3_s => ?_, fun c3_s => ⟨fun c4_s => ?_, fun c4_s => ⟨fun c5_s => ?_, fun c5_s => ⟨fun c6_s => ?_, fun c6_s => ⟨fun c7_s => ?_, fun c7_s => ⟨fun c8_s => ?_, fun c8_s => ⟨fun c9_s => ?_, fun c9_s => ⟨fun c10_s => ?_, fun c10_s => ?_⟩⟩⟩⟩⟩⟩⟩⟩⟩⟩)
  · exact t_s _ (by rw [c1_s]; decide)
  · exact t_s _ (by rw [c2_s]; decide)
  · exact t_s _ (by rw [c3_s]; decide)
  · exact t_s _ (by rw [c4_s]; decide)
  · exact t_s _ (by rw [c5_s]; decide)
  · exact t_s _ (by rw [c6_s]; decide)
  · exact t_s _ (by rw [c7_s]; decide)
  · exact t_s _ (by rw [c8_s]; decide)
  · exact t_s _ (by rw [c9_s]; decide)
  · exact t_s _ (by rw [c10_s]; decide)
  · exact t_s _ (by unfold lvl; rw [if_neg (by omega), if_neg (by omega), if_neg (by omega), if_neg (by omega), if_neg (by omega)]; rfl)
theorem sp_54 (hm_s : q_s = 14 ∨ q_s = 17) (hk : hKn h_s) (hl : (h_s.2.1 q_s 2).toInt = (len_s : Int)) (hb_s : len_s < 242) (t_s : ∀ f1_s, f1_s (q_s + 1) len_s = x1_s → (f1_s q_s 2).toInt = ((len_s + 1 : Nat) : Int) → (∀ o k_s, ¬ (o = q_s + 1 ∧ k_s = len_s) → ¬ (o = q_s ∧ k_s = 2) → f1_s o k_s = h_s.2.1 o k_s) → V (h_s.1, f1_s, h_s.2.2.1, h_s.2.2.2)) : wF F_s 54 (0, [some (.ref q_s), some (.int x1_s)], [], h_s) (gV V) := by
  have z_s := azix (i := h_s.2.1 q_s 2) (by omega)
  have z1 : zix (h_s.2.1 q_s 2) = len_s := by omega
  refine wF_le (Nat.le_succ F_s) (sg_54_0 hm_s hk ⟨fun c1_s => fun c2_s => t_s _ ?_ ?_ ?_, fun c1_s => absurd hb_s (by omega)⟩)
  · rw [z1, zne_up (by omega), zsame_up]
  · rw [zsame_up, zne_up (by omega), in1_ (by omega)]
    omega
  · intro o k_s h1 h2
    rw [zne_up h2, z1, zne_up h1]
theorem sp_55 (hm_s : q_s = 14 ∨ q_s = 17) (hk : hKn h_s) (hl : (h_s.2.1 q_s 2).toInt = (len_s : Int)) (hb_s : len_s + 1 < 242) (t_s : ∀ f1_s, f1_s (q_s + 1) len_s = 109 → f1_s (q_s + 1) (len_s + 1) = x1_s → (f1_s q_s 2).toInt = ((len_s + 2 : Nat) : Int) → f1_s q_s 0 = (if x1_s.toInt = 1 then 1 else h_s.2.1 q_s 0) → (∀ o k_s, ¬ (o = q_s + 1 ∧ len_s ≤ k_s) → ¬ (o = q_s ∧ k_s ≤ 2) → f1_s o k_s = h_s.2.1 o k_s) → V (h_s.1, f1_s, h_s.2.2.1, h_s.2.2.2)) : wF F_s 55 (0, [some (.ref q_s), some (.int x1_s)], [], h_s) (gV V) := by
  refine wF_le (Nat.le_succ F_s) (sg_55_0 hm_s hk (sp_54 (len_s := len_s) hm_s hk hl (by omega) (fun f1_s a1_s a2 a3 hk1 => ?_)))
  refine sp_54 (len_s := len_s + 1) hm_s hk1 a2 hb_s (fun f2_s b1 b2 b3 hk2 => ?_)
  have b3 : ∀ o k_s, ¬ (o = q_s + 1 ∧ k_s = len_s + 1) → ¬ (o = q_s ∧ k_s = 2) → f2_s o k_s = f1_s o k_s := b3
  refine ⟨fun c_s => t_s (zup f2_s q_s 0 1) ?_ ?_ ?_ ?_ ?_, fun c_s => t_s f2_s ?_ ?_ ?_ ?_ ?_⟩
  · rw [zne_up (by omega), b3 _ _ (by omega) (by omega)]
    exact a1_s
  · rw [zne_up (by omega)]
    exact b1
  · rw [zne_up (by omega)]
    omega
  · rw [zsame_up, if_pos c_s]
  · intro o k_s h1 h2
    rw [zne_up (by omega), b3 _ _ (by omega) (by omega)]
    exact a3 _ _ (by omega) (by omega)
  · rw [b3 _ _ (by omega) (by omega)]
    exact a1_s
  · exact b1
  · omega
  · rw [if_neg c_s, b3 _ _ (by omega) (by omega)]
    exact a3 _ _ (by omega) (by omega)
  · intro o k_s h1 h2
    rw [b3 _ _ (by omega) (by omega)]
    exact a3 _ _ (by omega) (by omega)
end LT
/-- digits -/
theorem pdg_le {tk : Nat → Int} {n_s : Nat} (hn : ∀ k_s, n_s ≤ k_s → tk k_s = -1) : ∀ (k_s a_s : Nat) (v_s : Int32), a_s ≤ n_s → a_s ≤ (pdg tk k_s a_s v_s).1 ∧ (pdg tk k_s a_s v_s).1 ≤ n_s
  | 0, a_s, v_s, ha_s => ⟨Nat.le_refl a_s, ha_s⟩
  | k_s + 1, a_s, v_s, ha_s => by
    unfold pdg
    by_cases c_s : 48 ≤ tk a_s ∧ tk a_s ≤ 57
    · rw [if_pos c_s]
      have hl : a_s < n_s := by
        by_cases e_s : n_s ≤ a_s
        · have e1_s := hn a_s e_s
          omega
        · omega
      have ih_s := pdg_le hn k_s (a_s + 1) (v_s * 10 + Int32.ofInt (tk a_s) - 48) hl
      omega
    · rw [if_neg c_s]
      exact ⟨Nat.le_refl a_s, ha_s⟩
theorem pdg_lt {tk : Nat → Int} {n_s a_s k_s : Nat} {v_s : Int32} (hn : ∀ k_s, n_s ≤ k_s → tk k_s = -1) (ha_s : a_s ≤ n_s) (c_s : 48 ≤ tk a_s ∧ tk a_s ≤ 57) : a_s < (pdg tk (k_s + 1) a_s v_s).1 := by
  unfold pdg
  rw [if_pos c_s]
  have hl : a_s < n_s := by
    by_cases e_s : n_s ≤ a_s
    · have e1_s := hn a_s e_s
      omega
    · omega
  have ih_s := pdg_le hn k_s (a_s + 1) (v_s * 10 + Int32.ofInt (tk a_s) - 48) hl
  omega
theorem tkF_out {f_s : Nat → Nat → Int32} {n_s : Nat} (hn : (f_s 40 1).toInt = (n_s : Int)) : ∀ k_s, n_s ≤ k_s → tkF f_s k_s = -1 := by
  intro k_s hk
  unfold tkF
  rw [if_neg (by omega)]
theorem ofI_ {c_s : Int32} {z_s : Int} (hc_s : c_s.toInt = z_s) : Int32.ofInt z_s = c_s := by
  rw [← hc_s]
  exact Int32.ofInt_toInt c_s
theorem fin67 {F_s : Nat} {h_s : zH} {K_s : Int32 → zH → Prop} {q_s len_s a_s : Nat} {f_s f0_s : Nat → Nat → Int32} {v_s : Int32} (hm_s : q_s = 14 ∨ q_s = 17) (hk : hKn h_s) (hb_s : len_s + 1 < 242) (hl : (f_s q_s 2).toInt = (len_s : Int)) (ha_s : (f_s 40 2).toInt = (a_s : Int)) (hf : ∀ o k_s, ¬ (o = 40 ∧ k_s = 2) → f_s o k_s = f0_s o k_s) (t_s : ∀ f1_s, (f1_s 40 2).toInt = (a_s : Int) → f1_s (q_s + 1) len_s = 48 → f1_s (q_s + 1) (len_s + 1) = v_s → (f1_s q_s 2).toInt = ((len_s + 2 : Nat) : Int) → (∀ o k_s, ¬ (o = 40 ∧ k_s = 2) → ¬ (o = q_s + 1 ∧ len_s ≤ k_s) → ¬ (o = q_s ∧ k_s = 2) → f1_s o k_s = f0_s o k_s) → K_s 1 (h_s.1, f1_s, h_s.2.2.1, h_s.2.2.2)) : wF F_s 54 (0, [some (.ref q_s), some (.int 48)], [], (h_s.1, f_s, h_s.2.2.1, h_s.2.2.2)) (gV (fun h5 => hKn h5 → wF F_s 54 (0, [some (.ref q_s), some (.int v_s)], [], h5) (gV (fun h6 => hKn h6 → K_s 1 h6)))) := by
  refine sp_54 (h_s := (h_s.1, f_s, h_s.2.2.1, h_s.2.2.2)) (len_s := len_s) hm_s hk hl (by omega) (fun f1_s b1 b2 b3 hk1 => ?_)
  refine sp_54 (len_s := len_s + 1) hm_s hk1 b2 hb_s (fun f2_s d1_s d2_s d3_s _ => t_s f2_s ?_ ?_ ?_ ?_ ?_)
  · rw [d3_s 40 2 (by omega) (by omega)]
    show (f1_s 40 2).toInt = _
    rw [b3 40 2 (by omega) (by omega)]
    exact ha_s
  · rw [d3_s (q_s + 1) len_s (by omega) (by omega)]
    exact b1
  · exact d1_s
  · omega
  · intro o k_s h1 h2 h3
    rw [d3_s o k_s (by omega) (by omega)]
    show f1_s o k_s = _
    rw [b3 o k_s (by omega) (by omega)]
    exact hf o k_s h1
theorem num67 {h_s : zH} {K_s : Int32 → zH → Prop} {q_s len_s n_s a1_s : Nat} {v1_s : Int32} {tk : Nat → Int} {f0_s : Nat → Nat → Int32} (hm_s : q_s = 14 ∨ q_s = 17) (hk : hKn h_s) (hb_s : len_s + 1 < 242) (hn : n_s ≤ 120) (t_s : ∀ f1_s, (f1_s 40 2).toInt = (a1_s : Int) → f1_s (q_s + 1) len_s = 48 → f1_s (q_s + 1) (len_s + 1) = v1_s → (f1_s q_s 2).toInt = ((len_s + 2 : Nat) : Int) → (∀ o k_s, ¬ (o = 40 ∧ k_s = 2) → ¬ (o = q_s + 1 ∧ len_s ≤ k_s) → ¬ (o = q_s ∧ k_s = 2) → f1_s o k_s = f0_s o k_s) → K_s 1 (h_s.1, f1_s, h_s.2.2.1, h_s.2.2.2)) : ∀ (F_s k_s a_s : Nat) (v_s x3 : Int32) (f_s : Nat → Nat → Int32), x3.toInt = (k_s : Int) → k_s ≤ 4 → (f_s 40 2).toInt = (a_s : Int) → a_s ≤ n_s → (f_s 40 1).toInt = (n_s : Int) → tkF f_s = tk → (f_s q_s 2).toInt = (len_s : Int) → (∀ o k_s, ¬ (o = 40 ∧ k_s = 2) → f_s o k_s = f0_s o k_s) → pdg tk (4 - k_s) a_s v_s = (a1_s, v1_s) → wF F_s 67 (4, [some (.ref 40), some (.ref q_s), some (.int v_s), some (.int x3)], [], (h_s.1, f_s, h_s.2.2.1, h_s.2.2.2)) (gI K_s)
  | 0, _, _, _, _, _, _, _, _, _, _, _, _, _, _ => wF_zero
  | F_s + 1, k_s, a_s, v_s, x3, f_s, hx, h4, ha_s, han, hfn, htk, hl, hf, hp => by
    have ht : tk a_s = tkF f_s a_s := by rw [htk]
    refine sg_67_4 (h_s := (h_s.1, f_s, h_s.2.2.1, h_s.2.2.2)) hm_s hk ⟨fun c1_s => ?_, fun c1_s => ?_⟩
    · have e4_s : 4 - k_s = (4 - (k_s + 1)) + 1 := by omega
      rw [e4_s] at hp
      unfold pdg at hp
      refine sp_68 (h_s := (h_s.1, f_s, h_s.2.2.1, h_s.2.2.2)) hk ha_s (fun c_s hc_s _ => ?_)
      have hc_s : c_s.toInt = tkF f_s a_s := hc_s
      refine sp_70 (h_s := (h_s.1, f_s, h_s.2.2.1, h_s.2.2.2)) hk (fun d_s _ => ⟨fun _ => ?_, fun w_s => absurd rfl w_s⟩) (fun d_s _ => ⟨fun w_s => absurd w_s (by decide), fun _ => ?_⟩)
      · rw [if_neg (by omega)] at hp
        cases hp
        exact fin67 hm_s hk hb_s hl ha_s hf t_s
      · rw [if_pos (by omega)] at hp
        refine sp_68 (h_s := (h_s.1, f_s, h_s.2.2.1, h_s.2.2.2)) hk ha_s (fun c2_s hc2 _ => ?_)
        have hc2 : c2_s.toInt = tkF f_s a_s := hc2
        have hlt : a_s < n_s := by
          by_cases e_s : n_s ≤ a_s
          · have e1_s := tkF_out hfn a_s e_s
            omega
          · omega
        refine num67 (tk := tk) hm_s hk hb_s hn t_s F_s (k_s + 1) (a_s + 1) _ (x3 + 1) (zup f_s 40 2 (f_s 40 2 + 1)) ?_ (by omega) ?_ hlt ?_ ?_ ?_ ?_ ?_
        · rw [in1_ (by omega)]
          omega
        · rw [zsame_up, in1_ (by omega)]
          omega
        · rw [zne_up (by omega)]
          exact hfn
        · rw [← htk]
          exact tkF_eq (zne_up (by omega)) (fun j_s => zne_up (by omega))
        · rw [zne_up (by omega)]
          exact hl
        · intro o j_s hq
          rw [zne_up hq]
          exact hf o j_s hq
        · rw [ht, ofI_ hc2] at hp
          exact hp
    · have e4_s : 4 - k_s = 0 := by omega
      rw [e4_s] at hp
      have hp : (a_s, v_s) = (a1_s, v1_s) := hp
      cases hp
      exact fin67 hm_s hk hb_s hl ha_s hf t_s
