/-! EDGE: the pair. -/
def okE (ni : Nat) (x1_s x2_s x3 : Int32) : Prop := okD x1_s ∧ (0 ≤ x2_s.toInt ∧ x2_s.toInt < (ni : Int)) ∧ 0 ≤ x3.toInt ∧ x3.toInt ≤ 1
section EP_s
variable {h_s : zH} {x1_s x2_s x3 : Int32}
theorem pr_edge {F_s : Nat} (hk : hKn h_s) (hs : tS h_s) (hx : tX h_s) : wF F_s 111 (0, [some (.ref 6), some (.int x1_s), some (.int x2_s), some (.int x3), none, none, none, none, none], [], h_s) (gI (fun v_s h1 => wF F_s 206 (0, [some (.ref 102), some (.int x1_s), some (.int x2_s), some (.int x3), none, none, none, none], [], h1) (gI (fun v2 h2 => v_s = v2 ∧ tX h2)))) := by
  obtain ⟨nh, ni, nr, hc_s, hh, hi_, hd_s, hz, hl⟩ := hx
  have hx : tX h_s := ⟨nh, ni, nr, hc_s, hh, hi_, hd_s, hz, hl⟩
  obtain ⟨q_s, q2_s, lw, l1, l2, l3, l4, l5⟩ := hl
  have hm_s : q_s = 14 ∨ q_s = 17 := by omega
  have m0_s := tC_M hc_s
  have b_s := hc_s.1
  have e77 := hc_s.2.1.2.1
  have e78 := hc_s.2.1.2.2
  have e27_s := sb1 m0_s.2.1.2.1
  have n1_s : (-1 : Int32).toInt = -1 := rfl
  have rf1 : ¬ okE ni x1_s x2_s x3 → wF F_s 206 (0, [some (.ref 102), some (.int x1_s), some (.int x2_s), some (.int x3), none, none, none, none], [], h_s) (gI (fun v2 h2 => (-1 : Int32) = v2 ∧ tX h2)) := fun w_s => by
    have w_s : ¬ (okD x1_s ∧ (0 ≤ x2_s.toInt ∧ x2_s.toInt < (ni : Int)) ∧ 0 ≤ x3.toInt ∧ x3.toInt ≤ 1) := w_s
    refine wF_le (Nat.le_succ F_s) (sg_206_0 (h_s := h_s) hk ?_)
    refine sp_203 hk (fun _ _ => ⟨fun _ => ⟨rfl, hx⟩, fun c_s => absurd n1_s c_s⟩) (fun ok_s nz v1_s ev1 _ => ⟨fun c_s => ?_, fun _ => ?_⟩) (fun ok_s ez _ => ⟨fun c_s => absurd c_s (by decide), fun _ => ?_⟩)
    · have := rwE_v h_s.2.1 x1_s
      omega
    · rw [e27_s]
      exact ⟨fun _ => ⟨rfl, hx⟩, fun c2_s => ⟨fun _ => ⟨rfl, hx⟩, fun c3_s => ⟨fun _ => ⟨rfl, hx⟩, fun c4_s => ⟨fun _ => ⟨rfl, hx⟩, fun c5_s => absurd ⟨ok_s, ⟨by omega, by omega⟩, by omega, by omega⟩ w_s⟩⟩⟩⟩
    · rw [e27_s]
      exact ⟨fun _ => ⟨rfl, hx⟩, fun c2_s => ⟨fun _ => ⟨rfl, hx⟩, fun c3_s => ⟨fun _ => ⟨rfl, hx⟩, fun c4_s => ⟨fun _ => ⟨rfl, hx⟩, fun c5_s => absurd ⟨ok_s, ⟨by omega, by omega⟩, by omega, by omega⟩ w_s⟩⟩⟩⟩
  have rf2 : okE ni x1_s x2_s x3 → ¬ rwE h_s.2.1 x1_s = 0 → ∀ v_s : Int32, v_s.toInt = rwE h_s.2.1 x1_s → wF F_s 206 (0, [some (.ref 102), some (.int x1_s), some (.int x2_s), some (.int x3), none, none, none, none], [], h_s) (gI (fun v2 h2 => v_s = v2 ∧ tX h2)) := fun oE nz v_s ev_s => by
    obtain ⟨ok_s, ⟨i0_s, i1_s⟩, j0, j1⟩ := oE
    have rv_s := rwE_v h_s.2.1 x1_s
    refine wF_le (Nat.le_succ F_s) (sg_206_0 (h_s := h_s) hk ?_)
    refine sp_203 hk (fun w_s => absurd ok_s w_s) (fun _ _ v1_s ev1 _ => ⟨fun c_s => ?_, fun _ => ?_⟩) (fun _ ez => absurd ez nz)
    · omega
    · rw [e27_s]
      refine ⟨fun c_s => absurd c_s (by omega), fun _ => ⟨fun c_s => absurd c_s (by omega), fun _ => ⟨fun c_s => absurd c_s (by omega), fun _ => ⟨fun c_s => absurd c_s (by omega), fun _ => ?_⟩⟩⟩⟩
      exact sp_203 hk (fun w_s => absurd ok_s w_s) (fun _ _ v5 ev5 _ => ⟨fun _ => sp_203 hk (fun w_s => absurd ok_s w_s) (fun _ _ v7 ev7 _ => ⟨Int32.toInt_inj.mp (ev_s.trans ev7.symm), hx⟩) (fun _ ez => absurd ez nz), fun c_s => absurd (show v5.toInt < 0 by omega) c_s⟩) (fun _ ez => absurd ez nz)
  have no_s : ¬ okE ni x1_s x2_s x3 → wF F_s 206 (0, [some (.ref 102), some (.int x1_s), some (.int x2_s), some (.int x3), none, none, none, none], [], h_s) (gI (fun v2 h2 => (-1 : Int32) = v2 ∧ tX h2)) := rf1
  unfold okE okD at no_s
  refine wF_le (Nat.le_succ F_s) (sg_111_0 (h_s := h_s) hk ?_)
  rw [e77]
  refine ⟨fun c1_s => no_s (by omega), fun c1_s => ⟨fun c2_s => no_s (by omega), fun c2_s => ⟨fun c3_s => ⟨fun c4_s => no_s (by omega), fun c4_s => ⟨fun c5_s => ⟨fun c6_s => no_s (by omega), fun c6_s => ⟨fun c7_s => ⟨fun c8_s => no_s (by omega), fun c8_s => ⟨fun c9_s => no_s (by omega), fun c9_s => fun c10_s => ?_⟩⟩, fun c7_s => no_s (by omega)⟩⟩, fun c5_s => no_s (by omega)⟩⟩, fun c3_s => no_s (by omega)⟩⟩⟩
  have ok_s : okD x1_s := by
    unfold okD
    omega
  have rf2 := rf2 ⟨ok_s, ⟨by omega, c7_s⟩, by omega, by omega⟩
  have z1 := azix (i := x1_s / 10) (by omega)
  have z2 := azix (i := x1_s - x1_s / 10 * 10) (by omega)
  have ts1 := (hs.1 (zix (x1_s / 10)) c10_s).1
  refine sp_140 hk c10_s ts1 (fun v11 e11_s _ => ⟨fun c11_s => fun c12_s => ?_, fun c11_s => ?_⟩)
  · have r0 : rfB h_s.2.1 (zix (x1_s / 10)) = 0 := by omega
    have rw2 : rwE h_s.2.1 x1_s = rfB h_s.2.1 (zix (x1_s - x1_s / 10 * 10)) := if_pos r0
    rw [rw2] at rf2
    have ts2 := (hs.1 (zix (x1_s - x1_s / 10 * 10)) c12_s).1
    refine sp_140 hk c12_s ts2 (fun v14 e14_s _ => ⟨fun c14_s => ?_, fun c14_s => rf2 (by omega) v14 e14_s⟩)
    have r2 : rfB h_s.2.1 (zix (x1_s - x1_s / 10 * 10)) = 0 := by omega
    have rz : rwE h_s.2.1 x1_s = 0 := rw2.trans r2
    obtain ⟨a1_s, a2, a3⟩ := row_of ts1 r0
    obtain ⟨b1, b2, b3⟩ := row_of ts2 r2
    have g1 := (hs.1 (zix (x1_s / 10)) c10_s).2
    have g2 := (hs.1 (zix (x1_s - x1_s / 10 * 10)) c12_s).2
    refine sp_48 (f0_s := h_s.2.1) (nr := nr) hk c10_s e78 a2 (fun L_s f1_s hJ eL es fr1 hk1 => ?_)
    have hi_s : x2_s.toInt.toNat < ni := by omega
    have ei : x2_s.toInt = (x2_s.toInt.toNat : Int) := by omega
    have z12 : zix (12 + x2_s) = 12 + x2_s.toInt.toNat := zxa (c_s := 12) (a_s := 12) rfl ei (by omega)
    have z20 : zix (20 + x2_s) = 20 + x2_s.toInt.toNat := zxa (c_s := 20) (a_s := 20) rfl ei (by omega)
    generalize x2_s.toInt.toNat = i_s at hi_s ei z12 z20
    have hJ2 : isJ nr (fun k_s => h_s.2.2.1 126 (60 * zix (x1_s / 10) + k_s)) (h_s.2.1 125 (zix (x1_s / 10))).toInt L_s := by
      rw [a1_s]
      exact isJ_c (fun k_s hk60 => (g1 k_s hk60).symm) hJ
    have hc1 : tC nh ni nr f1_s := tC_fr (fun a_s k_s w_s => fr1 a_s k_s (by unfold inC at w_s; omega) (by unfold inC at w_s; omega)) hc_s
    have lc1 : lawC q_s f1_s lw := lawC_fr hm_s (fun a_s k_s w_s => fr1 a_s k_s (by omega) (by omega)) l4
    have e3_s : f1_s (76 + 2 * zix (x1_s - x1_s / 10 * 10)) 3 = h_s.2.1 (76 + 2 * zix (x1_s - x1_s / 10 * 10)) 3 := fr1 _ _ (by omega) (by omega)
    have go_s : ∀ (j_s d_s : Nat) (x4_s x5_s : Int32), j_s < 2 → x3.toInt = (j_s : Int) → x5_s.toInt = mxw (j_s + 2) → ((0 + d_s : Nat) : Int) = mxw (j_s + 2) + 1 → wF F_s 111 (84, [some (.ref 6), some (.int x1_s), some (.int x2_s), some (.int x3), some (.int x4_s), some (.int x5_s), some (.int 0), some (.int 0), none], [], (h_s.1, f1_s, h_s.2.2.1, h_s.2.2.2)) (gI (fun v_s h1 => wF F_s 206 (0, [some (.ref 102), some (.int x1_s), some (.int x2_s), some (.int x3), none, none, none, none], [], h1) (gI (fun v2 h2 => v_s = v2 ∧ tX h2)))) := fun j_s d_s x4_s x5_s hj ej e5_s ed => by
      refine e111 (h_s := (h_s.1, f1_s, h_s.2.2.1, h_s.2.2.2)) (f0_s := f1_s) (L_s := L_s) (i_s := i_s) (j_s := j_s) (c_s := fun k_s => h_s.2.2.1 126 (60 * zix (x1_s / 10) + k_s)) (told_s := fun n_s => h_s.2.2.1 126 (60 * zix (x1_s - x1_s / 10 * 10) + n_s)) (W_s := fun v_s => ffR (goJ lw h_s.2.1 (fun k_s => h_s.2.2.1 126 (60 * zix (x1_s / 10) + k_s))) (fun n_s => h_s.2.2.1 126 (60 * zix (x1_s - x1_s / 10 * 10) + n_s)) L_s (h_s.2.1 (76 + 2 * zix (x1_s - x1_s / 10 * 10)) 3).toInt.toNat 0 (oset (owI h_s.2.1 i_s) j_s v_s)) hk1 l1 hm_s lc1 (lawR_P l5) hc1 hi_s ei hj ej e5_s eL (fun k_s hkL => ?_) hJ2.2.2.1 (fun n_s hn60 => g2 n_s hn60) (by rw [e3_s]; exact b2) (by rw [e3_s]; exact b3) (fun v_s => ?_) (fun f2_s fr2 => ?_) F_s 0 d_s 0 0 none f1_s (fun _ _ _ _ _ _ _ => rfl) rfl ed rfl
      · rw [es k_s hkL]
        have := hJ.1
        rw [g1 k_s (by omega)]
      · rw [goJ_fr (f_s := h_s.2.1) (fun k_s => fr1 103 k_s (by omega) (by omega)), owI_fr (f_s := h_s.2.1) (fun k_s => fr1 103 k_s (by omega) (by omega)), e3_s]
      · have fr4 : ∀ a_s k_s, 100 ≤ a_s → f2_s a_s k_s = h_s.2.1 a_s k_s := fun a_s k_s ha_s => by
          rw [fr2 a_s k_s (by omega) (by omega) (by omega) (by omega) (by omega)]
          exact fr1 a_s k_s (by omega) (by omega)
        have m2_s : tM nh ni nr f2_s := tM_fr (fun k_s _ _ => fr4 _ _ (by omega)) (fun k_s _ => fr4 _ _ (by omega)) m0_s
        have lr2 : lawR f2_s lw := lawR_fr (fr4 _ _ (by omega)) (fun k_s _ => fr4 _ _ (by omega)) l5
        have e272 := sb1 m2_s.2.1.2.1
        have rz2 : rwE f2_s x1_s = 0 := (rwE_fr (fun k_s => fr4 124 k_s (by omega))).trans rz
        refine wF_le (Nat.le_succ F_s) (sg_206_0 (h_s := (h_s.1, f2_s, h_s.2.2.1, h_s.2.2.2)) hk ?_)
        refine sp_203 (h_s := (h_s.1, f2_s, h_s.2.2.1, h_s.2.2.2)) hk (fun w_s => absurd ok_s w_s) (fun _ nz => absurd rz2 nz) (fun _ _ _ => ⟨fun c_s => absurd c_s (by decide), fun _ => ?_⟩)
        dsimp only
        rw [e272]
        refine ⟨fun c_s => absurd c_s (by omega), fun _ => ⟨fun c_s => absurd c_s (by omega), fun _ => ⟨fun c_s => absurd c_s (by omega), fun _ => ⟨fun c_s => absurd c_s (by omega), fun _ => ?_⟩⟩⟩⟩
        refine sp_203 (h_s := (h_s.1, f2_s, h_s.2.2.1, h_s.2.2.2)) hk (fun w_s => absurd ok_s w_s) (fun _ nz => absurd rz2 nz) (fun _ _ _ => ⟨fun c_s => absurd c_s (by decide), fun _ => ?_⟩)
        have go2 : ∀ (x4_s : Int32), zix x4_s = 12 + 8 * j_s + i_s → wF F_s 206 (74, [some (.ref 102), some (.int x1_s), some (.int x2_s), some (.int x3), some (.int x4_s), some (.int (f2_s 103 (zix x4_s))), some (.int 0), some (.int 0)], [], (h_s.1, f2_s, h_s.2.2.1, h_s.2.2.2)) (gI (fun v2 h2 => edR (fun v_s => ffR (goJ lw h_s.2.1 (fun k_s => h_s.2.2.1 126 (60 * zix (x1_s / 10) + k_s))) (fun n_s => h_s.2.2.1 126 (60 * zix (x1_s - x1_s / 10 * 10) + n_s)) L_s (h_s.2.1 (76 + 2 * zix (x1_s - x1_s / 10 * 10)) 3).toInt.toNat 0 (oset (owI h_s.2.1 i_s) j_s v_s)) d_s 0 0 = v2 ∧ tX h2)) := fun x4_s e4_s => by
          refine e206 (h_s := (h_s.1, f2_s, h_s.2.2.1, h_s.2.2.2)) (f0_s := f2_s) (L_s := L_s) (i_s := i_s) (j_s := j_s) (s1_s := zix (x1_s / 10)) (s2_s := zix (x1_s - x1_s / 10 * 10)) (c_s := fun k_s => h_s.2.2.1 126 (60 * zix (x1_s / 10) + k_s)) (told_s := fun n_s => h_s.2.2.1 126 (60 * zix (x1_s - x1_s / 10 * 10) + n_s)) (W_s := fun v_s => ffR (goJ lw h_s.2.1 (fun k_s => h_s.2.2.1 126 (60 * zix (x1_s / 10) + k_s))) (fun n_s => h_s.2.2.1 126 (60 * zix (x1_s - x1_s / 10 * 10) + n_s)) L_s (h_s.2.1 (76 + 2 * zix (x1_s - x1_s / 10 * 10)) 3).toInt.toNat 0 (oset (owI h_s.2.1 i_s) j_s v_s)) hk m2_s lr2 (lawR_P l5) hj ei hi_s ej e4_s (by rw [e4_s]) z1.symm z2.symm c10_s c12_s (by rw [fr4 125 _ (by omega), a1_s]; exact a2) (by rw [fr4 125 _ (by omega), b1]; exact b2) (by rw [fr4 125 _ (by omega), b1]; exact b3) (fun _ => rfl) (fun _ => rfl) (by rw [fr4 125 _ (by omega)]; exact hJ2) (fun v_s => ?_) (fun f3_s fr3 => ⟨rfl, ?_⟩) F_s 0 d_s 0 0 f2_s rfl ed rfl (fun _ _ _ _ _ _ => rfl)
          · rw [goJ_fr (f_s := h_s.2.1) (fun k_s => fr4 103 k_s (by omega)), owI_fr (f_s := h_s.2.1) (fun k_s => fr4 103 k_s (by omega)), fr4 125 _ (by omega), b1]
          · refine tX_fr (h_s := h_s) (h1 := (h_s.1, f3_s, h_s.2.2.1, h_s.2.2.2)) (fun _ => rfl) (fun o k_s w_s => ?_) hx
            have n_s : (¬ o = 111 ∧ ¬ o = 112 ∧ ¬ (o = 102 ∧ (15 ≤ k_s ∧ k_s ≤ 19 ∨ k_s = 22 ∨ k_s = 23))) ∧ (¬ o = 13 ∧ ¬ o = 16 ∧ ¬ o = 19 ∧ ¬ o = 88 ∧ ¬ o = 50 ∧ ¬ o = 51) := by
              unfold inX inC inH inI inD inZ inW at w_s
              omega
            show f3_s o k_s = h_s.2.1 o k_s
            rw [fr3 o k_s n_s.1.1 n_s.1.2.1 n_s.1.2.2, fr2 o k_s n_s.2.1 n_s.2.2.1 n_s.2.2.2.1 (fun u_s => n_s.2.2.2.2.1 u_s.1) (fun u_s => n_s.2.2.2.2.2.1 u_s.1)]
            exact fr1 o k_s (fun u_s => n_s.2.2.2.2.2.1 u_s.1) n_s.2.2.2.2.2.2
        refine ⟨fun w0_s => fun _ => ?_, fun w0_s => fun _ => ?_⟩
        · exact go2 (12 + x2_s) (by omega)
        · exact go2 (20 + x2_s) (by omega)
    refine ⟨fun w0_s => ?_, fun w0_s => ?_⟩
    · exact go_s 0 4 v14 3 (by omega) (by omega) rfl rfl
    · exact go_s 1 6 v14 5 (by omega) (by omega) rfl rfl
  · have e_s : rwE h_s.2.1 x1_s = rfB h_s.2.1 (zix (x1_s / 10)) := if_neg (by omega)
    rw [e_s] at rf2
    exact rf2 (by omega) v11 e11_s
end EP_s
