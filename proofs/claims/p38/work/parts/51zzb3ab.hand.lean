/-! ACTS: class and reference; how many of all. -/
/-- zix of a sum -/
theorem zxq {c_s x_s : Int32} {a_s r_s : Nat} (hc_s : c_s.toInt = (a_s : Int)) (hx : x_s.toInt = (r_s : Int)) (hb_s : a_s + r_s ≤ 3072) : zix (c_s + x_s) = a_s + r_s := by
  have e_s : (c_s + x_s).toInt = ((a_s + r_s : Nat) : Int) := by
    rw [na_add (by omega) (by omega)]
    omega
  have z_s := azix (i := c_s + x_s) (by omega)
  omega
abbrev acSt : Type := Int32 × (Nat → Int32)
def bdN (k_s : Nat) : Nat := (zget [1, 10, 11, 2, 20, 0, 0, 0, 0, 30, 0, 0, 0, 41, 40, 0, 0, 0, 50, 0, 0, 0, 0, 60, 70, 0, 0, 0, 0, 80, 0, 81] k_s).getD 0
def abI (k_s : Nat) : Int := (zget [-1, 0, 0, 2, 1, 3, 0, 4] k_s).getD 0
def psh (b_s : Nat) (s_s : acSt) : acSt := (s_s.1 + 1, if s_s.1.toInt < 24 then (fun k_s => if k_s = zix s_s.1 then Int32.ofNat b_s else s_s.2 k_s) else s_s.2)
def clA : Nat → Nat → Nat → Nat
  | 0, t_s, _ => t_s
  | d_s + 1, t_s, a_s => if 0 < t_s ∧ bdN (t_s * 4 + a_s) = 0 then clA d_s (abI t_s).toNat a_s else t_s
def acW (kd : Nat) (nm : Int32) (go_s : Nat → Nat → Int32 → acSt → Int32 × acSt) (b_s up_s : Nat) (x_s : Int32) (s_s : acSt) : Int32 × acSt :=
  if b_s = 1 then (x_s + nm, s_s)
  else if b_s = 2 then ((go_s kd 1 x_s s_s).1 - (go_s kd 2 1 (go_s kd 1 x_s s_s).2).1, (go_s kd 2 1 (go_s kd 1 x_s s_s).2).2)
  else if b_s = 10 then ((go_s kd 0 x_s s_s).1 * 2, (go_s kd 0 x_s s_s).2)
  else if b_s = 11 then (x_s ^^^ nm, s_s)
  else if b_s = 20 then ((go_s up_s 0 x_s s_s).1 + 3, (go_s up_s 0 x_s s_s).2)
  else if b_s = 30 then (-(go_s up_s 1 x_s s_s).1, (go_s up_s 1 x_s s_s).2)
  else if b_s = 40 then ((go_s up_s 2 x_s s_s).1 * 3, (go_s up_s 2 x_s s_s).2)
  else if b_s = 41 then go_s up_s 1 (x_s + 1) s_s
  else if b_s = 50 then ((go_s up_s 2 x_s s_s).1 - (go_s kd 0 2 (go_s up_s 2 x_s s_s).2).1, (go_s kd 0 2 (go_s up_s 2 x_s s_s).2).2)
  else if b_s = 60 then ((go_s up_s 3 x_s s_s).1 ^^^ 5, (go_s up_s 3 x_s s_s).2)
  else if b_s = 70 then ((go_s up_s 0 x_s s_s).1 * 2, (go_s up_s 0 x_s s_s).2)
  else if b_s = 80 then ((go_s up_s 1 x_s s_s).1 + (go_s kd 2 2 (go_s up_s 1 x_s s_s).2).1, (go_s kd 2 2 (go_s up_s 1 x_s s_s).2).2)
  else if b_s = 81 then ((go_s up_s 3 x_s s_s).1 - 1, (go_s up_s 3 x_s s_s).2)
  else (0, s_s)
def acR (kd : Nat) (nm : Int32) : Nat → Nat → Nat → Int32 → acSt → Int32 × acSt
  | 0, _, _, _, s_s => (0, s_s)
  | d_s + 1, t_s, a_s, x_s, s_s => acW kd nm (acR kd nm d_s) (bdN (clA 8 t_s a_s * 4 + a_s)) (abI (clA 8 t_s a_s)).toNat x_s (psh (bdN (clA 8 t_s a_s * 4 + a_s)) s_s)
/-! the reference's -/
def mh0 (nm x_s : Int32) (s_s : acSt) : Int32 × acSt := (x_s + nm, psh 1 s_s)
def mhA (nm : Int32) (k_s : Nat) (x_s : Int32) (s_s : acSt) : Int32 × acSt := if k_s = 1 then ((mh0 nm x_s (psh 20 s_s)).1 + 3, (mh0 nm x_s (psh 20 s_s)).2) else if k_s = 4 then ((mh0 nm x_s (psh 20 s_s)).1 + 3, (mh0 nm x_s (psh 20 s_s)).2) else if k_s = 7 then ((mh0 nm x_s (psh 20 s_s)).1 + 3, (mh0 nm x_s (psh 20 s_s)).2) else if k_s = 6 then ((mh0 nm x_s (psh 70 s_s)).1 * 2, (mh0 nm x_s (psh 70 s_s)).2) else mh0 nm x_s s_s
def mn0 (nm x_s : Int32) (s_s : acSt) : Int32 × acSt := (x_s ^^^ nm, psh 11 s_s)
def mnB (kd : Nat) (nm x_s : Int32) (s_s : acSt) : Int32 × acSt := ((mn0 nm x_s (psh 50 s_s)).1 - (mhA nm kd 2 (mn0 nm x_s (psh 50 s_s)).2).1, (mhA nm kd 2 (mn0 nm x_s (psh 50 s_s)).2).2)
def mnA (kd : Nat) (nm : Int32) (k_s : Nat) (x_s : Int32) (s_s : acSt) : Int32 × acSt := if k_s = 3 then ((mn0 nm x_s (psh 40 s_s)).1 * 3, (mn0 nm x_s (psh 40 s_s)).2) else if k_s = 5 then ((mn0 nm x_s (psh 40 s_s)).1 * 3, (mn0 nm x_s (psh 40 s_s)).2) else if k_s = 4 then mnB kd nm x_s s_s else if k_s = 7 then mnB kd nm x_s s_s else mn0 nm x_s s_s
def md0 (kd : Nat) (nm x_s : Int32) (s_s : acSt) : Int32 × acSt := ((mhA nm kd x_s (psh 10 s_s)).1 * 2, (mhA nm kd x_s (psh 10 s_s)).2)
def md2 (kd : Nat) (nm x_s : Int32) (s_s : acSt) : Int32 × acSt := (-(md0 kd nm x_s (psh 30 s_s)).1, (md0 kd nm x_s (psh 30 s_s)).2)
def mdA (kd : Nat) (nm : Int32) (k_s : Nat) (x_s : Int32) (s_s : acSt) : Int32 × acSt := if k_s = 3 then md2 kd nm (x_s + 1) (psh 41 s_s) else if k_s = 5 then md2 kd nm (x_s + 1) (psh 41 s_s) else if k_s = 2 then md2 kd nm x_s s_s else if k_s = 7 then ((md0 kd nm x_s (psh 80 s_s)).1 + (mnA kd nm kd 2 (md0 kd nm x_s (psh 80 s_s)).2).1, (mnA kd nm kd 2 (md0 kd nm x_s (psh 80 s_s)).2).2) else md0 kd nm x_s s_s
def mt0 (kd : Nat) (nm x_s : Int32) (s_s : acSt) : Int32 × acSt := ((mdA kd nm kd x_s (psh 2 s_s)).1 - (mnA kd nm kd 1 (mdA kd nm kd x_s (psh 2 s_s)).2).1, (mnA kd nm kd 1 (mdA kd nm kd x_s (psh 2 s_s)).2).2)
def mtA (kd : Nat) (nm : Int32) (k_s : Nat) (x_s : Int32) (s_s : acSt) : Int32 × acSt := if k_s = 5 then ((mt0 kd nm x_s (psh 60 s_s)).1 ^^^ 5, (mt0 kd nm x_s (psh 60 s_s)).2) else if k_s = 7 then ((mt0 kd nm x_s (psh 81 s_s)).1 - 1, (mt0 kd nm x_s (psh 81 s_s)).2) else mt0 kd nm x_s s_s
theorem k8_ {k_s : Nat} (h_s : k_s < 8) : k_s = 0 ∨ k_s = 1 ∨ k_s = 2 ∨ k_s = 3 ∨ k_s = 4 ∨ k_s = 5 ∨ k_s = 6 ∨ k_s = 7 := by omega
theorem ac_0 {kd : Nat} {nm x_s : Int32} {s_s : acSt} (h_s : kd < 8) : acR kd nm 31 kd 0 x_s s_s = mhA nm kd x_s s_s := by
  rcases k8_ h_s with e_s | e_s | e_s | e_s | e_s | e_s | e_s | e_s <;> (subst e_s; rfl)
theorem ac_1 {kd : Nat} {nm x_s : Int32} {s_s : acSt} (h_s : kd < 8) : acR kd nm 31 kd 1 x_s s_s = mdA kd nm kd x_s s_s := by
  rcases k8_ h_s with e_s | e_s | e_s | e_s | e_s | e_s | e_s | e_s <;> (subst e_s; rfl)
theorem ac_2 {kd : Nat} {nm x_s : Int32} {s_s : acSt} (h_s : kd < 8) : acR kd nm 31 kd 2 x_s s_s = mnA kd nm kd x_s s_s := by
  rcases k8_ h_s with e_s | e_s | e_s | e_s | e_s | e_s | e_s | e_s <;> (subst e_s; rfl)
theorem ac_3 {kd : Nat} {nm x_s : Int32} {s_s : acSt} (h_s : kd < 8) : acR kd nm 31 kd 3 x_s s_s = mtA kd nm kd x_s s_s := by
  rcases k8_ h_s with e_s | e_s | e_s | e_s | e_s | e_s | e_s | e_s <;> (subst e_s; rfl)
theorem bd_ok : ∀ t_s, t_s < 8 → ∀ a_s, a_s < 4 → bdN (t_s * 4 + a_s) ≤ 81 ∧ (bdN (t_s * 4 + a_s) = 0 ∨ bdN (t_s * 4 + a_s) = 1 ∨ bdN (t_s * 4 + a_s) = 2 ∨ bdN (t_s * 4 + a_s) = 10 ∨ bdN (t_s * 4 + a_s) = 11 ∨ (0 ≤ abI t_s ∧ abI t_s < 8)) ∧ (0 < t_s → 0 ≤ abI t_s ∧ abI t_s < 8) := by decide
section AC_s
variable {h_s : zH} {kd : Nat} {nm : Int32}
def tbA (f_s : Nat → Nat → Int32) : Prop := (∀ k_s, k_s < 32 → (f_s 5 k_s).toInt = (bdN k_s : Int)) ∧ ∀ k_s, k_s < 8 → (f_s 4 k_s).toInt = abI k_s
def owA (f_s : Nat → Nat → Int32) (kd : Nat) (nm : Int32) : Prop := tbA f_s ∧ (f_s 47 5).toInt = (kd : Int) ∧ f_s 47 4 = nm
def frAc (f_s f1_s : Nat → Nat → Int32) : Prop := ∀ o k_s, ¬ (o = 47 ∧ k_s = 2) → ¬ o = 49 → f1_s o k_s = f_s o k_s
theorem owA_fr {f_s f1_s : Nat → Nat → Int32} (e_s : frAc f_s f1_s) (w_s : owA f_s kd nm) : owA f1_s kd nm := by
  obtain ⟨⟨a_s, b_s⟩, c_s, d_s⟩ := w_s
  refine ⟨⟨fun k_s hk => ?_, fun k_s hk => ?_⟩, ?_, ?_⟩
  · rw [e_s _ _ (by omega) (by omega)]
    exact a_s k_s hk
  · rw [e_s _ _ (by omega) (by omega)]
    exact b_s k_s hk
  · rw [e_s _ _ (by omega) (by omega)]
    exact c_s
  · rw [e_s _ _ (by omega) (by omega)]
    exact d_s
def sA (f_s : Nat → Nat → Int32) (s_s : acSt) : Prop := f_s 47 2 = s_s.1 ∧ ∀ k_s, k_s < 24 → f_s 49 k_s = s_s.2 k_s
def V6 (h_s : zH) (kd : Nat) (nm : Int32) (F_s : Nat) : Prop := ∀ (d_s t_s a_s : Nat) (x1_s x2_s x3 x4_s : Int32) (s_s : acSt) (f_s : Nat → Nat → Int32) (K_s : Int32 → zH → Prop), x1_s.toInt = (t_s : Int) → t_s < 8 → x2_s.toInt = (a_s : Int) → a_s < 4 → x4_s.toInt + (d_s : Int) = 31 → 0 ≤ x4_s.toInt → owA f_s kd nm → sA f_s s_s → (∀ f1_s, sA f1_s (acR kd nm d_s t_s a_s x3 s_s).2 → frAc f_s f1_s → K_s (acR kd nm d_s t_s a_s x3 s_s).1 (h_s.1, f1_s, h_s.2.2.1, h_s.2.2.2)) → wF F_s 6 (0, [some (.ref 47), some (.int x1_s), some (.int x2_s), some (.int x3), some (.int x4_s), none, none], [], (h_s.1, f_s, h_s.2.2.1, h_s.2.2.2)) (gI K_s)
def V66 (h_s : zH) (kd : Nat) (nm : Int32) (F_s : Nat) : Prop := ∀ (d_s t_s a_s c_s : Nat) (x1_s x2_s x3 x4_s x5_s x6 : Int32) (s_s : acSt) (f_s : Nat → Nat → Int32) (R_s : Int32 × acSt) (K_s : Int32 → zH → Prop), x5_s.toInt = (t_s : Int) → t_s < 8 → x2_s.toInt = (a_s : Int) → a_s < 4 → x4_s.toInt + (d_s : Int) = 31 → 0 ≤ x4_s.toInt → x6.toInt + (c_s : Int) = 8 → owA f_s kd nm → sA f_s s_s → (d_s = 0 → R_s = (0, s_s)) → (∀ d1_s, d_s = d1_s + 1 → acW kd nm (acR kd nm d1_s) (bdN (clA c_s t_s a_s * 4 + a_s)) (abI (clA c_s t_s a_s)).toNat x3 (psh (bdN (clA c_s t_s a_s * 4 + a_s)) s_s) = R_s) → (∀ f1_s, sA f1_s R_s.2 → frAc f_s f1_s → K_s R_s.1 (h_s.1, f1_s, h_s.2.2.1, h_s.2.2.2)) → wF F_s 6 (6, [some (.ref 47), some (.int x1_s), some (.int x2_s), some (.int x3), some (.int x4_s), some (.int x5_s), some (.int x6)], [], (h_s.1, f_s, h_s.2.2.1, h_s.2.2.2)) (gI K_s)
def V7 (h_s : zH) (kd : Nat) (nm : Int32) (F_s : Nat) : Prop := ∀ (d_s b_s u_s : Nat) (x1_s x2_s x3 x4_s : Int32) (s_s : acSt) (f_s : Nat → Nat → Int32) (K_s : Int32 → zH → Prop), x1_s.toInt = (b_s : Int) → x4_s.toInt + (d_s : Int) = 31 → 0 ≤ x4_s.toInt → (b_s = 0 ∨ b_s = 1 ∨ b_s = 2 ∨ b_s = 10 ∨ b_s = 11 ∨ (x2_s.toInt = (u_s : Int) ∧ u_s < 8)) → owA f_s kd nm → sA f_s s_s → (∀ f1_s, sA f1_s (acW kd nm (acR kd nm d_s) b_s u_s x3 s_s).2 → frAc f_s f1_s → K_s (acW kd nm (acR kd nm d_s) b_s u_s x3 s_s).1 (h_s.1, f1_s, h_s.2.2.1, h_s.2.2.2)) → wF F_s 7 (0, [some (.ref 47), some (.int x1_s), some (.int x2_s), some (.int x3), some (.int x4_s)], [], (h_s.1, f_s, h_s.2.2.1, h_s.2.2.2)) (gI K_s)
theorem v6_s {F_s : Nat} (hk : hKn h_s) (i6_s : V66 h_s kd nm F_s) : V6 h_s kd nm (F_s + 1) := fun d_s t_s a_s x1_s x2_s x3 x4_s s_s f_s K_s e1_s ht e2_s ha_s e4_s h4 hw hs t1_s => by
  refine sg_6_0 (h_s := (h_s.1, f_s, h_s.2.2.1, h_s.2.2.2)) hk ?_
  refine i6_s d_s t_s a_s 8 x1_s x2_s x3 x4_s x1_s 0 s_s f_s (acR kd nm d_s t_s a_s x3 s_s) K_s e1_s ht e2_s ha_s e4_s h4 rfl hw hs (fun e_s => ?_) (fun d1_s e_s => ?_) t1_s
  · subst e_s
    rfl
  · subst e_s
    rfl
theorem fA_up {f_s : Nat → Nat → Int32} {s_s : acSt} {b_s : Nat} {v_s : Int32} (hs : sA f_s s_s) (ev_s : v_s.toInt = (b_s : Int)) (hb_s : b_s ≤ 81) : ((f_s 47 2).toInt < 24 → zix (f_s 47 2) < 24 → sA (zup (zup f_s 49 (zix (f_s 47 2)) v_s) 47 2 (f_s 47 2 + 1)) (psh b_s s_s) ∧ frAc f_s (zup (zup f_s 49 (zix (f_s 47 2)) v_s) 47 2 (f_s 47 2 + 1))) ∧ (¬ (f_s 47 2).toInt < 24 → sA (zup f_s 47 2 (f_s 47 2 + 1)) (psh b_s s_s) ∧ frAc f_s (zup f_s 47 2 (f_s 47 2 + 1))) := by
  obtain ⟨s1_s, s2_s⟩ := hs
  have eb : v_s = Int32.ofNat b_s := Int32.toInt_inj.mp (by rw [na_ofn (by omega), ev_s])
  refine ⟨fun c_s c1_s => ⟨⟨?_, fun k_s hk => ?_⟩, fun o k_s w1_s w2_s => by rw [zne_up (by omega), zne_up (by omega)]⟩, fun c_s => ⟨⟨?_, fun k_s hk => ?_⟩, fun o k_s w1_s w2_s => zne_up (by omega)⟩⟩
  · rw [zsame_up, s1_s]
    rfl
  · rw [s1_s] at c_s
    unfold psh
    rw [if_pos c_s, zne_up (by omega), s1_s]
    by_cases ek : k_s = zix s_s.1
    · show _ = if k_s = zix s_s.1 then Int32.ofNat b_s else s_s.2 k_s
      rw [if_pos ek, ek, zsame_up, eb]
    · show _ = if k_s = zix s_s.1 then Int32.ofNat b_s else s_s.2 k_s
      rw [if_neg ek, zne_up (by omega)]
      exact s2_s k_s hk
  · rw [zsame_up, s1_s]
    rfl
  · rw [s1_s] at c_s
    unfold psh
    rw [if_neg c_s, zne_up (by omega)]
    exact s2_s k_s hk
theorem v66_s {F_s : Nat} (hk : hKn h_s) (i7_s : V7 h_s kd nm F_s) (i6_s : V66 h_s kd nm F_s) : V66 h_s kd nm (F_s + 1) := fun d_s t_s a_s c_s x1_s x2_s x3 x4_s x5_s x6 s_s f_s R_s K_s e5_s ht e2_s ha_s e4_s h4 e6_s hw hs hR0 hR t1_s => by
  have z5 := azix (i := x5_s) (by omega)
  have ez5 : zix x5_s = t_s := by omega
  have i4_s : (4 : Int32).toInt = 4 := rfl
  have m4_s : (x5_s * 4).toInt = ((t_s * 4 : Nat) : Int) := by
    rw [na_mul (by rw [i4_s]; omega) (by rw [i4_s]; omega), i4_s]
    omega
  have z4 : zix (x5_s * 4 + x2_s) = t_s * 4 + a_s := zxq m4_s e2_s (by omega)
  have b5 := hw.1.1 (t_s * 4 + a_s) (by omega)
  have b4 := hw.1.2 t_s ht
  obtain ⟨bk1, bk2, bk3⟩ := bd_ok t_s ht a_s ha_s
  refine sg_6_6 (h_s := (h_s.1, f_s, h_s.2.2.1, h_s.2.2.2)) hk ?_
  dsimp only
  rw [ez5, z4, b5]
  -- it is_s the one_s: its body_s runs
  have run_s : clA c_s t_s a_s = t_s → ¬ 30 < x4_s.toInt → ((f_s 47 2).toInt < 24 → (zix (f_s 47 2) < 24 → (t_s < 8 → wF F_s 7 (0, [some (.ref 47), some (.int (f_s 5 (t_s * 4 + a_s))), some (.int (f_s 4 t_s)), some (.int x3), some (.int (x4_s + 1))], [], (h_s.1, zup (zup f_s 49 (zix (f_s 47 2)) (f_s 5 (t_s * 4 + a_s))) 47 2 (f_s 47 2 + 1), h_s.2.2.1, h_s.2.2.2)) (gI (fun v12 h12 => hKn h12 → K_s v12 h12))))) ∧ (¬ (f_s 47 2).toInt < 24 → (t_s < 8 → wF F_s 7 (0, [some (.ref 47), some (.int (f_s 5 (t_s * 4 + a_s))), some (.int (f_s 4 t_s)), some (.int x3), some (.int (x4_s + 1))], [], (h_s.1, zup f_s 47 2 (f_s 47 2 + 1), h_s.2.2.1, h_s.2.2.2)) (gI (fun v14 h14 => hKn h14 → K_s v14 h14)))) := fun ec c7_s => by
    obtain ⟨d_s, ed⟩ : ∃ d1_s, d_s = d1_s + 1 := ⟨d_s - 1, by omega⟩
    subst ed
    have hR := hR d_s rfl
    rw [ec] at hR
    have e41_s : (x4_s + 1).toInt + (d_s : Int) = 31 := by
      rw [in1_ (by omega)]
      omega
    have e40 : 0 ≤ (x4_s + 1).toInt := by
      rw [in1_ (by omega)]
      omega
    have u_s := fA_up (f_s := f_s) hs b5 bk1
    have hu : bdN (t_s * 4 + a_s) = 0 ∨ bdN (t_s * 4 + a_s) = 1 ∨ bdN (t_s * 4 + a_s) = 2 ∨ bdN (t_s * 4 + a_s) = 10 ∨ bdN (t_s * 4 + a_s) = 11 ∨ ((f_s 4 t_s).toInt = ((abI t_s).toNat : Int) ∧ (abI t_s).toNat < 8) := by
      rw [b4]
      rcases bk2 with w_s | w_s | w_s | w_s | w_s | w_s
      · exact Or.inl w_s
      · exact Or.inr (Or.inl w_s)
      · exact Or.inr (Or.inr (Or.inl w_s))
      · exact Or.inr (Or.inr (Or.inr (Or.inl w_s)))
      · exact Or.inr (Or.inr (Or.inr (Or.inr (Or.inl w_s))))
      · exact Or.inr (Or.inr (Or.inr (Or.inr (Or.inr ⟨by omega, by omega⟩))))
    have go_s : ∀ g_s : Nat → Nat → Int32, sA g_s (psh (bdN (t_s * 4 + a_s)) s_s) → frAc f_s g_s → wF F_s 7 (0, [some (.ref 47), some (.int (f_s 5 (t_s * 4 + a_s))), some (.int (f_s 4 t_s)), some (.int x3), some (.int (x4_s + 1))], [], (h_s.1, g_s, h_s.2.2.1, h_s.2.2.2)) (gI (fun v12 h12 => hKn h12 → K_s v12 h12)) := fun g_s hg1 hg2 => by
      refine i7_s d_s (bdN (t_s * 4 + a_s)) (abI t_s).toNat _ _ x3 (x4_s + 1) (psh (bdN (t_s * 4 + a_s)) s_s) g_s _ b5 e41_s e40 hu (owA_fr hg2 hw) hg1 (fun f1_s p1_s p2_s => fun _ => ?_)
      rw [hR] at p1_s ⊢
      exact t1_s f1_s p1_s (fun o k_s w1_s w2_s => by rw [p2_s o k_s w1_s w2_s]; exact hg2 o k_s w1_s w2_s)
    exact ⟨fun c9_s => fun c10_s => fun _ => go_s _ (u_s.1 c9_s c10_s).1 (u_s.1 c9_s c10_s).2, fun c9_s => fun _ => go_s _ (u_s.2 c9_s).1 (u_s.2 c9_s).2⟩
  -- too deep_s: it ends_s
  have deep_s : 30 < x4_s.toInt → K_s 0 (h_s.1, f_s, h_s.2.2.1, h_s.2.2.2) := fun c7_s => by
    have w_s := hR0 (by omega)
    subst w_s
    exact t1_s f_s hs (fun _ _ _ _ => rfl)
  refine ⟨fun c1_s => ?_, fun c1_s => ?_⟩
  · obtain ⟨c_s, ec⟩ : ∃ c1_s, c_s = c1_s + 1 := ⟨c_s - 1, by omega⟩
    subst ec
    have e61 : (x6 + 1).toInt + (c_s : Int) = 8 := by
      rw [in1_ (by omega)]
      omega
    refine ⟨fun c2_s => fun _ => ⟨fun c4_s => fun _ => ?_, fun c4_s => ⟨fun c6_s => absurd c6_s (by omega), fun c6_s => ⟨deep_s, fun c7_s => run_s (if_neg (fun w_s => c4_s (by omega))) c7_s⟩⟩⟩, fun c2_s => ⟨fun c15_s => absurd c15_s (by omega), fun c15_s => ⟨deep_s, fun c16 => fun _ => run_s (if_neg (fun w_s => c2_s (by omega))) c16⟩⟩⟩
    have t0_s : 0 < t_s := by omega
    have ab := bk3 t0_s
    have es : clA (c_s + 1) t_s a_s = clA c_s (abI t_s).toNat a_s := if_pos ⟨t0_s, by omega⟩
    rw [es] at hR
    exact i6_s d_s (abI t_s).toNat a_s c_s x1_s x2_s x3 x4_s (f_s 4 t_s) (x6 + 1) s_s f_s R_s K_s (by rw [b4]; omega) (by omega) e2_s ha_s e4_s h4 e61 hw hs hR0 hR t1_s
  · have ec : c_s = 0 := by
      apply Classical.byContradiction
      intro w_s
      omega
    subst ec
    exact ⟨fun c24_s => absurd c24_s (by omega), fun c24_s => ⟨deep_s, fun c25_s => fun _ => run_s rfl c25_s⟩⟩
theorem v7_s {F_s : Nat} (hk : hKn h_s) (hkd : kd < 8) (i6_s : V6 h_s kd nm F_s) : V7 h_s kd nm (F_s + 1) := fun d_s b_s u_s x1_s x2_s x3 x4_s s_s f_s K_s e1_s e4_s h4 hu hw hs t1_s => by
  have own_s : ∀ g_s : Nat → Nat → Int32, owA g_s kd nm → (g_s 47 5).toInt = (kd : Int) := fun g_s w_s => w_s.2.1
  have go_s : ∀ (x1_s x2_s x3 : Int32) (t_s a_s : Nat) (s_s : acSt) (g_s : Nat → Nat → Int32) (K_s : Int32 → zH → Prop), x1_s.toInt = (t_s : Int) → t_s < 8 → x2_s.toInt = (a_s : Int) → a_s < 4 → frAc f_s g_s → sA g_s s_s → (∀ f1_s, sA f1_s (acR kd nm d_s t_s a_s x3 s_s).2 → frAc f_s f1_s → K_s (acR kd nm d_s t_s a_s x3 s_s).1 (h_s.1, f1_s, h_s.2.2.1, h_s.2.2.2)) → wF F_s 6 (0, [some (.ref 47), some (.int x1_s), some (.int x2_s), some (.int x3), some (.int x4_s), none, none], [], (h_s.1, g_s, h_s.2.2.1, h_s.2.2.2)) (gI K_s) := fun x1_s x2_s x3 t_s a_s s_s g_s K_s w1_s w2_s w3_s w4_s w5 w6_s w7_s => i6_s d_s t_s a_s x1_s x2_s x3 x4_s s_s g_s K_s w1_s w2_s w3_s w4_s e4_s h4 (owA_fr w5 hw) w6_s (fun f1_s p1_s p2_s => w7_s f1_s p1_s (fun o k_s q1_s q2_s => by rw [p2_s o k_s q1_s q2_s]; exact w5 o k_s q1_s q2_s))
  have fr0 : frAc f_s f_s := fun _ _ _ _ => rfl
  have fin_s : ∀ (v_s : Int32) (s1_s : acSt) (f1_s : Nat → Nat → Int32), acW kd nm (acR kd nm d_s) b_s u_s x3 s_s = (v_s, s1_s) → sA f1_s s1_s → frAc f_s f1_s → K_s v_s (h_s.1, f1_s, h_s.2.2.1, h_s.2.2.2) := fun v_s s1_s f1_s e_s p1_s p2_s => by
    rw [e_s] at t1_s
    exact t1_s f1_s p1_s p2_s
  refine sg_7_0 (h_s := (h_s.1, f_s, h_s.2.2.1, h_s.2.2.2)) hk ?_
  dsimp only
  rw [e1_s]
  refine ⟨fun c1_s => ?_, fun c1_s => ⟨fun c2_s => ?_, fun c2_s => ⟨fun c5_s => ?_, fun c5_s => ⟨fun c7_s => ?_, fun c7_s => ⟨fun c8_s => ?_, fun c8_s => ⟨fun c10_s => ?_, fun c10_s => ⟨fun c12_s => ?_, fun c12_s => ⟨fun c14_s => ?_, fun c14_s => ⟨fun c16 => ?_, fun c16 => ⟨fun c19_s => ?_, fun c19_s => ⟨fun c21 => ?_, fun c21 => ⟨fun c23_s => ?_, fun c23_s => ⟨fun c26 => ?_, fun c26 => ?_⟩⟩⟩⟩⟩⟩⟩⟩⟩⟩⟩⟩⟩
  · have eb : b_s = 1 := by omega
    subst eb
    rw [hw.2.2]
    exact fin_s _ s_s f_s rfl hs fr0
  · have eb : b_s = 2 := by omega
    subst eb
    refine go_s _ 1 x3 kd 1 s_s f_s _ (own_s f_s hw) hkd rfl (by omega) fr0 hs (fun f1_s p1_s p2_s => fun _ => ?_)
    refine go_s _ 2 1 kd 2 _ f1_s _ (own_s f1_s (owA_fr p2_s hw)) hkd rfl (by omega) p2_s p1_s (fun f2_s q1_s q2_s => fun _ => ?_)
    exact fin_s _ _ f2_s rfl q1_s q2_s
  · have eb : b_s = 10 := by omega
    subst eb
    refine go_s _ 0 x3 kd 0 s_s f_s _ (own_s f_s hw) hkd rfl (by omega) fr0 hs (fun f1_s p1_s p2_s => fun _ => ?_)
    exact fin_s _ _ f1_s rfl p1_s p2_s
  · have eb : b_s = 11 := by omega
    subst eb
    rw [hw.2.2]
    exact fin_s _ s_s f_s rfl hs fr0
  · have eb : b_s = 20 := by omega
    subst eb
    have hu : x2_s.toInt = (u_s : Int) ∧ u_s < 8 := by omega
    refine go_s _ 0 x3 u_s 0 s_s f_s _ hu.1 hu.2 rfl (by omega) fr0 hs (fun f1_s p1_s p2_s => fun _ => ?_)
    exact fin_s _ _ f1_s rfl p1_s p2_s
  · have eb : b_s = 30 := by omega
    subst eb
    have hu : x2_s.toInt = (u_s : Int) ∧ u_s < 8 := by omega
    refine go_s _ 1 x3 u_s 1 s_s f_s _ hu.1 hu.2 rfl (by omega) fr0 hs (fun f1_s p1_s p2_s => fun _ => ?_)
    exact fin_s _ _ f1_s rfl p1_s p2_s
  · have eb : b_s = 40 := by omega
    subst eb
    have hu : x2_s.toInt = (u_s : Int) ∧ u_s < 8 := by omega
    refine go_s _ 2 x3 u_s 2 s_s f_s _ hu.1 hu.2 rfl (by omega) fr0 hs (fun f1_s p1_s p2_s => fun _ => ?_)
    exact fin_s _ _ f1_s rfl p1_s p2_s
  · have eb : b_s = 41 := by omega
    subst eb
    have hu : x2_s.toInt = (u_s : Int) ∧ u_s < 8 := by omega
    refine go_s _ 1 (x3 + 1) u_s 1 s_s f_s _ hu.1 hu.2 rfl (by omega) fr0 hs (fun f1_s p1_s p2_s => fun _ => ?_)
    exact fin_s _ _ f1_s rfl p1_s p2_s
  · have eb : b_s = 50 := by omega
    subst eb
    have hu : x2_s.toInt = (u_s : Int) ∧ u_s < 8 := by omega
    refine go_s _ 2 x3 u_s 2 s_s f_s _ hu.1 hu.2 rfl (by omega) fr0 hs (fun f1_s p1_s p2_s => fun _ => ?_)
    refine go_s _ 0 2 kd 0 _ f1_s _ (own_s f1_s (owA_fr p2_s hw)) hkd rfl (by omega) p2_s p1_s (fun f2_s q1_s q2_s => fun _ => ?_)
    exact fin_s _ _ f2_s rfl q1_s q2_s
  · have eb : b_s = 60 := by omega
    subst eb
    have hu : x2_s.toInt = (u_s : Int) ∧ u_s < 8 := by omega
    refine go_s _ 3 x3 u_s 3 s_s f_s _ hu.1 hu.2 rfl (by omega) fr0 hs (fun f1_s p1_s p2_s => fun _ => ?_)
    exact fin_s _ _ f1_s rfl p1_s p2_s
  · have eb : b_s = 70 := by omega
    subst eb
    have hu : x2_s.toInt = (u_s : Int) ∧ u_s < 8 := by omega
    refine go_s _ 0 x3 u_s 0 s_s f_s _ hu.1 hu.2 rfl (by omega) fr0 hs (fun f1_s p1_s p2_s => fun _ => ?_)
    exact fin_s _ _ f1_s rfl p1_s p2_s
  · have eb : b_s = 80 := by omega
    subst eb
    have hu : x2_s.toInt = (u_s : Int) ∧ u_s < 8 := by omega
    refine go_s _ 1 x3 u_s 1 s_s f_s _ hu.1 hu.2 rfl (by omega) fr0 hs (fun f1_s p1_s p2_s => fun _ => ?_)
    refine go_s _ 2 2 kd 2 _ f1_s _ (own_s f1_s (owA_fr p2_s hw)) hkd rfl (by omega) p2_s p1_s (fun f2_s q1_s q2_s => fun _ => ?_)
    exact fin_s _ _ f2_s rfl q1_s q2_s
  · have eb : b_s = 81 := by omega
    subst eb
    have hu : x2_s.toInt = (u_s : Int) ∧ u_s < 8 := by omega
    refine go_s _ 3 x3 u_s 3 s_s f_s _ hu.1 hu.2 rfl (by omega) fr0 hs (fun f1_s p1_s p2_s => fun _ => ?_)
    exact fin_s _ _ f1_s rfl p1_s p2_s
  · have e0_s : acW kd nm (acR kd nm d_s) b_s u_s x3 s_s = (0, s_s) := by
      unfold acW
      rw [if_neg (by omega), if_neg (by omega), if_neg (by omega), if_neg (by omega), if_neg (by omega), if_neg (by omega), if_neg (by omega), if_neg (by omega), if_neg (by omega), if_neg (by omega), if_neg (by omega), if_neg (by omega), if_neg (by omega)]
    exact fin_s _ _ f_s e0_s hs fr0
theorem v_all (hk : hKn h_s) (hkd : kd < 8) : ∀ F_s, V6 h_s kd nm F_s ∧ V66 h_s kd nm F_s ∧ V7 h_s kd nm F_s
  | 0 => ⟨fun _ _ _ _ _ _ _ _ _ _ _ _ _ _ _ _ _ _ _ => wF_zero, fun _ _ _ _ _ _ _ _ _ _ _ _ _ _ _ _ _ _ _ _ _ _ _ _ _ _ => wF_zero, fun _ _ _ _ _ _ _ _ _ _ _ _ _ _ _ _ _ => wF_zero⟩
  | F_s + 1 => by
    obtain ⟨i1_s, i2_s, i3_s⟩ := v_all hk hkd F_s
    exact ⟨v6_s hk i2_s, v66_s hk i3_s i2_s, v7_s hk hkd i1_s⟩
/-! the reference -/
def owM (f_s : Nat → Nat → Int32) (kd : Nat) (nm : Int32) : Prop := (f_s 102 43).toInt = (kd : Int) ∧ f_s 102 44 = nm
def frNc (f_s f1_s : Nat → Nat → Int32) : Prop := ∀ o k_s, ¬ (o = 102 ∧ k_s = 42) → ¬ o = 123 → f1_s o k_s = f_s o k_s
theorem owM_fr {f_s f1_s : Nat → Nat → Int32} (e_s : frNc f_s f1_s) (w_s : owM f_s kd nm) : owM f1_s kd nm := by
  refine ⟨?_, ?_⟩
  · rw [e_s _ _ (by omega) (by omega)]
    exact w_s.1
  · rw [e_s _ _ (by omega) (by omega)]
    exact w_s.2
theorem frN_t {f_s f1_s f2_s : Nat → Nat → Int32} (e_s : frNc f_s f1_s) (e1_s : frNc f1_s f2_s) : frNc f_s f2_s := fun o k_s q1_s q2_s => by
  rw [e1_s o k_s q1_s q2_s]
  exact e_s o k_s q1_s q2_s
def sM (f_s : Nat → Nat → Int32) (s_s : acSt) : Prop := f_s 102 42 = s_s.1 ∧ ∀ k_s, k_s < 24 → f_s 123 k_s = s_s.2 k_s
/-- what a method of the reference gives: P of its answer and of what ran -/
def gM (h_s : zH) (f_s : Nat → Nat → Int32) (R_s : Int32 × acSt) (K_s : Int32 → zH → Prop) : Prop := ∀ f1_s, sM f1_s R_s.2 → frNc f_s f1_s → K_s R_s.1 (h_s.1, f1_s, h_s.2.2.1, h_s.2.2.2)
variable {F_s : Nat} {x1_s x2_s x3 : Int32} {s_s : acSt} {f_s : Nat → Nat → Int32} {K_s : Int32 → zH → Prop} {V : zH → Prop}
theorem sp_221 {b_s : Nat} (hk : hKn h_s) (e1_s : x1_s.toInt = (b_s : Int)) (hb_s : b_s ≤ 81) (hs : sM f_s s_s) (t_s : ∀ f1_s, sM f1_s (psh b_s s_s) → frNc f_s f1_s → V (h_s.1, f1_s, h_s.2.2.1, h_s.2.2.2)) : wF F_s 221 (0, [some (.ref 102), some (.int x1_s)], [], (h_s.1, f_s, h_s.2.2.1, h_s.2.2.2)) (gV V) := by
  obtain ⟨s1_s, s2_s⟩ := hs
  have eb : x1_s = Int32.ofNat b_s := Int32.toInt_inj.mp (by rw [na_ofn (by omega), e1_s])
  refine wF_le (Nat.le_succ F_s) (sg_221_0 (h_s := (h_s.1, f_s, h_s.2.2.1, h_s.2.2.2)) hk ?_)
  dsimp only
  rw [s1_s]
  refine ⟨fun c_s => fun c1_s => t_s _ ⟨?_, fun k_s hk => ?_⟩ (fun o k_s w1_s w2_s => by rw [zne_up (by omega), zne_up (by omega)]), fun c_s => t_s _ ⟨?_, fun k_s hk => ?_⟩ (fun o k_s w1_s w2_s => zne_up (by omega))⟩
  · rw [zsame_up]
    rfl
  · unfold psh
    rw [if_pos c_s, zne_up (by omega)]
    by_cases ek : k_s = zix s_s.1
    · show _ = if k_s = zix s_s.1 then Int32.ofNat b_s else s_s.2 k_s
      rw [if_pos ek, ek, zsame_up, eb]
    · show _ = if k_s = zix s_s.1 then Int32.ofNat b_s else s_s.2 k_s
      rw [if_neg ek, zne_up (by omega)]
      exact s2_s k_s hk
  · rw [zsame_up]
    rfl
  · unfold psh
    rw [if_neg c_s, zne_up (by omega)]
    exact s2_s k_s hk
theorem i20_ : ∀ n_s, n_s < 82 → ((Int32.ofNat n_s).toInt = (n_s : Int)) := fun n_s hn => na_ofn (by omega)
theorem sp_h0 {nm : Int32} (hk : hKn h_s) (e1_s : x1_s.toInt = 0) (hw : f_s 102 44 = nm) (hs : sM f_s s_s) (t_s : gM h_s f_s (mh0 nm x2_s s_s) K_s) : wF F_s 222 (0, [some (.ref 102), some (.int x1_s), some (.int x2_s)], [], (h_s.1, f_s, h_s.2.2.1, h_s.2.2.2)) (gI K_s) := by
  refine wF_le (Nat.le_succ F_s) (sg_222_0 (h_s := (h_s.1, f_s, h_s.2.2.1, h_s.2.2.2)) hk ?_)
  refine ⟨fun c_s => absurd c_s (by omega), fun _ => ⟨fun c_s => absurd c_s (by omega), fun _ => ⟨fun c_s => absurd c_s (by omega), fun _ => ⟨fun c_s => absurd c_s (by omega), fun _ => ?_⟩⟩⟩⟩
  refine sp_221 (b_s := 1) hk rfl (by omega) hs (fun f1_s p1_s p2_s _ => ?_)
  dsimp only
  rw [p2_s 102 44 (by omega) (by omega), hw]
  exact t_s f1_s p1_s p2_s
theorem sp_222 {k_s : Nat} (hk : hKn h_s) (e1_s : x1_s.toInt = (k_s : Int)) (hw : owM f_s kd nm) (hs : sM f_s s_s) (t_s : gM h_s f_s (mhA nm k_s x2_s s_s) K_s) : wF F_s 222 (0, [some (.ref 102), some (.int x1_s), some (.int x2_s)], [], (h_s.1, f_s, h_s.2.2.1, h_s.2.2.2)) (gI K_s) := by
  refine wF_le (Nat.le_succ F_s) (sg_222_0 (h_s := (h_s.1, f_s, h_s.2.2.1, h_s.2.2.2)) hk ?_)
  rw [e1_s]
  have b20 : mhA nm k_s x2_s s_s = ((mh0 nm x2_s (psh 20 s_s)).1 + 3, (mh0 nm x2_s (psh 20 s_s)).2) → wF F_s 221 (0, [some (.ref 102), some (.int 20)], [], (h_s.1, f_s, h_s.2.2.1, h_s.2.2.2)) (gV (fun h2 => hKn h2 → wF F_s 222 (0, [some (.ref 102), some (.int 0), some (.int x2_s)], [], h2) (gI (fun v3 h3 => hKn h3 → K_s (v3 + 3) h3)))) := fun e_s => by
    rw [e_s] at t_s
    refine sp_221 (b_s := 20) hk rfl (by omega) hs (fun f1_s p1_s p2_s _ => ?_)
    exact sp_h0 (h_s := h_s) hk rfl (owM_fr p2_s hw).2 p1_s (fun f2_s q1_s q2_s => fun _ => t_s f2_s q1_s (frN_t p2_s q2_s))
  refine ⟨fun c_s => b20 ?_, fun c1_s => ⟨fun c_s => b20 ?_, fun c4_s => ⟨fun c_s => b20 ?_, fun c7_s => ⟨fun c_s => ?_, fun c6_s => ?_⟩⟩⟩⟩
  · unfold mhA
    rw [if_pos (by omega)]
  · unfold mhA
    rw [if_neg (by omega), if_pos (by omega)]
  · unfold mhA
    rw [if_neg (by omega), if_neg (by omega), if_pos (by omega)]
  · have e_s : mhA nm k_s x2_s s_s = ((mh0 nm x2_s (psh 70 s_s)).1 * 2, (mh0 nm x2_s (psh 70 s_s)).2) := by
      unfold mhA
      rw [if_neg (by omega), if_neg (by omega), if_neg (by omega), if_pos (by omega)]
    rw [e_s] at t_s
    refine sp_221 (b_s := 70) hk rfl (by omega) hs (fun f1_s p1_s p2_s _ => ?_)
    exact sp_h0 (h_s := h_s) hk rfl (owM_fr p2_s hw).2 p1_s (fun f2_s q1_s q2_s => fun _ => t_s f2_s q1_s (frN_t p2_s q2_s))
  · have e_s : mhA nm k_s x2_s s_s = mh0 nm x2_s s_s := by
      unfold mhA
      rw [if_neg (by omega), if_neg (by omega), if_neg (by omega), if_neg (by omega)]
    rw [e_s] at t_s
    refine sp_221 (b_s := 1) hk rfl (by omega) hs (fun f1_s p1_s p2_s _ => ?_)
    dsimp only
    rw [(owM_fr p2_s hw).2]
    exact t_s f1_s p1_s p2_s
theorem sp_n0 {k_s : Nat} (hk : hKn h_s) (e1_s : x1_s.toInt = (k_s : Int)) (h3 : ¬ k_s = 3) (h5 : ¬ k_s = 5) (h4 : ¬ k_s = 4) (h7 : ¬ k_s = 7) (hw : owM f_s kd nm) (hs : sM f_s s_s) (t_s : gM h_s f_s (mn0 nm x2_s s_s) K_s) : wF F_s 224 (0, [some (.ref 102), some (.int x1_s), some (.int x2_s), none], [], (h_s.1, f_s, h_s.2.2.1, h_s.2.2.2)) (gI K_s) := by
  refine wF_le (Nat.le_succ F_s) (sg_224_0 (h_s := (h_s.1, f_s, h_s.2.2.1, h_s.2.2.2)) hk ?_)
  rw [e1_s]
  refine ⟨fun c_s => absurd c_s (by omega), fun _ => ⟨fun c_s => absurd c_s (by omega), fun _ => ⟨fun c_s => absurd c_s (by omega), fun _ => ⟨fun c_s => absurd c_s (by omega), fun _ => ?_⟩⟩⟩⟩
  refine sp_221 (b_s := 11) hk rfl (by omega) hs (fun f1_s p1_s p2_s _ => ?_)
  dsimp only
  rw [(owM_fr p2_s hw).2]
  exact t_s f1_s p1_s p2_s
theorem sp_224 {k_s : Nat} (hk : hKn h_s) (e1_s : x1_s.toInt = (k_s : Int)) (hw : owM f_s kd nm) (hs : sM f_s s_s) (t_s : gM h_s f_s (mnA kd nm k_s x2_s s_s) K_s) : wF F_s 224 (0, [some (.ref 102), some (.int x1_s), some (.int x2_s), none], [], (h_s.1, f_s, h_s.2.2.1, h_s.2.2.2)) (gI K_s) := by
  have b40 : mnA kd nm k_s x2_s s_s = ((mn0 nm x2_s (psh 40 s_s)).1 * 3, (mn0 nm x2_s (psh 40 s_s)).2) → wF F_s 221 (0, [some (.ref 102), some (.int 40)], [], (h_s.1, f_s, h_s.2.2.1, h_s.2.2.2)) (gV (fun h2 => hKn h2 → wF F_s 224 (0, [some (.ref 102), some (.int 2), some (.int x2_s), none], [], h2) (gI (fun v3 h3 => hKn h3 → K_s (v3 * 3) h3)))) := fun e_s => by
    rw [e_s] at t_s
    refine sp_221 (b_s := 40) hk rfl (by omega) hs (fun f1_s p1_s p2_s _ => ?_)
    exact sp_n0 (h_s := h_s) (k_s := 2) hk rfl (by omega) (by omega) (by omega) (by omega) (owM_fr p2_s hw) p1_s (fun f2_s q1_s q2_s => fun _ => t_s f2_s q1_s (frN_t p2_s q2_s))
  have b50 : mnA kd nm k_s x2_s s_s = mnB kd nm x2_s s_s → wF F_s 221 (0, [some (.ref 102), some (.int 50)], [], (h_s.1, f_s, h_s.2.2.1, h_s.2.2.2)) (gV (fun h8 => hKn h8 → wF F_s 224 (0, [some (.ref 102), some (.int 1), some (.int x2_s), none], [], h8) (gI (fun v9 h9 => hKn h9 → wF F_s 222 (0, [some (.ref 102), some (.int (h9.2.1 102 43)), some (.int 2)], [], h9) (gI (fun v10 h10 => hKn h10 → K_s (v9 - v10) h10)))))) := fun e_s => by
    rw [e_s] at t_s
    refine sp_221 (b_s := 50) hk rfl (by omega) hs (fun f1_s p1_s p2_s _ => ?_)
    refine sp_n0 (h_s := h_s) (k_s := 1) hk rfl (by omega) (by omega) (by omega) (by omega) (owM_fr p2_s hw) p1_s (fun f2_s q1_s q2_s => fun _ => ?_)
    have w2_s := owM_fr (frN_t p2_s q2_s) hw
    exact sp_222 (h_s := h_s) (k_s := kd) hk w2_s.1 w2_s q1_s (fun f3_s r1_s r2 => fun _ => t_s f3_s r1_s (frN_t (frN_t p2_s q2_s) r2))
  refine wF_le (Nat.le_succ F_s) (sg_224_0 (h_s := (h_s.1, f_s, h_s.2.2.1, h_s.2.2.2)) hk ?_)
  rw [e1_s]
  refine ⟨fun c_s => b40 ?_, fun c3_s => ⟨fun c_s => b40 ?_, fun c5_s => ⟨fun c_s => b50 ?_, fun c4_s => ⟨fun c_s => b50 ?_, fun c7_s => ?_⟩⟩⟩⟩
  · unfold mnA
    rw [if_pos (by omega)]
  · unfold mnA
    rw [if_neg (by omega), if_pos (by omega)]
  · unfold mnA
    rw [if_neg (by omega), if_neg (by omega), if_pos (by omega)]
  · unfold mnA
    rw [if_neg (by omega), if_neg (by omega), if_neg (by omega), if_pos (by omega)]
  · have e_s : mnA kd nm k_s x2_s s_s = mn0 nm x2_s s_s := by
      unfold mnA
      rw [if_neg (by omega), if_neg (by omega), if_neg (by omega), if_neg (by omega)]
    rw [e_s] at t_s
    refine sp_221 (b_s := 11) hk rfl (by omega) hs (fun f1_s p1_s p2_s _ => ?_)
    dsimp only
    rw [(owM_fr p2_s hw).2]
    exact t_s f1_s p1_s p2_s
theorem sp_d0 {k_s : Nat} (hk : hKn h_s) (e1_s : x1_s.toInt = (k_s : Int)) (h3 : ¬ k_s = 3) (h5 : ¬ k_s = 5) (h2 : ¬ k_s = 2) (h7 : ¬ k_s = 7) (hw : owM f_s kd nm) (hs : sM f_s s_s) (t_s : gM h_s f_s (md0 kd nm x2_s s_s) K_s) : wF F_s 223 (0, [some (.ref 102), some (.int x1_s), some (.int x2_s), none], [], (h_s.1, f_s, h_s.2.2.1, h_s.2.2.2)) (gI K_s) := by
  refine wF_le (Nat.le_succ F_s) (sg_223_0 (h_s := (h_s.1, f_s, h_s.2.2.1, h_s.2.2.2)) hk ?_)
  rw [e1_s]
  refine ⟨fun c_s => absurd c_s (by omega), fun _ => ⟨fun c_s => absurd c_s (by omega), fun _ => ⟨fun c_s => absurd c_s (by omega), fun _ => ⟨fun c_s => absurd c_s (by omega), fun _ => ?_⟩⟩⟩⟩
  refine sp_221 (b_s := 10) hk rfl (by omega) hs (fun f1_s p1_s p2_s _ => ?_)
  have w1_s := owM_fr p2_s hw
  exact sp_222 (h_s := h_s) (k_s := kd) hk w1_s.1 w1_s p1_s (fun f3_s r1_s r2 => fun _ => t_s f3_s r1_s (frN_t p2_s r2))
theorem sp_d2 (hk : hKn h_s) (e1_s : x1_s.toInt = 2) (hw : owM f_s kd nm) (hs : sM f_s s_s) (t_s : gM h_s f_s (md2 kd nm x2_s s_s) K_s) : wF F_s 223 (0, [some (.ref 102), some (.int x1_s), some (.int x2_s), none], [], (h_s.1, f_s, h_s.2.2.1, h_s.2.2.2)) (gI K_s) := by
  refine wF_le (Nat.le_succ F_s) (sg_223_0 (h_s := (h_s.1, f_s, h_s.2.2.1, h_s.2.2.2)) hk ?_)
  rw [e1_s]
  refine ⟨fun c_s => absurd c_s (by omega), fun _ => ⟨fun c_s => absurd c_s (by omega), fun _ => ⟨fun _ => ?_, fun c_s => absurd rfl c_s⟩⟩⟩
  refine sp_221 (b_s := 30) hk rfl (by omega) hs (fun f1_s p1_s p2_s _ => ?_)
  exact sp_d0 (h_s := h_s) (k_s := 0) hk rfl (by omega) (by omega) (by omega) (by omega) (owM_fr p2_s hw) p1_s (fun f3_s r1_s r2 => fun _ => t_s f3_s r1_s (frN_t p2_s r2))
theorem sp_223 {k_s : Nat} (hk : hKn h_s) (e1_s : x1_s.toInt = (k_s : Int)) (hw : owM f_s kd nm) (hs : sM f_s s_s) (t_s : gM h_s f_s (mdA kd nm k_s x2_s s_s) K_s) : wF F_s 223 (0, [some (.ref 102), some (.int x1_s), some (.int x2_s), none], [], (h_s.1, f_s, h_s.2.2.1, h_s.2.2.2)) (gI K_s) := by
  have b41 : mdA kd nm k_s x2_s s_s = md2 kd nm (x2_s + 1) (psh 41 s_s) → wF F_s 221 (0, [some (.ref 102), some (.int 41)], [], (h_s.1, f_s, h_s.2.2.1, h_s.2.2.2)) (gV (fun h2 => hKn h2 → wF F_s 223 (0, [some (.ref 102), some (.int 2), some (.int (x2_s + 1)), none], [], h2) (gI (fun v3 h3 => hKn h3 → K_s v3 h3)))) := fun e_s => by
    rw [e_s] at t_s
    refine sp_221 (b_s := 41) hk rfl (by omega) hs (fun f1_s p1_s p2_s _ => ?_)
    exact sp_d2 (h_s := h_s) hk rfl (owM_fr p2_s hw) p1_s (fun f2_s q1_s q2_s => fun _ => t_s f2_s q1_s (frN_t p2_s q2_s))
  refine wF_le (Nat.le_succ F_s) (sg_223_0 (h_s := (h_s.1, f_s, h_s.2.2.1, h_s.2.2.2)) hk ?_)
  rw [e1_s]
  refine ⟨fun c_s => b41 ?_, fun c3_s => ⟨fun c_s => b41 ?_, fun c5_s => ⟨fun c_s => ?_, fun c2_s => ⟨fun c_s => ?_, fun c7_s => ?_⟩⟩⟩⟩
  · unfold mdA
    rw [if_pos (by omega)]
  · unfold mdA
    rw [if_neg (by omega), if_pos (by omega)]
  · have e_s : mdA kd nm k_s x2_s s_s = md2 kd nm x2_s s_s := by
      unfold mdA
      rw [if_neg (by omega), if_neg (by omega), if_pos (by omega)]
    rw [e_s] at t_s
    refine sp_221 (b_s := 30) hk rfl (by omega) hs (fun f1_s p1_s p2_s _ => ?_)
    exact sp_d0 (h_s := h_s) (k_s := 0) hk rfl (by omega) (by omega) (by omega) (by omega) (owM_fr p2_s hw) p1_s (fun f3_s r1_s r2 => fun _ => t_s f3_s r1_s (frN_t p2_s r2))
  · have e_s : mdA kd nm k_s x2_s s_s = ((md0 kd nm x2_s (psh 80 s_s)).1 + (mnA kd nm kd 2 (md0 kd nm x2_s (psh 80 s_s)).2).1, (mnA kd nm kd 2 (md0 kd nm x2_s (psh 80 s_s)).2).2) := by
      unfold mdA
      rw [if_neg (by omega), if_neg (by omega), if_neg (by omega), if_pos (by omega)]
    rw [e_s] at t_s
    refine sp_221 (b_s := 80) hk rfl (by omega) hs (fun f1_s p1_s p2_s _ => ?_)
    refine sp_d0 (h_s := h_s) (k_s := 4) hk rfl (by omega) (by omega) (by omega) (by omega) (owM_fr p2_s hw) p1_s (fun f2_s q1_s q2_s => fun _ => ?_)
    have w2_s := owM_fr (frN_t p2_s q2_s) hw
    exact sp_224 (h_s := h_s) (k_s := kd) hk w2_s.1 w2_s q1_s (fun f3_s r1_s r2 => fun _ => t_s f3_s r1_s (frN_t (frN_t p2_s q2_s) r2))
  · have e_s : mdA kd nm k_s x2_s s_s = md0 kd nm x2_s s_s := by
      unfold mdA
      rw [if_neg (by omega), if_neg (by omega), if_neg (by omega), if_neg (by omega)]
    rw [e_s] at t_s
    refine sp_221 (b_s := 10) hk rfl (by omega) hs (fun f1_s p1_s p2_s _ => ?_)
    have w1_s := owM_fr p2_s hw
    exact sp_222 (h_s := h_s) (k_s := kd) hk w1_s.1 w1_s p1_s (fun f3_s r1_s r2 => fun _ => t_s f3_s r1_s (frN_t p2_s r2))
theorem tl0 (hk : hKn h_s) (hw : owM f_s kd nm) (hs : sM f_s s_s) (t_s : gM h_s f_s (mt0 kd nm x2_s s_s) K_s) : wF F_s 221 (0, [some (.ref 102), some (.int 2)], [], (h_s.1, f_s, h_s.2.2.1, h_s.2.2.2)) (gV (fun h7 => hKn h7 → wF F_s 223 (0, [some (.ref 102), some (.int (h7.2.1 102 43)), some (.int x2_s), none], [], h7) (gI (fun v8 h8 => hKn h8 → wF F_s 224 (0, [some (.ref 102), some (.int (h8.2.1 102 43)), some (.int 1), none], [], h8) (gI (fun v9 h9 => hKn h9 → K_s (v8 - v9) h9)))))) := by
  refine sp_221 (b_s := 2) hk rfl (by omega) hs (fun f1_s p1_s p2_s _ => ?_)
  have w1_s := owM_fr p2_s hw
  refine sp_223 (h_s := h_s) (k_s := kd) hk w1_s.1 w1_s p1_s (fun f2_s q1_s q2_s => fun _ => ?_)
  have w2_s := owM_fr (frN_t p2_s q2_s) hw
  exact sp_224 (h_s := h_s) (k_s := kd) hk w2_s.1 w2_s q1_s (fun f3_s r1_s r2 => fun _ => t_s f3_s r1_s (frN_t (frN_t p2_s q2_s) r2))
theorem sp_t0 {k_s : Nat} (hk : hKn h_s) (e1_s : x1_s.toInt = (k_s : Int)) (h5 : ¬ k_s = 5) (h7 : ¬ k_s = 7) (hw : owM f_s kd nm) (hs : sM f_s s_s) (t_s : gM h_s f_s (mt0 kd nm x2_s s_s) K_s) : wF F_s 225 (0, [some (.ref 102), some (.int x1_s), some (.int x2_s), none], [], (h_s.1, f_s, h_s.2.2.1, h_s.2.2.2)) (gI K_s) := by
  refine wF_le (Nat.le_succ F_s) (sg_225_0 (h_s := (h_s.1, f_s, h_s.2.2.1, h_s.2.2.2)) hk ?_)
  rw [e1_s]
  exact ⟨fun c_s => absurd c_s (by omega), fun _ => ⟨fun c_s => absurd c_s (by omega), fun _ => tl0 hk hw hs t_s⟩⟩
theorem sp_225 {k_s : Nat} (hk : hKn h_s) (e1_s : x1_s.toInt = (k_s : Int)) (hw : owM f_s kd nm) (hs : sM f_s s_s) (t_s : gM h_s f_s (mtA kd nm k_s x2_s s_s) K_s) : wF F_s 225 (0, [some (.ref 102), some (.int x1_s), some (.int x2_s), none], [], (h_s.1, f_s, h_s.2.2.1, h_s.2.2.2)) (gI K_s) := by
  refine wF_le (Nat.le_succ F_s) (sg_225_0 (h_s := (h_s.1, f_s, h_s.2.2.1, h_s.2.2.2)) hk ?_)
  rw [e1_s]
  refine ⟨fun c_s => ?_, fun c5_s => ⟨fun c_s => ?_, fun c7_s => ?_⟩⟩
  · have e_s : mtA kd nm k_s x2_s s_s = ((mt0 kd nm x2_s (psh 60 s_s)).1 ^^^ 5, (mt0 kd nm x2_s (psh 60 s_s)).2) := by
      unfold mtA
      rw [if_pos (by omega)]
    rw [e_s] at t_s
    refine sp_221 (b_s := 60) hk rfl (by omega) hs (fun f1_s p1_s p2_s _ => ?_)
    exact sp_t0 (h_s := h_s) (k_s := 3) hk rfl (by omega) (by omega) (owM_fr p2_s hw) p1_s (fun f3_s r1_s r2 => fun _ => t_s f3_s r1_s (frN_t p2_s r2))
  · have e_s : mtA kd nm k_s x2_s s_s = ((mt0 kd nm x2_s (psh 81 s_s)).1 - 1, (mt0 kd nm x2_s (psh 81 s_s)).2) := by
      unfold mtA
      rw [if_neg (by omega), if_pos (by omega)]
    rw [e_s] at t_s
    refine sp_221 (b_s := 81) hk rfl (by omega) hs (fun f1_s p1_s p2_s _ => ?_)
    exact sp_t0 (h_s := h_s) (k_s := 4) hk rfl (by omega) (by omega) (owM_fr p2_s hw) p1_s (fun f3_s r1_s r2 => fun _ => t_s f3_s r1_s (frN_t p2_s r2))
  · have e_s : mtA kd nm k_s x2_s s_s = mt0 kd nm x2_s s_s := by
      unfold mtA
      rw [if_neg (by omega), if_neg (by omega)]
    rw [e_s] at t_s
    exact tl0 hk hw hs t_s
end AC_s
/-! ACTS: what class and reference have in common of them; act, trace, body, count. -/
def tAf (f_s : Nat → Nat → Int32) : Prop := tbA f_s ∧ f_s 47 2 = f_s 102 42 ∧ (∀ k_s, k_s < 24 → f_s 49 k_s = f_s 123 k_s) ∧ ∃ n_s : Nat, n_s ≤ 50 ∧ (f_s 47 1).toInt = (n_s : Int) ∧ f_s 102 39 = f_s 47 1 ∧ ∀ k_s, k_s < n_s → f_s 48 k_s = f_s 122 k_s ∧ 0 ≤ (f_s 48 k_s).toInt ∧ (f_s 48 k_s).toInt ≤ 7
def tA (h_s : zH) : Prop := tAf h_s.2.1
theorem tAf_z {f_s g_s : Nat → Nat → Int32} (hz : g_s 47 2 = g_s 102 42) (h49 : ∀ k_s, k_s < 24 → g_s 49 k_s = g_s 123 k_s) (e_s : ∀ o k_s, (o = 4 ∨ o = 5 ∨ (o = 47 ∧ k_s = 1) ∨ (o = 102 ∧ k_s = 39) ∨ o = 48 ∨ o = 122) → g_s o k_s = f_s o k_s) (ha_s : tAf f_s) : tAf g_s := by
  obtain ⟨⟨a_s, b_s⟩, _, _, n_s, n1_s, n2_s, n3_s, n4_s⟩ := ha_s
  refine ⟨⟨fun k_s hk => ?_, fun k_s hk => ?_⟩, hz, h49, n_s, n1_s, ?_, ?_, fun k_s hk => ?_⟩
  · rw [e_s 5 k_s (by omega)]
    exact a_s k_s hk
  · rw [e_s 4 k_s (by omega)]
    exact b_s k_s hk
  · rw [e_s 47 1 (by omega)]
    exact n2_s
  · rw [e_s 102 39 (by omega), e_s 47 1 (by omega)]
    exact n3_s
  · rw [e_s 48 k_s (by omega), e_s 122 k_s (by omega)]
    exact n4_s k_s hk
def tAok (W_s : aW) : Bool := (((List.range 32).all (fun k_s => !aWf W_s 5 k_s) && (List.range 8).all (fun k_s => !aWf W_s 4 k_s)) && ((!aWf W_s 47 2 && !aWf W_s 102 42) && (!aWf W_s 47 1 && !aWf W_s 102 39))) && ((List.range 24).all (fun k_s => !aWf W_s 49 k_s && !aWf W_s 123 k_s) && (List.range 50).all (fun k_s => !aWf W_s 48 k_s && !aWf W_s 122 k_s))
theorem tA_fr {W_s : aW} (hw : tAok W_s = true) {h_s h1 : zH} (fr_s : aFr (aWf W_s) h_s h1) (ha_s : tA h_s) : tA h1 := by
  unfold tAok at hw
  simp only [Bool.and_eq_true, Bool.not_eq_true', List.all_eq_true, List.mem_range] at hw
  obtain ⟨⟨⟨w5, w4_s⟩, ⟨w1_s, w2_s⟩, w3_s, w6_s⟩, w7_s, w8⟩ := hw
  obtain ⟨⟨a_s, b_s⟩, a2, a3, n_s, n1_s, n2_s, n3_s, n4_s⟩ := ha_s
  refine ⟨⟨fun k_s hk => ?_, fun k_s hk => ?_⟩, ?_, fun k_s hk => ?_, n_s, n1_s, ?_, ?_, fun k_s hk => ?_⟩
  · rw [fr_s.1 5 k_s (w5 k_s hk)]
    exact a_s k_s hk
  · rw [fr_s.1 4 k_s (w4_s k_s hk)]
    exact b_s k_s hk
  · rw [fr_s.1 47 2 w1_s, fr_s.1 102 42 w2_s]
    exact a2
  · rw [fr_s.1 49 k_s (w7_s k_s hk).1, fr_s.1 123 k_s (w7_s k_s hk).2]
    exact a3 k_s hk
  · rw [fr_s.1 47 1 w3_s]
    exact n2_s
  · rw [fr_s.1 102 39 w6_s, fr_s.1 47 1 w3_s]
    exact n3_s
  · rw [fr_s.1 48 k_s (w8 k_s (by omega)).1, fr_s.1 122 k_s (w8 k_s (by omega)).2]
    exact n4_s k_s hk
theorem bd0_ : ∀ k_s, k_s < 32 → bd0.getD k_s 0 = (bdN k_s : Int) := by decide
theorem ab0_ : ∀ k_s, k_s < 8 → ab0.getD k_s 0 = abI k_s := by decide
theorem tA_0 {f_s : Nat → Nat → Int32} (hc_s : hcA1 f_s = true) : tAf f_s := by
  unfold hcA1 at hc_s
  simp only [Bool.and_eq_true, List.all_eq_true, List.mem_range, decide_eq_true_eq] at hc_s
  obtain ⟨⟨c5_s, c4_s⟩, ⟨c1_s, c2_s⟩, c6_s, c7_s⟩ := hc_s
  refine ⟨⟨fun k_s hk => (c5_s k_s hk).trans (bd0_ k_s hk), fun k_s hk => (c4_s k_s hk).trans (ab0_ k_s hk)⟩, c1_s, c2_s, 0, by omega, ?_, ?_, fun k_s hk => absurd hk (Nat.not_lt_zero k_s)⟩
  · rw [c6_s]
    rfl
  · rw [c7_s, c6_s]
theorem hcA1_fr {f_s g_s : Nat → Nat → Int32} (e_s : ∀ o k_s, o ≠ 0 → g_s o k_s = f_s o k_s) (hc_s : hcA1 f_s = true) : hcA1 g_s = true := by
  unfold hcA1 at hc_s ⊢
  simp only [e_s 5 _ (by omega), e_s 4 _ (by omega), e_s 47 _ (by omega), e_s 102 _ (by omega), e_s 49 _ (by omega), e_s 123 _ (by omega)]
  exact hc_s
theorem tA_start {E_s : Nat → Int32} {n_s : Nat} {h_s : zH} (hc_s : hcA h_s = true) : tA (sH E_s n_s [] h_s) := by
  have sv : ∀ o k_s, o ≠ 0 → sov E_s [] h_s.2.1 o k_s = h_s.2.1 o k_s := fun o k_s ho => by rw [sov_nil ho]
  exact tA_0 (f_s := sov E_s [] h_s.2.1) (hcA1_fr sv hc_s)
theorem sbq {c_s : Int32} {n_s : Nat} (hc_s : c_s.toInt = (n_s : Int)) : (c_s - 1).toInt = (n_s : Int) - 1 := by
  have r_s := na_rng c_s
  rw [na_sub (by rw [n1_]; omega) (by rw [n1_]; omega), n1_, hc_s]
section PA_s
variable {F_s : Nat} {h_s : zH} {x1_s x2_s x3 : Int32}
theorem pa_body (hk : hKn h_s) (ha_s : tA h_s) : wF F_s 125 (0, [some (.ref 6), some (.int x1_s)], [], h_s) (gI (fun v_s h1 => wF F_s 219 (0, [some (.ref 102), some (.int x1_s)], [], h1) (gI (fun _ h2 => tA h2)))) := by
  have ha0 := ha_s
  obtain ⟨⟨a_s, b_s⟩, a2, a3, n_s, n1_s, n2_s, n3_s, n4_s⟩ := ha_s
  have n5_s : (h_s.2.1 102 39).toInt = (n_s : Int) := by rw [n3_s]; exact n2_s
  refine sp_125 hk (fun c_s => ?_) (fun c1_s c2_s c3_s => ?_) (fun c1_s c2_s c3_s => ?_)
  · exact sp_219 hk (fun _ => ha0) (fun q1_s q2_s _ => by omega) (fun q1_s q2_s _ => by omega)
  · exact sp_219 hk (fun q_s => by omega) (fun _ _ _ => ha0) (fun _ _ q_s => by omega)
  · have z_s := azix (i := h_s.2.1 47 1) (by omega)
    have ez : zix (h_s.2.1 47 1) = n_s := by omega
    rw [ez]
    have e39 : zup (zup h_s.2.1 48 n_s x1_s) 47 1 (h_s.2.1 47 1 + 1) 102 39 = h_s.2.1 47 1 := by rw [zne_up (by omega), zne_up (by omega)]; exact n3_s
    have e1_s := in1_ (x_s := h_s.2.1 47 1) (by omega)
    refine sp_219 hk (fun q_s => by omega) (fun _ _ q_s => ?_) (fun _ _ q_s => ?_)
    · dsimp only at q_s
      rw [e39] at q_s
      omega
    · dsimp only
      rw [e39, ez]
      show tAf (zup (zup (zup (zup h_s.2.1 48 n_s x1_s) 47 1 (h_s.2.1 47 1 + 1)) 122 n_s x1_s) 102 39 (h_s.2.1 47 1 + 1))
      refine ⟨⟨fun k_s hk1 => ?_, fun k_s hk1 => ?_⟩, ?_, fun k_s hk1 => ?_, n_s + 1, by omega, ?_, ?_, fun k_s hk1 => ?_⟩
      · simp (disch := omega) only [zne_up]
        exact a_s k_s hk1
      · simp (disch := omega) only [zne_up]
        exact b_s k_s hk1
      · simp (disch := omega) only [zne_up]
        exact a2
      · simp (disch := omega) only [zne_up]
        exact a3 k_s hk1
      · rw [zne_up (by omega), zne_up (by omega), zsame_up]
        omega
      · rw [zsame_up, zne_up (by omega), zne_up (by omega), zsame_up]
      · by_cases ek : k_s = n_s
        · rw [ek, zne_up (by omega), zne_up (by omega), zne_up (by omega), zsame_up, zne_up (by omega), zsame_up]
          exact ⟨rfl, c1_s, c2_s⟩
        · rw [zne_up (by omega), zne_up (by omega), zne_up (by omega), zne_up (by omega), zne_up (by omega), zne_up (by omega), zne_up (by omega), zne_up (by omega)]
          exact n4_s k_s (by omega)
theorem pr_body2 (hk : hKn h_s) (hs : tS h_s) (ha_s : tA h_s) : wF F_s 125 (0, [some (.ref 6), some (.int x1_s)], [], h_s) (gI (fun v_s h1 => wF F_s 219 (0, [some (.ref 102), some (.int x1_s)], [], h1) (gI (fun v2 h2 => v_s = v2 ∧ tS h2 ∧ tA h2)))) := wmI (waI (pr_body hk hs) (pa_body hk ha_s)) (fun _ _ _ q_s => wmI (waI q_s.1 q_s.2) (fun _ _ _ r_s => ⟨r_s.1.1, r_s.1.2, r_s.2⟩))
theorem pr_trace (hk : hKn h_s) (ha_s : tA h_s) : wF F_s 127 (0, [some (.ref 6), some (.int x1_s)], [], h_s) (gI (fun v_s h1 => wF F_s 227 (0, [some (.ref 102), some (.int x1_s)], [], h1) (gI (fun v2 _ => v_s = v2)))) := by
  have a2 := ha_s.2.1
  have a3 := ha_s.2.2.1
  refine wF_le (Nat.le_succ F_s) (sg_127_0 (h_s := h_s) hk ?_)
  refine ⟨fun c1_s => ?_, fun c1_s => ⟨fun c2_s => ⟨fun c3_s => fun c4_s => ?_, fun c3_s => ?_⟩, fun c2_s => ?_⟩⟩
  · exact wF_le (Nat.le_succ F_s) (sg_227_0 (h_s := h_s) hk ⟨fun _ => rfl, fun c_s => absurd c1_s c_s⟩)
  · refine wF_le (Nat.le_succ F_s) (sg_227_0 (h_s := h_s) hk ?_)
    rw [← a2]
    exact ⟨fun c_s => absurd c_s c1_s, fun _ => ⟨fun _ => ⟨fun _ => fun _ => a3 _ c4_s, fun c_s => absurd c3_s c_s⟩, fun c_s => absurd c2_s c_s⟩⟩
  · refine wF_le (Nat.le_succ F_s) (sg_227_0 (h_s := h_s) hk ?_)
    rw [← a2]
    exact ⟨fun c_s => absurd c_s c1_s, fun _ => ⟨fun _ => ⟨fun c_s => absurd c_s c3_s, fun _ => rfl⟩, fun c_s => absurd c2_s c_s⟩⟩
  · refine wF_le (Nat.le_succ F_s) (sg_227_0 (h_s := h_s) hk ?_)
    rw [← a2]
    exact ⟨fun c_s => absurd c_s c1_s, fun _ => ⟨fun c_s => absurd c_s c2_s, fun _ => rfl⟩⟩
/-- act -/
def okAc (n_s : Nat) (x1_s x2_s : Int32) : Prop := (0 ≤ x1_s.toInt ∧ x1_s.toInt < (n_s : Int)) ∧ 0 ≤ x2_s.toInt ∧ x2_s.toInt ≤ 3
theorem sp_226 {n_s : Nat} {f_s : Nat → Nat → Int32} {K_s : Int32 → zH → Prop} {s_s : acSt} (hk : hKn h_s) (hs0 : s_s.1 = 0) (hs1 : ∀ k_s, k_s < 24 → f_s 123 k_s = s_s.2 k_s) (n5_s : (f_s 102 39).toInt = (n_s : Int)) (nb : n_s ≤ 50) (hkd : ∀ k_s, k_s < n_s → 0 ≤ (f_s 122 k_s).toInt ∧ (f_s 122 k_s).toInt ≤ 7) (t1_s : ¬ okAc n_s x1_s x2_s → ∀ f1_s, f1_s 102 42 = 0 → (∀ o k_s, ¬ (o = 102 ∧ 42 ≤ k_s) → f1_s o k_s = f_s o k_s) → K_s 0 (h_s.1, f1_s, h_s.2.2.1, h_s.2.2.2)) (t2_s : okAc n_s x1_s x2_s → ∀ f1_s, sM f1_s (acR (zix (f_s 122 (zix x1_s))) x1_s 31 (zix (f_s 122 (zix x1_s))) (zix x2_s) x3 s_s).2 → (∀ o k_s, ¬ (o = 102 ∧ 42 ≤ k_s) → ¬ o = 123 → f1_s o k_s = f_s o k_s) → K_s (acR (zix (f_s 122 (zix x1_s))) x1_s 31 (zix (f_s 122 (zix x1_s))) (zix x2_s) x3 s_s).1 (h_s.1, f1_s, h_s.2.2.1, h_s.2.2.2)) : wF F_s 226 (0, [some (.ref 102), some (.int x1_s), some (.int x2_s), some (.int x3)], [], (h_s.1, f_s, h_s.2.2.1, h_s.2.2.2)) (gI K_s) := by
  have e39 : (f_s 102 39 - 1).toInt = (n_s : Int) - 1 := sbq n5_s
  have no_s : ¬ okAc n_s x1_s x2_s → ∀ f1_s, f1_s 102 42 = 0 → (∀ o k_s, ¬ (o = 102 ∧ 42 ≤ k_s) → f1_s o k_s = f_s o k_s) → K_s 0 (h_s.1, f1_s, h_s.2.2.1, h_s.2.2.2) := t1_s
  unfold okAc at no_s
  refine wF_le (Nat.le_succ F_s) (sg_226_0 (h_s := (h_s.1, f_s, h_s.2.2.1, h_s.2.2.2)) hk ?_)
  dsimp only
  rw [e39]
  refine ⟨fun c1_s => no_s (by omega) _ zsame_up (fun o k_s w_s => zne_up (by omega)), fun c1_s => ⟨fun c2_s => no_s (by omega) _ zsame_up (fun o k_s w_s => zne_up (by omega)), fun c2_s => fun c3_s => ?_⟩⟩
  have z1 := azix (i := x1_s) (by omega)
  have kd := hkd (zix x1_s) (by omega)
  have zk := azix (i := f_s 122 (zix x1_s)) (by omega)
  have k8_s : zix (f_s 122 (zix x1_s)) < 8 := by omega
  have ow : owM (zup (zup (zup f_s 102 42 0) 102 43 (f_s 122 (zix x1_s))) 102 44 x1_s) (zix (f_s 122 (zix x1_s))) x1_s := by
    refine ⟨?_, zsame_up⟩
    rw [zne_up (by omega), zsame_up]
    omega
  have sm_s : sM (zup (zup (zup f_s 102 42 0) 102 43 (f_s 122 (zix x1_s))) 102 44 x1_s) s_s := by
    refine ⟨?_, fun k_s hk1 => ?_⟩
    · rw [zne_up (by omega), zne_up (by omega), zsame_up, hs0]
    · rw [zne_up (by omega), zne_up (by omega), zne_up (by omega)]
      exact hs1 k_s hk1
  have fr_s : ∀ f1_s, frNc (zup (zup (zup f_s 102 42 0) 102 43 (f_s 122 (zix x1_s))) 102 44 x1_s) f1_s → ∀ o k_s, ¬ (o = 102 ∧ 42 ≤ k_s) → ¬ o = 123 → f1_s o k_s = f_s o k_s := fun f1_s g_s o k_s w1_s w2_s => by
    rw [g_s o k_s (by omega) w2_s, zne_up (by omega), zne_up (by omega), zne_up (by omega)]
  refine ⟨fun c4_s => ?_, fun c4_s => ⟨fun c6_s => ?_, fun c6_s => ⟨fun c8_s => ?_, fun c8_s => ⟨fun c10_s => ?_, fun c10_s => ?_⟩⟩⟩⟩
  · have za := azix (i := x2_s) (by omega)
    have ea : zix x2_s = 0 := by omega
    have t2_s := t2_s (by unfold okAc; omega)
    rw [ea, ac_0 k8_s] at t2_s
    exact sp_222 (h_s := h_s) (k_s := zix (f_s 122 (zix x1_s))) hk zk.symm ow sm_s (fun f1_s p1_s p2_s => fun _ => t2_s f1_s p1_s (fr_s f1_s p2_s))
  · have za := azix (i := x2_s) (by omega)
    have ea : zix x2_s = 1 := by omega
    have t2_s := t2_s (by unfold okAc; omega)
    rw [ea, ac_1 k8_s] at t2_s
    exact sp_223 (h_s := h_s) (k_s := zix (f_s 122 (zix x1_s))) hk zk.symm ow sm_s (fun f1_s p1_s p2_s => fun _ => t2_s f1_s p1_s (fr_s f1_s p2_s))
  · have za := azix (i := x2_s) (by omega)
    have ea : zix x2_s = 2 := by omega
    have t2_s := t2_s (by unfold okAc; omega)
    rw [ea, ac_2 k8_s] at t2_s
    exact sp_224 (h_s := h_s) (k_s := zix (f_s 122 (zix x1_s))) hk zk.symm ow sm_s (fun f1_s p1_s p2_s => fun _ => t2_s f1_s p1_s (fr_s f1_s p2_s))
  · have za := azix (i := x2_s) (by omega)
    have ea : zix x2_s = 3 := by omega
    have t2_s := t2_s (by unfold okAc; omega)
    rw [ea, ac_3 k8_s] at t2_s
    exact sp_225 (h_s := h_s) (k_s := zix (f_s 122 (zix x1_s))) hk zk.symm ow sm_s (fun f1_s p1_s p2_s => fun _ => t2_s f1_s p1_s (fr_s f1_s p2_s))
  · exact no_s (by omega) _ (by rw [zne_up (by omega), zne_up (by omega), zsame_up]) (fun o k_s w_s => by rw [zne_up (by omega), zne_up (by omega), zne_up (by omega)])
theorem pr_act (hk : hKn h_s) (ha_s : tA h_s) : wF F_s 126 (0, [some (.ref 6), some (.int x1_s), some (.int x2_s), some (.int x3)], [], h_s) (gI (fun v_s h1 => wF F_s 226 (0, [some (.ref 102), some (.int x1_s), some (.int x2_s), some (.int x3)], [], h1) (gI (fun v2 h2 => v_s = v2 ∧ tA h2)))) := by
  have ha0 : tAf h_s.2.1 := ha_s
  obtain ⟨tb_s, a2, a3, n_s, n1_s, n2_s, n3_s, n4_s⟩ := ha_s
  have n5_s : (h_s.2.1 102 39).toInt = (n_s : Int) := by rw [n3_s]; exact n2_s
  have no1 : ¬ okAc n_s x1_s x2_s → wF F_s 226 (0, [some (.ref 102), some (.int x1_s), some (.int x2_s), some (.int x3)], [], (h_s.1, zup h_s.2.1 47 2 0, h_s.2.2.1, h_s.2.2.2)) (gI (fun v2 h2 => (0 : Int32) = v2 ∧ tA h2)) := fun w_s => by
    refine sp_226 (n_s := n_s) (s_s := (0, fun k_s => h_s.2.1 123 k_s)) hk rfl (fun k_s _ => by rw [zne_up (by omega)]) (by rw [zne_up (by omega)]; exact n5_s) n1_s (fun k_s hk1 => ?_) (fun _ f1_s g1 g2 => ⟨rfl, ?_⟩) (fun o => absurd o w_s)
    · rw [zne_up (by omega), ← (n4_s k_s hk1).1]
      exact (n4_s k_s hk1).2
    · show tAf f1_s
      refine tAf_z (f_s := h_s.2.1) ?_ (fun k_s hk1 => ?_) (fun o k_s q_s => ?_) ha0
      · rw [g1, g2 _ _ (by omega), zsame_up]
      · rw [g2 _ _ (by omega), g2 _ _ (by omega), zne_up (by omega), zne_up (by omega)]
        exact a3 k_s hk1
      · rw [g2 _ _ (by omega), zne_up (by omega)]
  have no_s : ¬ okAc n_s x1_s x2_s → wF F_s 226 (0, [some (.ref 102), some (.int x1_s), some (.int x2_s), some (.int x3)], [], (h_s.1, zup h_s.2.1 47 2 0, h_s.2.2.1, h_s.2.2.2)) (gI (fun v2 h2 => (0 : Int32) = v2 ∧ tA h2)) := no1
  unfold okAc at no_s
  refine wF_le (Nat.le_succ F_s) (sg_126_0 (h_s := h_s) hk ?_)
  refine wF_le (Nat.le_succ F_s) (sg_5_0 (h_s := h_s) hk ?_)
  rw [n2_s]
  refine ⟨fun c1_s => fun _ => no_s (by omega), fun c1_s => ⟨fun c2_s => ⟨fun c3_s => fun _ => no_s (by omega), fun c3_s => ⟨fun c4_s => fun _ => no_s (by omega), fun c4_s => fun c5_s => ?_⟩⟩, fun c2_s => fun _ => no_s (by omega)⟩⟩
  have ok_s : okAc n_s x1_s x2_s := by
    unfold okAc
    omega
  have z1 := azix (i := x1_s) (by omega)
  have z2 := azix (i := x2_s) (by omega)
  obtain ⟨k1_s, k2_s, k3_s⟩ := n4_s (zix x1_s) (by omega)
  have zk := azix (i := h_s.2.1 48 (zix x1_s)) (by omega)
  have k8_s : zix (h_s.2.1 48 (zix x1_s)) < 8 := by omega
  refine (v_all (h_s := h_s) (kd := zix (h_s.2.1 48 (zix x1_s))) (nm := x1_s) hk k8_s F_s).1 31 (zix (h_s.2.1 48 (zix x1_s))) (zix x2_s) _ x2_s x3 0 (0, fun k_s => h_s.2.1 49 k_s) _ _ zk.symm k8_s z2.symm (by omega) rfl (by decide) ⟨⟨fun k_s hk1 => ?_, fun k_s hk1 => ?_⟩, ?_, ?_⟩ ⟨?_, fun k_s hk1 => ?_⟩ (fun f1_s p1_s p2_s => fun _ => fun _ => ?_)
  · rw [zne_up (by omega), zne_up (by omega), zne_up (by omega)]
    exact tb_s.1 k_s hk1
  · rw [zne_up (by omega), zne_up (by omega), zne_up (by omega)]
    exact tb_s.2 k_s hk1
  · rw [zsame_up]
    exact zk.symm
  · rw [zne_up (by omega), zsame_up]
  · rw [zne_up (by omega), zne_up (by omega), zsame_up]
  · rw [zne_up (by omega), zne_up (by omega), zne_up (by omega)]
  · have fr1 : ∀ o k_s, ¬ (o = 47 ∧ (k_s = 2 ∨ k_s = 4 ∨ k_s = 5)) → ¬ o = 49 → f1_s o k_s = h_s.2.1 o k_s := fun o k_s w1_s w2_s => by
      rw [p2_s o k_s (by omega) w2_s, zne_up (by omega), zne_up (by omega), zne_up (by omega)]
    have e122_s : ∀ k_s, f1_s 122 k_s = h_s.2.1 122 k_s := fun k_s => fr1 _ _ (by omega) (by omega)
    refine sp_226 (n_s := n_s) (s_s := (0, fun k_s => h_s.2.1 49 k_s)) hk rfl (fun k_s hk1 => ?_) (by rw [fr1 _ _ (by omega) (by omega)]; exact n5_s) n1_s (fun k_s hk1 => ?_) (fun w_s => absurd ok_s w_s) (fun _ f2_s g1 g2 => ?_)
    · rw [fr1 _ _ (by omega) (by omega)]
      exact (a3 k_s hk1).symm
    · rw [e122_s, ← (n4_s k_s hk1).1]
      exact (n4_s k_s hk1).2
    · rw [e122_s, ← k1_s] at g1 ⊢
      refine ⟨rfl, ?_⟩
      show tAf f2_s
      refine tAf_z (f_s := h_s.2.1) ?_ (fun k_s hk1 => ?_) (fun o k_s q_s => ?_) ha0
      · rw [g1.1, g2 _ _ (by omega) (by omega), p1_s.1]
      · rw [g1.2 k_s hk1, g2 _ _ (by omega) (by omega), p1_s.2 k_s hk1]
      · rw [g2 _ _ (by omega) (by omega), fr1 _ _ (by omega) (by omega)]
end PA_s
/-! What ended runs give: printed by a program (wip/fun/sg.py). -/
/-- ColdShod.taken(II)I, from 0 on -/
theorem sg_133_0 {F_s : Nat} {x1_s : Int32} {x2_s : Int32} {h_s : zH} {K_s : Int32 → zH → Prop} (hk : hKn h_s) (t_s : (x1_s.toInt < 0 → K_s (-1) h_s) ∧ (¬ x1_s.toInt < 0 → ((x1_s.toInt < 6 → ((x2_s.toInt < 0 → K_s (-1) h_s) ∧ (¬ x2_s.toInt < 0 → ((x2_s.toInt < 8 → (zix x1_s < 6 → ((h_s.2.1 (76 + 2 * (zix x1_s)) 0).toInt = 0 → K_s (-11) h_s) ∧ (¬ (h_s.2.1 (76 + 2 * (zix x1_s)) 0).toInt = 0 → (((h_s.2.1 (76 + 2 * (zix x1_s)) 0).toInt = 1 → (((h_s.2.1 (76 + 2 * (zix x1_s)) 1).toInt < 0 → K_s (-12) h_s) ∧ (¬ (h_s.2.1 (76 + 2 * (zix x1_s)) 1).toInt < 0 → (((h_s.2.1 (76 + 2 * (zix x1_s)) 1).toInt < (h_s.2.1 47 1).toInt → (zix (h_s.2.1 (76 + 2 * (zix x1_s)) 1) < 50 → wF F_s 3 (0, [some (.int (h_s.2.1 48 (zix (h_s.2.1 (76 + 2 * (zix x1_s)) 1)))), some (.int x2_s), none, none], [], h_s) (gI (fun v11 h11 => hKn h11 → (v11.toInt = 0 → K_s (-12) h11) ∧ (¬ v11.toInt = 0 → K_s (h_s.2.1 48 (zix (h_s.2.1 (76 + 2 * (zix x1_s)) 1))) h11))))) ∧ (¬ (h_s.2.1 (76 + 2 * (zix x1_s)) 1).toInt < (h_s.2.1 47 1).toInt → K_s (-12) h_s))))) ∧ (¬ (h_s.2.1 (76 + 2 * (zix x1_s)) 0).toInt = 1 → K_s (-12) h_s))))) ∧ (¬ x2_s.toInt < 8 → K_s (-1) h_s))))) ∧ (¬ x1_s.toInt < 6 → K_s (-1) h_s)))) : wF (F_s + 1) 133 (0, [some (.ref 6), some (.int x1_s), some (.int x2_s), none, none], [], h_s) (gI K_s) := by
  refine w_0 (pc := 0) (e_s := (1, 1, 1, 0, 0, .null, [])) (y_s := (1, [some (.ref _), some (.int _), some (.int _), none, none], [.int _], _)) rfl (u_ rfl) ?_
  refine wcI (pc := 1) (len_s := 3) rfl rfl (l := [some (.int _)]) rfl ?_
  refine w_t (pc := 0) (e_s := (1, 1, 0, 0, 0, .null, [])) (y_s := (1, [some (.int _)], [.int _], _)) rfl (u_ rfl) ?_
  refine wq2 (pc := 1) (len_s := 3) rfl rfl (fun c1_s => ?_) (fun c1_s => ?_)
  · replace t_s := t_s.1 c1_s
    refine w_t (pc := 14) (e_s := (0, 1, 0, 0, 0, .int 0, [])) (y_s := (15, [some (.int _)], [.int _], _)) rfl (u_ rfl) ?_
    refine wrI (pc := 15) (len_s := 1) rfl hk ?_
    show wF _ 133 (4, [some (.ref _), some (.int _), some (.int _), none, none], [.int _], _) _
    refine w_t (pc := 4) (e_s := (15, 3, 17, 0, 0, .null, [])) (y_s := (17, [some (.ref _), some (.int _), some (.int _), none, none], [], _)) rfl (u_ rfl) ?_
    refine w_t (pc := 17) (e_s := (0, 1, 0, 0, 0, .int (-1), [])) (y_s := (18, [some (.ref _), some (.int _), some (.int _), none, none], [.int _], _)) rfl (u_ rfl) ?_
    exact wrI (pc := 18) (len_s := 1) rfl hk t_s
  · replace t_s := t_s.2 c1_s
    refine w_t (pc := 4) (e_s := (1, 1, 0, 0, 0, .null, [])) (y_s := (5, [some (.int _)], [.int _], _)) rfl (u_ rfl) ?_
    refine w_t (pc := 5) (e_s := (0, 2, 0, 0, 0, .int 6, [])) (y_s := (7, [some (.int _)], [.int _, .int _], _)) rfl (u_ rfl) ?_
    refine wi3 (pc := 7) (len_s := 3) (Y := 6) rfl rfl (by decide) (fun c2_s => ?_) (fun c2_s => ?_)
    · replace t_s := t_s.1 c2_s
      refine w_t (pc := 10) (e_s := (0, 1, 0, 0, 0, .int 1, [])) (y_s := (11, [some (.int _)], [.int _], _)) rfl (u_ rfl) ?_
      refine w_t (pc := 11) (e_s := (17, 3, 15, 0, 0, .null, [])) (y_s := (15, [some (.int _)], [.int _], _)) rfl (u_ rfl) ?_
      refine wrI (pc := 15) (len_s := 1) rfl hk ?_
      show wF _ 133 (4, [some (.ref _), some (.int _), some (.int _), none, none], [.int _], _) _
      refine w_t (pc := 4) (e_s := (15, 3, 17, 0, 0, .null, [])) (y_s := (7, [some (.ref _), some (.int _), some (.int _), none, none], [], _)) rfl (u_ rfl) ?_
      refine w_t (pc := 7) (e_s := (1, 1, 2, 0, 0, .null, [])) (y_s := (8, [some (.ref _), some (.int _), some (.int _), none, none], [.int _], _)) rfl (u_ rfl) ?_
      refine wq2 (pc := 8) (len_s := 3) rfl rfl (fun c3_s => ?_) (fun c3_s => ?_)
      · replace t_s := t_s.1 c3_s
        refine w_t (pc := 17) (e_s := (0, 1, 0, 0, 0, .int (-1), [])) (y_s := (18, [some (.ref _), some (.int _), some (.int _), none, none], [.int _], _)) rfl (u_ rfl) ?_
        exact wrI (pc := 18) (len_s := 1) rfl hk t_s
      · replace t_s := t_s.2 c3_s
        refine w_t (pc := 11) (e_s := (1, 1, 2, 0, 0, .null, [])) (y_s := (12, [some (.ref _), some (.int _), some (.int _), none, none], [.int _], _)) rfl (u_ rfl) ?_
        refine w_t (pc := 12) (e_s := (0, 2, 0, 0, 0, .int 8, [])) (y_s := (14, [some (.ref _), some (.int _), some (.int _), none, none], [.int _, .int _], _)) rfl (u_ rfl) ?_
        refine wi2 (pc := 14) (len_s := 3) (Y := 8) rfl rfl (by decide) (fun c4_s => ?_) (fun c4_s => ?_)
        · replace t_s := t_s.1 c4_s
          refine w_t (pc := 19) (e_s := (3, 1, 0, 0, 0, .null, [])) (y_s := (20, [some (.ref _), some (.int _), some (.int _), none, none], [.ref _], _)) rfl (u_ rfl) ?_
          refine w20r (pc := 20) (len_s := 3) (q_s := 71) rfl (krq hk rfl) ?_
          refine w_t (pc := 23) (e_s := (1, 1, 1, 0, 0, .null, [])) (y_s := (24, [some (.ref _), some (.int _), some (.int _), none, none], [.int _, .ref _], _)) rfl (u_ rfl) ?_
          refine w24 (g_s := fun j_ => 76 + 2 * j_) (pc := 24) (len_s := 1) hk rfl (hk.1 71 4 6 rfl rfl) kg71 (fun c5_s => ?_)
          replace t_s := t_s c5_s
          refine w_t (pc := 25) (e_s := (6, 1, 3, 0, 0, .null, [])) (y_s := (26, [some (.ref _), some (.int _), some (.int _), some (.ref _), none], [], _)) rfl (u_ rfl) ?_
          refine w_t (pc := 26) (e_s := (3, 1, 3, 0, 0, .null, [])) (y_s := (27, [some (.ref _), some (.int _), some (.int _), some (.ref _), none], [.ref _], _)) rfl (u_ rfl) ?_
          refine w20 (pc := 27) (len_s := 3) rfl ?_
          refine wq1 (pc := 30) (len_s := 3) rfl rfl (fun c6_s => ?_) (fun c6_s => ?_)
          · replace t_s := t_s.1 c6_s
            refine w_t (pc := 33) (e_s := (0, 2, 0, 0, 0, .int (-11), [])) (y_s := (35, [some (.ref _), some (.int _), some (.int _), some (.ref _), none], [.int _], _)) rfl (u_ rfl) ?_
            exact wrI (pc := 35) (len_s := 1) rfl hk t_s
          · replace t_s := t_s.2 c6_s
            refine w_t (pc := 36) (e_s := (3, 1, 3, 0, 0, .null, [])) (y_s := (37, [some (.ref _), some (.int _), some (.int _), some (.ref _), none], [.ref _], _)) rfl (u_ rfl) ?_
            refine w20 (pc := 37) (len_s := 3) rfl ?_
            refine w_t (pc := 40) (e_s := (0, 1, 0, 0, 0, .int 1, [])) (y_s := (41, [some (.ref _), some (.int _), some (.int _), some (.ref _), none], [.int _, .int _], _)) rfl (u_ rfl) ?_
            refine wi1 (pc := 41) (len_s := 3) (Y := 1) rfl rfl (by decide) (fun c7_s => ?_) (fun c7_s => ?_)
            · replace t_s := t_s.1 c7_s
              refine w_t (pc := 44) (e_s := (3, 1, 0, 0, 0, .null, [])) (y_s := (45, [some (.ref _), some (.int _), some (.int _), some (.ref _), none], [.ref _], _)) rfl (u_ rfl) ?_
              refine w20r (pc := 45) (len_s := 3) (q_s := 47) rfl (krq hk rfl) ?_
              refine w_t (pc := 48) (e_s := (3, 1, 3, 0, 0, .null, [])) (y_s := (49, [some (.ref _), some (.int _), some (.int _), some (.ref _), none], [.ref _, .ref _], _)) rfl (u_ rfl) ?_
              refine w20 (pc := 49) (len_s := 3) rfl ?_
              refine wcI (pc := 52) (len_s := 3) rfl rfl (l := [some (.ref _), some (.int _)]) rfl ?_
              refine w_t (pc := 0) (e_s := (1, 1, 1, 0, 0, .null, [])) (y_s := (1, [some (.ref _), some (.int _)], [.int _], _)) rfl (u_ rfl) ?_
              refine wq2 (pc := 1) (len_s := 3) rfl rfl (fun c8_s => ?_) (fun c8_s => ?_)
              · replace t_s := t_s.1 c8_s
                refine w_t (pc := 16) (e_s := (0, 1, 0, 0, 0, .int 0, [])) (y_s := (17, [some (.ref _), some (.int _)], [.int _], _)) rfl (u_ rfl) ?_
                refine wrI (pc := 17) (len_s := 1) rfl hk ?_
                show wF _ 133 (55, [some (.ref _), some (.int _), some (.int _), some (.ref _), none], [.int _], _) _
                refine w_t (pc := 55) (e_s := (15, 3, 61, 1, 0, .null, [])) (y_s := (58, [some (.ref _), some (.int _), some (.int _), some (.ref _), none], [], _)) rfl (u_ rfl) ?_
                refine w_t (pc := 58) (e_s := (0, 2, 0, 0, 0, .int (-12), [])) (y_s := (60, [some (.ref _), some (.int _), some (.int _), some (.ref _), none], [.int _], _)) rfl (u_ rfl) ?_
                exact wrI (pc := 60) (len_s := 1) rfl hk t_s
              · replace t_s := t_s.2 c8_s
                refine w_t (pc := 4) (e_s := (1, 1, 1, 0, 0, .null, [])) (y_s := (5, [some (.ref _), some (.int _)], [.int _], _)) rfl (u_ rfl) ?_
                refine w_t (pc := 5) (e_s := (3, 1, 0, 0, 0, .null, [])) (y_s := (6, [some (.ref _), some (.int _)], [.ref _, .int _], _)) rfl (u_ rfl) ?_
                refine w20 (pc := 6) (len_s := 3) rfl ?_
                refine wi3 (pc := 9) (len_s := 3) rfl rfl rfl (fun c9_s => ?_) (fun c9_s => ?_)
                · replace t_s := t_s.1 c9_s
                  refine w_t (pc := 12) (e_s := (0, 1, 0, 0, 0, .int 1, [])) (y_s := (13, [some (.ref _), some (.int _)], [.int _], _)) rfl (u_ rfl) ?_
                  refine w_t (pc := 13) (e_s := (17, 3, 17, 0, 0, .null, [])) (y_s := (17, [some (.ref _), some (.int _)], [.int _], _)) rfl (u_ rfl) ?_
                  refine wrI (pc := 17) (len_s := 1) rfl hk ?_
                  show wF _ 133 (55, [some (.ref _), some (.int _), some (.int _), some (.ref _), none], [.int _], _) _
                  refine w_t (pc := 55) (e_s := (15, 3, 61, 1, 0, .null, [])) (y_s := (61, [some (.ref _), some (.int _), some (.int _), some (.ref _), none], [], _)) rfl (u_ rfl) ?_
                  refine w_t (pc := 61) (e_s := (3, 1, 0, 0, 0, .null, [])) (y_s := (62, [some (.ref _), some (.int _), some (.int _), some (.ref _), none], [.ref _], _)) rfl (u_ rfl) ?_
                  refine w20r (pc := 62) (len_s := 3) (q_s := 47) rfl (krq hk rfl) ?_
                  refine w20r (pc := 65) (len_s := 3) (q_s := 48) rfl (krq hk rfl) ?_
                  refine w_t (pc := 68) (e_s := (3, 1, 3, 0, 0, .null, [])) (y_s := (69, [some (.ref _), some (.int _), some (.int _), some (.ref _), none], [.ref _, .ref _], _)) rfl (u_ rfl) ?_
                  refine w20 (pc := 69) (len_s := 3) rfl ?_
                  refine w22 (pc := 72) (len_s := 1) rfl (hk.1 48 0 50 rfl rfl) (fun c10_s => ?_)
                  replace t_s := t_s c10_s
                  refine w_t (pc := 73) (e_s := (4, 2, 4, 0, 0, .null, [])) (y_s := (75, [some (.ref _), some (.int _), some (.int _), some (.ref _), some (.int _)], [], _)) rfl (u_ rfl) ?_
                  refine w_t (pc := 75) (e_s := (1, 2, 4, 0, 0, .null, [])) (y_s := (77, [some (.ref _), some (.int _), some (.int _), some (.ref _), some (.int _)], [.int _], _)) rfl (u_ rfl) ?_
                  refine w_t (pc := 77) (e_s := (1, 1, 2, 0, 0, .null, [])) (y_s := (78, [some (.ref _), some (.int _), some (.int _), some (.ref _), some (.int _)], [.int _, .int _], _)) rfl (u_ rfl) ?_
                  refine wcI (pc := 78) (len_s := 3) rfl rfl (l := [some (.int _), some (.int _), none, none]) rfl (wmI t_s (fun v11 h11 hk t_s => ?_))
                  replace t_s := t_s hk
                  refine wq0 (pc := 81) (len_s := 3) rfl rfl (fun c12_s => ?_) (fun c12_s => ?_)
                  · replace t_s := t_s.1 c12_s
                    refine w_t (pc := 89) (e_s := (0, 2, 0, 0, 0, .int (-12), [])) (y_s := (91, [some (.ref _), some (.int _), some (.int _), some (.ref _), some (.int _)], [.int _], _)) rfl (u_ rfl) ?_
                    exact wrI (pc := 91) (len_s := 1) rfl hk t_s
                  · replace t_s := t_s.2 c12_s
                    refine w_t (pc := 84) (e_s := (1, 2, 4, 0, 0, .null, [])) (y_s := (86, [some (.ref _), some (.int _), some (.int _), some (.ref _), some (.int _)], [.int _], _)) rfl (u_ rfl) ?_
                    refine w_t (pc := 86) (e_s := (17, 3, 91, 0, 0, .null, [])) (y_s := (91, [some (.ref _), some (.int _), some (.int _), some (.ref _), some (.int _)], [.int _], _)) rfl (u_ rfl) ?_
                    exact wrI (pc := 91) (len_s := 1) rfl hk t_s
                · replace t_s := t_s.2 c9_s
                  refine w_t (pc := 16) (e_s := (0, 1, 0, 0, 0, .int 0, [])) (y_s := (17, [some (.ref _), some (.int _)], [.int _], _)) rfl (u_ rfl) ?_
                  refine wrI (pc := 17) (len_s := 1) rfl hk ?_
                  show wF _ 133 (55, [some (.ref _), some (.int _), some (.int _), some (.ref _), none], [.int _], _) _
                  refine w_t (pc := 55) (e_s := (15, 3, 61, 1, 0, .null, [])) (y_s := (58, [some (.ref _), some (.int _), some (.int _), some (.ref _), none], [], _)) rfl (u_ rfl) ?_
                  refine w_t (pc := 58) (e_s := (0, 2, 0, 0, 0, .int (-12), [])) (y_s := (60, [some (.ref _), some (.int _), some (.int _), some (.ref _), none], [.int _], _)) rfl (u_ rfl) ?_
                  exact wrI (pc := 60) (len_s := 1) rfl hk t_s
            · replace t_s := t_s.2 c7_s
              refine w_t (pc := 58) (e_s := (0, 2, 0, 0, 0, .int (-12), [])) (y_s := (60, [some (.ref _), some (.int _), some (.int _), some (.ref _), none], [.int _], _)) rfl (u_ rfl) ?_
              exact wrI (pc := 60) (len_s := 1) rfl hk t_s
        · replace t_s := t_s.2 c4_s
          refine w_t (pc := 17) (e_s := (0, 1, 0, 0, 0, .int (-1), [])) (y_s := (18, [some (.ref _), some (.int _), some (.int _), none, none], [.int _], _)) rfl (u_ rfl) ?_
          exact wrI (pc := 18) (len_s := 1) rfl hk t_s
    · replace t_s := t_s.2 c2_s
      refine w_t (pc := 14) (e_s := (0, 1, 0, 0, 0, .int 0, [])) (y_s := (15, [some (.int _)], [.int _], _)) rfl (u_ rfl) ?_
      refine wrI (pc := 15) (len_s := 1) rfl hk ?_
      show wF _ 133 (4, [some (.ref _), some (.int _), some (.int _), none, none], [.int _], _) _
      refine w_t (pc := 4) (e_s := (15, 3, 17, 0, 0, .null, [])) (y_s := (17, [some (.ref _), some (.int _), some (.int _), none, none], [], _)) rfl (u_ rfl) ?_
      refine w_t (pc := 17) (e_s := (0, 1, 0, 0, 0, .int (-1), [])) (y_s := (18, [some (.ref _), some (.int _), some (.int _), none, none], [.int _], _)) rfl (u_ rfl) ?_
      exact wrI (pc := 18) (len_s := 1) rfl hk t_s
/-- ColdShod$Acts.isUnder(II)Z, from 0 on -/
theorem sg_3_0 {F_s : Nat} {x0_s x1_s : Int32} {h_s : zH} {K_s : Int32 → zH → Prop} (hk : hKn h_s) (t_s : wF F_s 3 (4, [some (.int x0_s), some (.int x1_s), some (.int x0_s), some (.int 0)], [], h_s) (gI K_s)) : wF (F_s + 1) 3 (0, [some (.int x0_s), some (.int x1_s), none, none], [], h_s) (gI K_s) := by
  refine w_0 (pc := 0) (e_s := (1, 1, 0, 0, 0, .null, [])) (y_s := (1, [some (.int _), some (.int _), none, none], [.int _], _)) rfl (u_ rfl) ?_
  refine w_t (pc := 1) (e_s := (4, 1, 2, 0, 0, .null, [])) (y_s := (2, [some (.int _), some (.int _), some (.int _), none], [], _)) rfl (u_ rfl) ?_
  refine w_t (pc := 2) (e_s := (0, 1, 0, 0, 0, .int 0, [])) (y_s := (3, [some (.int _), some (.int _), some (.int _), none], [.int _], _)) rfl (u_ rfl) ?_
  refine w_t (pc := 3) (e_s := (4, 1, 3, 0, 0, .null, [])) (y_s := (4, [some (.int _), some (.int _), some (.int _), some (.int _)], [], _)) rfl (u_ rfl) ?_
  exact t_s
/-- ColdShod$Acts.isUnder(II)Z, from 4 on -/
theorem sg_3_4 {F_s : Nat} {x0_s x1_s x2_s x3 : Int32} {h_s : zH} {K_s : Int32 → zH → Prop} (hk : hKn h_s) (t_s : (x3.toInt < 8 → ((x2_s.toInt < 0 → K_s 0 h_s) ∧ (¬ x2_s.toInt < 0 → ((x2_s.toInt < 8 → ((x2_s.toInt = x1_s.toInt → K_s 1 h_s) ∧ (¬ x2_s.toInt = x1_s.toInt → (zix x2_s < 8 → wF F_s 3 (4, [some (.int x0_s), some (.int x1_s), some (.int (h_s.2.1 4 (zix x2_s))), some (.int (x3 + 1))], [], h_s) (gI K_s))))) ∧ (¬ x2_s.toInt < 8 → K_s 0 h_s))))) ∧ (¬ x3.toInt < 8 → K_s 0 h_s)) : wF (F_s + 1) 3 (4, [some (.int x0_s), some (.int x1_s), some (.int x2_s), some (.int x3)], [], h_s) (gI K_s) := by
  refine w_0 (pc := 4) (e_s := (1, 1, 3, 0, 0, .null, [])) (y_s := (5, [some (.int _), some (.int _), some (.int _), some (.int _)], [.int _], _)) rfl (u_ rfl) ?_
  refine w_t (pc := 5) (e_s := (0, 2, 0, 0, 0, .int 8, [])) (y_s := (7, [some (.int _), some (.int _), some (.int _), some (.int _)], [.int _, .int _], _)) rfl (u_ rfl) ?_
  refine wi3 (pc := 7) (len_s := 3) (Y := 8) rfl rfl (by decide) (fun c1_s => ?_) (fun c1_s => ?_)
  · replace t_s := t_s.1 c1_s
    refine w_t (pc := 10) (e_s := (1, 1, 2, 0, 0, .null, [])) (y_s := (11, [some (.int _), some (.int _), some (.int _), some (.int _)], [.int _], _)) rfl (u_ rfl) ?_
    refine wq2 (pc := 11) (len_s := 3) rfl rfl (fun c2_s => ?_) (fun c2_s => ?_)
    · replace t_s := t_s.1 c2_s
      refine w_t (pc := 39) (e_s := (0, 1, 0, 0, 0, .int 0, [])) (y_s := (40, [some (.int _), some (.int _), some (.int _), some (.int _)], [.int _], _)) rfl (u_ rfl) ?_
      exact wrI (pc := 40) (len_s := 1) rfl hk t_s
    · replace t_s := t_s.2 c2_s
      refine w_t (pc := 14) (e_s := (1, 1, 2, 0, 0, .null, [])) (y_s := (15, [some (.int _), some (.int _), some (.int _), some (.int _)], [.int _], _)) rfl (u_ rfl) ?_
      refine w_t (pc := 15) (e_s := (0, 2, 0, 0, 0, .int 8, [])) (y_s := (17, [some (.int _), some (.int _), some (.int _), some (.int _)], [.int _, .int _], _)) rfl (u_ rfl) ?_
      refine wi3 (pc := 17) (len_s := 3) (Y := 8) rfl rfl (by decide) (fun c3_s => ?_) (fun c3_s => ?_)
      · replace t_s := t_s.1 c3_s
        refine w_t (pc := 20) (e_s := (1, 1, 2, 0, 0, .null, [])) (y_s := (21, [some (.int _), some (.int _), some (.int _), some (.int _)], [.int _], _)) rfl (u_ rfl) ?_
        refine w_t (pc := 21) (e_s := (1, 1, 1, 0, 0, .null, [])) (y_s := (22, [some (.int _), some (.int _), some (.int _), some (.int _)], [.int _, .int _], _)) rfl (u_ rfl) ?_
        refine wi1 (pc := 22) (len_s := 3) rfl rfl rfl (fun c4_s => ?_) (fun c4_s => ?_)
        · replace t_s := t_s.1 c4_s
          refine w_t (pc := 25) (e_s := (0, 1, 0, 0, 0, .int 1, [])) (y_s := (26, [some (.int _), some (.int _), some (.int _), some (.int _)], [.int _], _)) rfl (u_ rfl) ?_
          exact wrI (pc := 26) (len_s := 1) rfl hk t_s
        · replace t_s := t_s.2 c4_s
          refine w_t (pc := 27) (e_s := (43, 3, 4, 0, 0, .null, [(0, 723)])) (y_s := (30, [some (.int _), some (.int _), some (.int _), some (.int _)], [.ref _], _)) rfl (u_ rfl) ?_
          refine w_t (pc := 30) (e_s := (1, 1, 2, 0, 0, .null, [])) (y_s := (31, [some (.int _), some (.int _), some (.int _), some (.int _)], [.int _, .ref _], _)) rfl (u_ rfl) ?_
          refine w22 (pc := 31) (len_s := 1) rfl (hk.1 4 5 8 rfl rfl) (fun c5_s => ?_)
          replace t_s := t_s c5_s
          refine w_t (pc := 32) (e_s := (4, 1, 2, 0, 0, .null, [])) (y_s := (33, [some (.int _), some (.int _), some (.int _), some (.int _)], [], _)) rfl (u_ rfl) ?_
          refine w_t (pc := 33) (e_s := (19, 3, 3, 0, 0, .int 1, [])) (y_s := (36, [some (.int _), some (.int _), some (.int _), some (.int _)], [], _)) rfl (u_ rfl) ?_
          refine w_t (pc := 36) (e_s := (17, 3, 4, 0, 0, .null, [])) (y_s := (4, [some (.int _), some (.int _), some (.int _), some (.int _)], [], _)) rfl (u_ rfl) ?_
          exact t_s
      · replace t_s := t_s.2 c3_s
        refine w_t (pc := 39) (e_s := (0, 1, 0, 0, 0, .int 0, [])) (y_s := (40, [some (.int _), some (.int _), some (.int _), some (.int _)], [.int _], _)) rfl (u_ rfl) ?_
        exact wrI (pc := 40) (len_s := 1) rfl hk t_s
  · replace t_s := t_s.2 c1_s
    refine w_t (pc := 39) (e_s := (0, 1, 0, 0, 0, .int 0, [])) (y_s := (40, [some (.int _), some (.int _), some (.int _), some (.int _)], [.int _], _)) rfl (u_ rfl) ?_
    exact wrI (pc := 40) (len_s := 1) rfl hk t_s
/-- ColdShodModel.taken(II)I, from 0 on -/
theorem sg_236_0 {F_s : Nat} {x1_s : Int32} {x2_s : Int32} {h_s : zH} {K_s : Int32 → zH → Prop} (hk : hKn h_s) (t_s : (x1_s.toInt < 0 → K_s (-1) h_s) ∧ (¬ x1_s.toInt < 0 → ((5 < x1_s.toInt → K_s (-1) h_s) ∧ (¬ 5 < x1_s.toInt → ((x2_s.toInt < 0 → K_s (-1) h_s) ∧ (¬ x2_s.toInt < 0 → ((7 < x2_s.toInt → K_s (-1) h_s) ∧ (¬ 7 < x2_s.toInt → (zix x1_s < 6 → ((h_s.2.1 124 (zix x1_s)).toInt < 0 → K_s (-11) h_s) ∧ (¬ (h_s.2.1 124 (zix x1_s)).toInt < 0 → (((h_s.2.1 124 (zix x1_s)).toInt < 50 → (zix (h_s.2.1 124 (zix x1_s)) < 50 → wF F_s 236 (58, [some (.ref 102), some (.int x1_s), some (.int x2_s), some (.int (h_s.2.1 122 (zix (h_s.2.1 124 (zix x1_s)))))], [], h_s) (gI K_s))) ∧ (¬ (h_s.2.1 124 (zix x1_s)).toInt < 50 → K_s (-12) h_s)))))))))))) : wF (F_s + 1) 236 (0, [some (.ref 102), some (.int x1_s), some (.int x2_s), none], [], h_s) (gI K_s) := by
  refine w_0 (pc := 0) (e_s := (1, 1, 1, 0, 0, .null, [])) (y_s := (1, [some (.ref _), some (.int _), some (.int _), none], [.int _], _)) rfl (u_ rfl) ?_
  refine wcI (pc := 1) (len_s := 3) rfl rfl (l := [some (.int _)]) rfl ?_
  refine w_t (pc := 0) (e_s := (1, 1, 0, 0, 0, .null, [])) (y_s := (1, [some (.int _)], [.int _], _)) rfl (u_ rfl) ?_
  refine w_t (pc := 1) (e_s := (10, 1, 0, 0, 0, .null, [])) (y_s := (2, [some (.int _)], [.long (Int32.toInt64 _)], _)) rfl (u_ rfl) ?_
  refine w_t (pc := 2) (e_s := (0, 1, 0, 0, 0, .long 0, [])) (y_s := (3, [some (.int _)], [.long _, .long _], _)) rfl (u_ rfl) ?_
  refine w_t (pc := 3) (e_s := (0, 3, 0, 0, 0, .long 5, [(0, 1063)])) (y_s := (6, [some (.int _)], [.long _, .long _, .long _], _)) rfl (u_ rfl) ?_
  refine wcI (pc := 6) (len_s := 3) rfl rfl (l := [some (.long _), none, some (.long _), none, some (.long _), none]) rfl ?_
  refine w_t (pc := 0) (e_s := (2, 1, 0, 0, 0, .null, [])) (y_s := (1, [some (.long _), none, some (.long _), none, some (.long _), none], [.long _], _)) rfl (u_ rfl) ?_
  refine w_t (pc := 1) (e_s := (2, 1, 2, 0, 0, .null, [])) (y_s := (2, [some (.long _), none, some (.long _), none, some (.long _), none], [.long _, .long _], _)) rfl (u_ rfl) ?_
  refine w_t (pc := 2) (e_s := (14, 1, 0, 0, 0, .null, [])) (y_s := (3, [some (.long _), none, some (.long _), none, some (.long _), none], [.int (lg_cmp _ _)], _)) rfl (u_ rfl) ?_
  refine wl2 (pc := 3) (len_s := 3) (Y := 0) rfl (Int32.toInt_toInt64 _) (by decide) (fun c1_s => ?_) (fun c1_s => ?_)
  · replace t_s := t_s.1 c1_s
    refine w_t (pc := 17) (e_s := (0, 1, 0, 0, 0, .int 0, [])) (y_s := (18, [some (.long _), none, some (.long _), none, some (.long _), none], [.int _], _)) rfl (u_ rfl) ?_
    refine wrI (pc := 18) (len_s := 1) rfl hk ?_
    show wF _ 228 (9, [some (.int _)], [.int _], _) _
    refine wrI (pc := 9) (len_s := 1) rfl hk ?_
    show wF _ 236 (4, [some (.ref _), some (.int _), some (.int _), none], [.int _], _) _
    refine w_t (pc := 4) (e_s := (15, 3, 19, 0, 0, .null, [])) (y_s := (19, [some (.ref _), some (.int _), some (.int _), none], [], _)) rfl (u_ rfl) ?_
    refine w_t (pc := 19) (e_s := (0, 1, 0, 0, 0, .int (-1), [])) (y_s := (20, [some (.ref _), some (.int _), some (.int _), none], [.int _], _)) rfl (u_ rfl) ?_
    exact wrI (pc := 20) (len_s := 1) rfl hk t_s
  · replace t_s := t_s.2 c1_s
    refine w_t (pc := 6) (e_s := (2, 1, 0, 0, 0, .null, [])) (y_s := (7, [some (.long _), none, some (.long _), none, some (.long _), none], [.long _], _)) rfl (u_ rfl) ?_
    refine w_t (pc := 7) (e_s := (2, 2, 4, 0, 0, .null, [])) (y_s := (9, [some (.long _), none, some (.long _), none, some (.long _), none], [.long _, .long _], _)) rfl (u_ rfl) ?_
    refine w_t (pc := 9) (e_s := (14, 1, 0, 0, 0, .null, [])) (y_s := (10, [some (.long _), none, some (.long _), none, some (.long _), none], [.int (lg_cmp _ _)], _)) rfl (u_ rfl) ?_
    refine wl4 (pc := 10) (len_s := 3) (Y := 5) rfl (Int32.toInt_toInt64 _) (by decide) (fun c2_s => ?_) (fun c2_s => ?_)
    · replace t_s := t_s.1 c2_s
      refine w_t (pc := 17) (e_s := (0, 1, 0, 0, 0, .int 0, [])) (y_s := (18, [some (.long _), none, some (.long _), none, some (.long _), none], [.int _], _)) rfl (u_ rfl) ?_
      refine wrI (pc := 18) (len_s := 1) rfl hk ?_
      show wF _ 228 (9, [some (.int _)], [.int _], _) _
      refine wrI (pc := 9) (len_s := 1) rfl hk ?_
      show wF _ 236 (4, [some (.ref _), some (.int _), some (.int _), none], [.int _], _) _
      refine w_t (pc := 4) (e_s := (15, 3, 19, 0, 0, .null, [])) (y_s := (19, [some (.ref _), some (.int _), some (.int _), none], [], _)) rfl (u_ rfl) ?_
      refine w_t (pc := 19) (e_s := (0, 1, 0, 0, 0, .int (-1), [])) (y_s := (20, [some (.ref _), some (.int _), some (.int _), none], [.int _], _)) rfl (u_ rfl) ?_
      exact wrI (pc := 20) (len_s := 1) rfl hk t_s
    · replace t_s := t_s.2 c2_s
      refine w_t (pc := 13) (e_s := (0, 1, 0, 0, 0, .int 1, [])) (y_s := (14, [some (.long _), none, some (.long _), none, some (.long _), none], [.int _], _)) rfl (u_ rfl) ?_
      refine w_t (pc := 14) (e_s := (17, 3, 18, 0, 0, .null, [])) (y_s := (18, [some (.long _), none, some (.long _), none, some (.long _), none], [.int _], _)) rfl (u_ rfl) ?_
      refine wrI (pc := 18) (len_s := 1) rfl hk ?_
      show wF _ 228 (9, [some (.int _)], [.int _], _) _
      refine wrI (pc := 9) (len_s := 1) rfl hk ?_
      show wF _ 236 (4, [some (.ref _), some (.int _), some (.int _), none], [.int _], _) _
      refine w_t (pc := 4) (e_s := (15, 3, 19, 0, 0, .null, [])) (y_s := (7, [some (.ref _), some (.int _), some (.int _), none], [], _)) rfl (u_ rfl) ?_
      refine w_t (pc := 7) (e_s := (1, 1, 2, 0, 0, .null, [])) (y_s := (8, [some (.ref _), some (.int _), some (.int _), none], [.int _], _)) rfl (u_ rfl) ?_
      refine w_t (pc := 8) (e_s := (10, 1, 0, 0, 0, .null, [])) (y_s := (9, [some (.ref _), some (.int _), some (.int _), none], [.long (Int32.toInt64 _)], _)) rfl (u_ rfl) ?_
      refine w_t (pc := 9) (e_s := (0, 1, 0, 0, 0, .long 0, [])) (y_s := (10, [some (.ref _), some (.int _), some (.int _), none], [.long _, .long _], _)) rfl (u_ rfl) ?_
      refine w_t (pc := 10) (e_s := (0, 3, 0, 0, 0, .long 7, [(0, 1062)])) (y_s := (13, [some (.ref _), some (.int _), some (.int _), none], [.long _, .long _, .long _], _)) rfl (u_ rfl) ?_
      refine wcI (pc := 13) (len_s := 3) rfl rfl (l := [some (.long _), none, some (.long _), none, some (.long _), none]) rfl ?_
      refine w_t (pc := 0) (e_s := (2, 1, 0, 0, 0, .null, [])) (y_s := (1, [some (.long _), none, some (.long _), none, some (.long _), none], [.long _], _)) rfl (u_ rfl) ?_
      refine w_t (pc := 1) (e_s := (2, 1, 2, 0, 0, .null, [])) (y_s := (2, [some (.long _), none, some (.long _), none, some (.long _), none], [.long _, .long _], _)) rfl (u_ rfl) ?_
      refine w_t (pc := 2) (e_s := (14, 1, 0, 0, 0, .null, [])) (y_s := (3, [some (.long _), none, some (.long _), none, some (.long _), none], [.int (lg_cmp _ _)], _)) rfl (u_ rfl) ?_
      refine wl2 (pc := 3) (len_s := 3) (Y := 0) rfl (Int32.toInt_toInt64 _) (by decide) (fun c3_s => ?_) (fun c3_s => ?_)
      · replace t_s := t_s.1 c3_s
        refine w_t (pc := 17) (e_s := (0, 1, 0, 0, 0, .int 0, [])) (y_s := (18, [some (.long _), none, some (.long _), none, some (.long _), none], [.int _], _)) rfl (u_ rfl) ?_
        refine wrI (pc := 18) (len_s := 1) rfl hk ?_
        show wF _ 236 (16, [some (.ref _), some (.int _), some (.int _), none], [.int _], _) _
        refine w_t (pc := 16) (e_s := (15, 3, 21, 1, 0, .null, [])) (y_s := (19, [some (.ref _), some (.int _), some (.int _), none], [], _)) rfl (u_ rfl) ?_
        refine w_t (pc := 19) (e_s := (0, 1, 0, 0, 0, .int (-1), [])) (y_s := (20, [some (.ref _), some (.int _), some (.int _), none], [.int _], _)) rfl (u_ rfl) ?_
        exact wrI (pc := 20) (len_s := 1) rfl hk t_s
      · replace t_s := t_s.2 c3_s
        refine w_t (pc := 6) (e_s := (2, 1, 0, 0, 0, .null, [])) (y_s := (7, [some (.long _), none, some (.long _), none, some (.long _), none], [.long _], _)) rfl (u_ rfl) ?_
        refine w_t (pc := 7) (e_s := (2, 2, 4, 0, 0, .null, [])) (y_s := (9, [some (.long _), none, some (.long _), none, some (.long _), none], [.long _, .long _], _)) rfl (u_ rfl) ?_
        refine w_t (pc := 9) (e_s := (14, 1, 0, 0, 0, .null, [])) (y_s := (10, [some (.long _), none, some (.long _), none, some (.long _), none], [.int (lg_cmp _ _)], _)) rfl (u_ rfl) ?_
        refine wl4 (pc := 10) (len_s := 3) (Y := 7) rfl (Int32.toInt_toInt64 _) (by decide) (fun c4_s => ?_) (fun c4_s => ?_)
        · replace t_s := t_s.1 c4_s
          refine w_t (pc := 17) (e_s := (0, 1, 0, 0, 0, .int 0, [])) (y_s := (18, [some (.long _), none, some (.long _), none, some (.long _), none], [.int _], _)) rfl (u_ rfl) ?_
          refine wrI (pc := 18) (len_s := 1) rfl hk ?_
          show wF _ 236 (16, [some (.ref _), some (.int _), some (.int _), none], [.int _], _) _
          refine w_t (pc := 16) (e_s := (15, 3, 21, 1, 0, .null, [])) (y_s := (19, [some (.ref _), some (.int _), some (.int _), none], [], _)) rfl (u_ rfl) ?_
          refine w_t (pc := 19) (e_s := (0, 1, 0, 0, 0, .int (-1), [])) (y_s := (20, [some (.ref _), some (.int _), some (.int _), none], [.int _], _)) rfl (u_ rfl) ?_
          exact wrI (pc := 20) (len_s := 1) rfl hk t_s
        · replace t_s := t_s.2 c4_s
          refine w_t (pc := 13) (e_s := (0, 1, 0, 0, 0, .int 1, [])) (y_s := (14, [some (.long _), none, some (.long _), none, some (.long _), none], [.int _], _)) rfl (u_ rfl) ?_
          refine w_t (pc := 14) (e_s := (17, 3, 18, 0, 0, .null, [])) (y_s := (18, [some (.long _), none, some (.long _), none, some (.long _), none], [.int _], _)) rfl (u_ rfl) ?_
          refine wrI (pc := 18) (len_s := 1) rfl hk ?_
          show wF _ 236 (16, [some (.ref _), some (.int _), some (.int _), none], [.int _], _) _
          refine w_t (pc := 16) (e_s := (15, 3, 21, 1, 0, .null, [])) (y_s := (21, [some (.ref _), some (.int _), some (.int _), none], [], _)) rfl (u_ rfl) ?_
          refine w_t (pc := 21) (e_s := (3, 1, 0, 0, 0, .null, [])) (y_s := (22, [some (.ref _), some (.int _), some (.int _), none], [.ref _], _)) rfl (u_ rfl) ?_
          refine w20r (pc := 22) (len_s := 3) (q_s := 124) rfl (krq hk rfl) ?_
          refine w_t (pc := 25) (e_s := (1, 1, 1, 0, 0, .null, [])) (y_s := (26, [some (.ref _), some (.int _), some (.int _), none], [.int _, .ref _], _)) rfl (u_ rfl) ?_
          refine w22 (pc := 26) (len_s := 1) rfl (hk.1 124 0 6 rfl rfl) (fun c5_s => ?_)
          replace t_s := t_s c5_s
          refine wq3 (pc := 27) (len_s := 3) rfl rfl (fun c6_s => ?_) (fun c6_s => ?_)
          · replace t_s := t_s.1 c6_s
            refine w_t (pc := 30) (e_s := (0, 2, 0, 0, 0, .int (-11), [])) (y_s := (32, [some (.ref _), some (.int _), some (.int _), none], [.int _], _)) rfl (u_ rfl) ?_
            exact wrI (pc := 32) (len_s := 1) rfl hk t_s
          · replace t_s := t_s.2 c6_s
            refine w_t (pc := 33) (e_s := (3, 1, 0, 0, 0, .null, [])) (y_s := (34, [some (.ref _), some (.int _), some (.int _), none], [.ref _], _)) rfl (u_ rfl) ?_
            refine w20r (pc := 34) (len_s := 3) (q_s := 124) rfl (krq hk rfl) ?_
            refine w_t (pc := 37) (e_s := (1, 1, 1, 0, 0, .null, [])) (y_s := (38, [some (.ref _), some (.int _), some (.int _), none], [.int _, .ref _], _)) rfl (u_ rfl) ?_
            refine w22 (pc := 38) (len_s := 1) rfl (hk.1 124 0 6 rfl rfl) (fun c7_s => ?_)
            refine w_t (pc := 39) (e_s := (0, 2, 0, 0, 0, .int 50, [])) (y_s := (41, [some (.ref _), some (.int _), some (.int _), none], [.int _, .int _], _)) rfl (u_ rfl) ?_
            refine wi2 (pc := 41) (len_s := 3) (Y := 50) rfl rfl (by decide) (fun c8_s => ?_) (fun c8_s => ?_)
            · replace t_s := t_s.1 c8_s
              refine w_t (pc := 47) (e_s := (3, 1, 0, 0, 0, .null, [])) (y_s := (48, [some (.ref _), some (.int _), some (.int _), none], [.ref _], _)) rfl (u_ rfl) ?_
              refine w_t (pc := 48) (e_s := (3, 1, 0, 0, 0, .null, [])) (y_s := (49, [some (.ref _), some (.int _), some (.int _), none], [.ref _, .ref _], _)) rfl (u_ rfl) ?_
              refine w20r (pc := 49) (len_s := 3) (q_s := 124) rfl (krq hk rfl) ?_
              refine w_t (pc := 52) (e_s := (1, 1, 1, 0, 0, .null, [])) (y_s := (53, [some (.ref _), some (.int _), some (.int _), none], [.int _, .ref _, .ref _], _)) rfl (u_ rfl) ?_
              refine w22 (pc := 53) (len_s := 1) rfl (hk.1 124 0 6 rfl rfl) (fun c9_s => ?_)
              refine wcI (pc := 54) (len_s := 3) rfl rfl (l := [some (.ref _), some (.int _)]) rfl ?_
              refine w_t (pc := 0) (e_s := (3, 1, 0, 0, 0, .null, [])) (y_s := (1, [some (.ref _), some (.int _)], [.ref _], _)) rfl (u_ rfl) ?_
              refine w20r (pc := 1) (len_s := 3) (q_s := 122) rfl (krq hk rfl) ?_
              refine w_t (pc := 4) (e_s := (1, 1, 1, 0, 0, .null, [])) (y_s := (5, [some (.ref _), some (.int _)], [.int _, .ref _], _)) rfl (u_ rfl) ?_
              refine w22 (pc := 5) (len_s := 1) rfl (hk.1 122 0 50 rfl rfl) (fun c10_s => ?_)
              replace t_s := t_s c10_s
              refine wrI (pc := 6) (len_s := 1) rfl hk ?_
              show wF _ 236 (57, [some (.ref _), some (.int _), some (.int _), none], [.int _], _) _
              refine w_t (pc := 57) (e_s := (4, 1, 3, 0, 0, .null, [])) (y_s := (58, [some (.ref _), some (.int _), some (.int _), some (.int _)], [], _)) rfl (u_ rfl) ?_
              exact t_s
            · replace t_s := t_s.2 c8_s
              refine w_t (pc := 44) (e_s := (0, 2, 0, 0, 0, .int (-12), [])) (y_s := (46, [some (.ref _), some (.int _), some (.int _), none], [.int _], _)) rfl (u_ rfl) ?_
              exact wrI (pc := 46) (len_s := 1) rfl hk t_s
/-- ColdShodModel.taken(II)I, from 58 on -/
theorem sg_236_58 {F_s : Nat} {x1_s x2_s x3 : Int32} {h_s : zH} {K_s : Int32 → zH → Prop} (hk : hKn h_s) (t_s : (x3.toInt = x2_s.toInt → (zix x1_s < 6 → (zix (h_s.2.1 124 (zix x1_s)) < 50 → K_s (h_s.2.1 122 (zix (h_s.2.1 124 (zix x1_s)))) h_s))) ∧ (¬ x3.toInt = x2_s.toInt → ((0 < x3.toInt → ((x3.toInt = 3 → wF F_s 236 (58, [some (.ref 102), some (.int x1_s), some (.int x2_s), some (.int 2)], [], h_s) (gI K_s)) ∧ (¬ x3.toInt = 3 → ((x3.toInt = 4 → wF F_s 236 (58, [some (.ref 102), some (.int x1_s), some (.int x2_s), some (.int 1)], [], h_s) (gI K_s)) ∧ (¬ x3.toInt = 4 → ((x3.toInt = 5 → wF F_s 236 (58, [some (.ref 102), some (.int x1_s), some (.int x2_s), some (.int 3)], [], h_s) (gI K_s)) ∧ (¬ x3.toInt = 5 → ((x3.toInt = 7 → wF F_s 236 (58, [some (.ref 102), some (.int x1_s), some (.int x2_s), some (.int 4)], [], h_s) (gI K_s)) ∧ (¬ x3.toInt = 7 → wF F_s 236 (58, [some (.ref 102), some (.int x1_s), some (.int x2_s), some (.int 0)], [], h_s) (gI K_s)))))))))) ∧ (¬ 0 < x3.toInt → K_s (-12) h_s)))) : wF (F_s + 1) 236 (58, [some (.ref 102), some (.int x1_s), some (.int x2_s), some (.int x3)], [], h_s) (gI K_s) := by
  refine w_0 (pc := 58) (e_s := (1, 1, 3, 0, 0, .null, [])) (y_s := (59, [some (.ref _), some (.int _), some (.int _), some (.int _)], [.int _], _)) rfl (u_ rfl) ?_
  refine w_t (pc := 59) (e_s := (1, 1, 2, 0, 0, .null, [])) (y_s := (60, [some (.ref _), some (.int _), some (.int _), some (.int _)], [.int _, .int _], _)) rfl (u_ rfl) ?_
  refine wi0 (pc := 60) (len_s := 3) rfl rfl rfl (fun c1_s => ?_) (fun c1_s => ?_)
  · replace t_s := t_s.1 c1_s
    refine w_t (pc := 75) (e_s := (1, 1, 3, 0, 0, .null, [])) (y_s := (76, [some (.ref _), some (.int _), some (.int _), some (.int _)], [.int _], _)) rfl (u_ rfl) ?_
    refine w_t (pc := 76) (e_s := (1, 1, 2, 0, 0, .null, [])) (y_s := (77, [some (.ref _), some (.int _), some (.int _), some (.int _)], [.int _, .int _], _)) rfl (u_ rfl) ?_
    refine wi1 (pc := 77) (len_s := 3) rfl rfl rfl (fun c2_s => ?_) (fun c2_s => ?_)
    · skip
      refine w_t (pc := 80) (e_s := (3, 1, 0, 0, 0, .null, [])) (y_s := (81, [some (.ref _), some (.int _), some (.int _), some (.int _)], [.ref _], _)) rfl (u_ rfl) ?_
      refine w_t (pc := 81) (e_s := (3, 1, 0, 0, 0, .null, [])) (y_s := (82, [some (.ref _), some (.int _), some (.int _), some (.int _)], [.ref _, .ref _], _)) rfl (u_ rfl) ?_
      refine w20r (pc := 82) (len_s := 3) (q_s := 124) rfl (krq hk rfl) ?_
      refine w_t (pc := 85) (e_s := (1, 1, 1, 0, 0, .null, [])) (y_s := (86, [some (.ref _), some (.int _), some (.int _), some (.int _)], [.int _, .ref _, .ref _], _)) rfl (u_ rfl) ?_
      refine w22 (pc := 86) (len_s := 1) rfl (hk.1 124 0 6 rfl rfl) (fun c3_s => ?_)
      replace t_s := t_s c3_s
      refine wcI (pc := 87) (len_s := 3) rfl rfl (l := [some (.ref _), some (.int _)]) rfl ?_
      refine w_t (pc := 0) (e_s := (3, 1, 0, 0, 0, .null, [])) (y_s := (1, [some (.ref _), some (.int _)], [.ref _], _)) rfl (u_ rfl) ?_
      refine w20r (pc := 1) (len_s := 3) (q_s := 122) rfl (krq hk rfl) ?_
      refine w_t (pc := 4) (e_s := (1, 1, 1, 0, 0, .null, [])) (y_s := (5, [some (.ref _), some (.int _)], [.int _, .ref _], _)) rfl (u_ rfl) ?_
      refine w22 (pc := 5) (len_s := 1) rfl (hk.1 122 0 50 rfl rfl) (fun c4_s => ?_)
      replace t_s := t_s c4_s
      refine wrI (pc := 6) (len_s := 1) rfl hk ?_
      show wF _ 236 (90, [some (.ref _), some (.int _), some (.int _), some (.int _)], [.int _], _) _
      refine w_t (pc := 90) (e_s := (17, 3, 95, 0, 0, .null, [])) (y_s := (95, [some (.ref _), some (.int _), some (.int _), some (.int _)], [.int _], _)) rfl (u_ rfl) ?_
      exact wrI (pc := 95) (len_s := 1) rfl hk t_s
    · exact absurd c1_s c2_s
  · replace t_s := t_s.2 c1_s
    refine w_t (pc := 63) (e_s := (1, 1, 3, 0, 0, .null, [])) (y_s := (64, [some (.ref _), some (.int _), some (.int _), some (.int _)], [.int _], _)) rfl (u_ rfl) ?_
    refine wq5 (pc := 64) (len_s := 3) rfl rfl (fun c5_s => ?_) (fun c5_s => ?_)
    · replace t_s := t_s.1 c5_s
      refine w_t (pc := 67) (e_s := (1, 1, 3, 0, 0, .null, [])) (y_s := (68, [some (.ref _), some (.int _), some (.int _), some (.int _)], [.int _], _)) rfl (u_ rfl) ?_
      refine wcI (pc := 68) (len_s := 3) rfl rfl (l := [some (.int _)]) rfl ?_
      refine w_t (pc := 0) (e_s := (1, 1, 0, 0, 0, .null, [])) (y_s := (1, [some (.int _)], [.int _], _)) rfl (u_ rfl) ?_
      refine w_t (pc := 1) (e_s := (0, 1, 0, 0, 0, .int 3, [])) (y_s := (2, [some (.int _)], [.int _, .int _], _)) rfl (u_ rfl) ?_
      refine wi1 (pc := 2) (len_s := 3) (Y := 3) rfl rfl (by decide) (fun c6_s => ?_) (fun c6_s => ?_)
      · replace t_s := t_s.1 c6_s
        refine w_t (pc := 5) (e_s := (0, 1, 0, 0, 0, .int 2, [])) (y_s := (6, [some (.int _)], [.int _], _)) rfl (u_ rfl) ?_
        refine w_t (pc := 6) (e_s := (17, 3, 38, 0, 0, .null, [])) (y_s := (38, [some (.int _)], [.int _], _)) rfl (u_ rfl) ?_
        refine wrI (pc := 38) (len_s := 1) rfl hk ?_
        show wF _ 236 (71, [some (.ref _), some (.int _), some (.int _), some (.int _)], [.int _], _) _
        refine w_t (pc := 71) (e_s := (4, 1, 3, 0, 0, .null, [])) (y_s := (72, [some (.ref _), some (.int _), some (.int _), some (.int _)], [], _)) rfl (u_ rfl) ?_
        refine w_t (pc := 72) (e_s := (17, 3, 58, 0, 0, .null, [])) (y_s := (58, [some (.ref _), some (.int _), some (.int _), some (.int _)], [], _)) rfl (u_ rfl) ?_
        exact t_s
      · replace t_s := t_s.2 c6_s
        refine w_t (pc := 9) (e_s := (1, 1, 0, 0, 0, .null, [])) (y_s := (10, [some (.int _)], [.int _], _)) rfl (u_ rfl) ?_
        refine w_t (pc := 10) (e_s := (0, 1, 0, 0, 0, .int 4, [])) (y_s := (11, [some (.int _)], [.int _, .int _], _)) rfl (u_ rfl) ?_
        refine wi1 (pc := 11) (len_s := 3) (Y := 4) rfl rfl (by decide) (fun c7_s => ?_) (fun c7_s => ?_)
        · replace t_s := t_s.1 c7_s
          refine w_t (pc := 14) (e_s := (0, 1, 0, 0, 0, .int 1, [])) (y_s := (15, [some (.int _)], [.int _], _)) rfl (u_ rfl) ?_
          refine w_t (pc := 15) (e_s := (17, 3, 38, 0, 0, .null, [])) (y_s := (38, [some (.int _)], [.int _], _)) rfl (u_ rfl) ?_
          refine wrI (pc := 38) (len_s := 1) rfl hk ?_
          show wF _ 236 (71, [some (.ref _), some (.int _), some (.int _), some (.int _)], [.int _], _) _
          refine w_t (pc := 71) (e_s := (4, 1, 3, 0, 0, .null, [])) (y_s := (72, [some (.ref _), some (.int _), some (.int _), some (.int _)], [], _)) rfl (u_ rfl) ?_
          refine w_t (pc := 72) (e_s := (17, 3, 58, 0, 0, .null, [])) (y_s := (58, [some (.ref _), some (.int _), some (.int _), some (.int _)], [], _)) rfl (u_ rfl) ?_
          exact t_s
        · replace t_s := t_s.2 c7_s
          refine w_t (pc := 18) (e_s := (1, 1, 0, 0, 0, .null, [])) (y_s := (19, [some (.int _)], [.int _], _)) rfl (u_ rfl) ?_
          refine w_t (pc := 19) (e_s := (0, 1, 0, 0, 0, .int 5, [])) (y_s := (20, [some (.int _)], [.int _, .int _], _)) rfl (u_ rfl) ?_
          refine wi1 (pc := 20) (len_s := 3) (Y := 5) rfl rfl (by decide) (fun c8_s => ?_) (fun c8_s => ?_)
          · replace t_s := t_s.1 c8_s
            refine w_t (pc := 23) (e_s := (0, 1, 0, 0, 0, .int 3, [])) (y_s := (24, [some (.int _)], [.int _], _)) rfl (u_ rfl) ?_
            refine w_t (pc := 24) (e_s := (17, 3, 38, 0, 0, .null, [])) (y_s := (38, [some (.int _)], [.int _], _)) rfl (u_ rfl) ?_
            refine wrI (pc := 38) (len_s := 1) rfl hk ?_
            show wF _ 236 (71, [some (.ref _), some (.int _), some (.int _), some (.int _)], [.int _], _) _
            refine w_t (pc := 71) (e_s := (4, 1, 3, 0, 0, .null, [])) (y_s := (72, [some (.ref _), some (.int _), some (.int _), some (.int _)], [], _)) rfl (u_ rfl) ?_
            refine w_t (pc := 72) (e_s := (17, 3, 58, 0, 0, .null, [])) (y_s := (58, [some (.ref _), some (.int _), some (.int _), some (.int _)], [], _)) rfl (u_ rfl) ?_
            exact t_s
          · replace t_s := t_s.2 c8_s
            refine w_t (pc := 27) (e_s := (1, 1, 0, 0, 0, .null, [])) (y_s := (28, [some (.int _)], [.int _], _)) rfl (u_ rfl) ?_
            refine w_t (pc := 28) (e_s := (0, 2, 0, 0, 0, .int 7, [])) (y_s := (30, [some (.int _)], [.int _, .int _], _)) rfl (u_ rfl) ?_
            refine wi1 (pc := 30) (len_s := 3) (Y := 7) rfl rfl (by decide) (fun c9_s => ?_) (fun c9_s => ?_)
            · replace t_s := t_s.1 c9_s
              refine w_t (pc := 33) (e_s := (0, 1, 0, 0, 0, .int 4, [])) (y_s := (34, [some (.int _)], [.int _], _)) rfl (u_ rfl) ?_
              refine w_t (pc := 34) (e_s := (17, 3, 38, 0, 0, .null, [])) (y_s := (38, [some (.int _)], [.int _], _)) rfl (u_ rfl) ?_
              refine wrI (pc := 38) (len_s := 1) rfl hk ?_
              show wF _ 236 (71, [some (.ref _), some (.int _), some (.int _), some (.int _)], [.int _], _) _
              refine w_t (pc := 71) (e_s := (4, 1, 3, 0, 0, .null, [])) (y_s := (72, [some (.ref _), some (.int _), some (.int _), some (.int _)], [], _)) rfl (u_ rfl) ?_
              refine w_t (pc := 72) (e_s := (17, 3, 58, 0, 0, .null, [])) (y_s := (58, [some (.ref _), some (.int _), some (.int _), some (.int _)], [], _)) rfl (u_ rfl) ?_
              exact t_s
            · replace t_s := t_s.2 c9_s
              refine w_t (pc := 37) (e_s := (0, 1, 0, 0, 0, .int 0, [])) (y_s := (38, [some (.int _)], [.int _], _)) rfl (u_ rfl) ?_
              refine wrI (pc := 38) (len_s := 1) rfl hk ?_
              show wF _ 236 (71, [some (.ref _), some (.int _), some (.int _), some (.int _)], [.int _], _) _
              refine w_t (pc := 71) (e_s := (4, 1, 3, 0, 0, .null, [])) (y_s := (72, [some (.ref _), some (.int _), some (.int _), some (.int _)], [], _)) rfl (u_ rfl) ?_
              refine w_t (pc := 72) (e_s := (17, 3, 58, 0, 0, .null, [])) (y_s := (58, [some (.ref _), some (.int _), some (.int _), some (.int _)], [], _)) rfl (u_ rfl) ?_
              exact t_s
    · replace t_s := t_s.2 c5_s
      refine w_t (pc := 75) (e_s := (1, 1, 3, 0, 0, .null, [])) (y_s := (76, [some (.ref _), some (.int _), some (.int _), some (.int _)], [.int _], _)) rfl (u_ rfl) ?_
      refine w_t (pc := 76) (e_s := (1, 1, 2, 0, 0, .null, [])) (y_s := (77, [some (.ref _), some (.int _), some (.int _), some (.int _)], [.int _, .int _], _)) rfl (u_ rfl) ?_
      refine wi1 (pc := 77) (len_s := 3) rfl rfl rfl (fun c10_s => ?_) (fun c10_s => ?_)
      · exact absurd c10_s c1_s
      · skip
        refine w_t (pc := 93) (e_s := (0, 2, 0, 0, 0, .int (-12), [])) (y_s := (95, [some (.ref _), some (.int _), some (.int _), some (.int _)], [.int _], _)) rfl (u_ rfl) ?_
        exact wrI (pc := 95) (len_s := 1) rfl hk t_s
/-! TAKEN: whom shelves hold; class and reference. -/
def tKf (f_s : Nat → Nat → Int32) : Prop := ∀ d_s, d_s < 6 → (f_s (76 + 2 * d_s) 0).toInt = 1 → f_s (76 + 2 * d_s) 1 = f_s 124 d_s ∧ 0 ≤ (f_s 124 d_s).toInt ∧ (f_s 124 d_s).toInt < (f_s 47 1).toInt
def tK (h_s : zH) : Prop := tKf h_s.2.1
def tKok (W_s : aW) : Bool := (List.range 6).all (fun d_s => (!aWf W_s (76 + 2 * d_s) 0 && !aWf W_s (76 + 2 * d_s) 1) && !aWf W_s 124 d_s) && !aWf W_s 47 1
theorem tK_fr {W_s : aW} (hw : tKok W_s = true) {h_s h1 : zH} (fr_s : aFr (aWf W_s) h_s h1) (ha_s : tK h_s) : tK h1 := by
  unfold tKok at hw
  simp only [Bool.and_eq_true, Bool.not_eq_true', List.all_eq_true, List.mem_range] at hw
  obtain ⟨w_s, w1_s⟩ := hw
  intro d_s hd_s h1'
  obtain ⟨⟨q1_s, q2_s⟩, q3_s⟩ := w_s d_s hd_s
  rw [fr_s.1 _ _ q1_s] at h1'
  rw [fr_s.1 _ _ q2_s, fr_s.1 _ _ q3_s, fr_s.1 _ _ w1_s]
  exact ha_s d_s hd_s h1'
theorem tK_start {E_s : Nat → Int32} {n_s : Nat} {h_s : zH} (hc_s : hcK h_s = true) : tK (sH E_s n_s [] h_s) := by
  have sv : ∀ o k_s, o ≠ 0 → sov E_s [] h_s.2.1 o k_s = h_s.2.1 o k_s := fun o k_s ho => by rw [sov_nil ho]
  unfold hcK at hc_s
  simp only [List.all_eq_true, List.mem_range, decide_eq_true_eq] at hc_s
  intro d_s hd_s w_s
  have w_s : (sov E_s [] h_s.2.1 (76 + 2 * d_s) 0).toInt = 1 := w_s
  rw [sv _ _ (by omega), hc_s d_s hd_s] at w_s
  exact absurd w_s (by decide)
section KP
variable {F_s : Nat} {h_s : zH} {x1_s x2_s x3 : Int32}
theorem pk_keep (hk : hKn h_s) (hs : tS h_s) (hq : tK h_s) : wF F_s 128 (0, [some (.ref 6), some (.int x1_s), some (.int x2_s)], [], h_s) (gI (fun v_s h1 => wF F_s 229 (0, [some (.ref 102), some (.int x1_s), some (.int x2_s)], [], h1) (gI (fun _ h2 => tK h2)))) := by
  have e39 : h_s.2.1 102 39 = h_s.2.1 47 1 := hs.2.1.symm
  have b1 := hs.2.2.1
  refine sp_128 hk (fun c_s => ?_) (fun c1_s c2_s c3_s c4_s => ?_) (fun c1_s c2_s c3_s c4_s c5_s => ?_)
  · exact sp_229 hk (by rw [e39]; exact b1) (fun _ => hq) (fun q1_s q2_s q3_s _ => by rw [e39] at q3_s; omega)
  · have e2_s : zup h_s.2.1 (76 + 2 * zix x1_s) 0 0 102 39 = h_s.2.1 47 1 := by rw [zne_up (by omega)]; exact e39
    refine sp_229 hk (by dsimp only; rw [e2_s]; exact b1) (fun q_s => by dsimp only at q_s; rw [e2_s] at q_s; omega) (fun _ _ _ q4_s => ?_)
    show tKf (zup (zup (zup h_s.2.1 (76 + 2 * zix x1_s) 0 0) 124 (zix x1_s) x2_s) 125 (zix x1_s) 0)
    intro d_s hd_s w_s
    by_cases e_s : d_s = zix x1_s
    · subst e_s
      rw [zne_up (by omega), zne_up (by omega), zsame_up] at w_s
      exact absurd w_s (by decide)
    · rw [zne_up (by omega), zne_up (by omega), zne_up (by omega)] at w_s
      rw [zne_up (by omega), zne_up (by omega), zne_up (by omega), zne_up (by omega), zne_up (by omega), zne_up (by omega), zne_up (by omega), zne_up (by omega), zne_up (by omega)]
      exact hq d_s hd_s w_s
  · have e2_s : zup (zup h_s.2.1 (76 + 2 * zix x1_s) 0 1) (76 + 2 * zix x1_s) 1 x2_s 102 39 = h_s.2.1 47 1 := by rw [zne_up (by omega), zne_up (by omega)]; exact e39
    refine sp_229 hk (by dsimp only; rw [e2_s]; exact b1) (fun q_s => by dsimp only at q_s; rw [e2_s] at q_s; omega) (fun _ _ _ q4_s => ?_)
    show tKf (zup (zup (zup (zup h_s.2.1 (76 + 2 * zix x1_s) 0 1) (76 + 2 * zix x1_s) 1 x2_s) 124 (zix x1_s) x2_s) 125 (zix x1_s) 0)
    intro d_s hd_s w_s
    by_cases e_s : d_s = zix x1_s
    · subst e_s
      have e1_s : zup (zup (zup (zup h_s.2.1 (76 + 2 * zix x1_s) 0 1) (76 + 2 * zix x1_s) 1 x2_s) 124 (zix x1_s) x2_s) 125 (zix x1_s) 0 (76 + 2 * zix x1_s) 1 = x2_s := by rw [zne_up (by omega), zne_up (by omega), zsame_up]
      have e3_s : zup (zup (zup (zup h_s.2.1 (76 + 2 * zix x1_s) 0 1) (76 + 2 * zix x1_s) 1 x2_s) 124 (zix x1_s) x2_s) 125 (zix x1_s) 0 124 (zix x1_s) = x2_s := by rw [zne_up (by omega), zsame_up]
      have e4_s : zup (zup (zup (zup h_s.2.1 (76 + 2 * zix x1_s) 0 1) (76 + 2 * zix x1_s) 1 x2_s) 124 (zix x1_s) x2_s) 125 (zix x1_s) 0 47 1 = h_s.2.1 47 1 := by rw [zne_up (by omega), zne_up (by omega), zne_up (by omega), zne_up (by omega)]
      rw [e1_s, e3_s, e4_s]
      exact ⟨rfl, c3_s, c4_s⟩
    · have g_s : ∀ o k_s, ¬ (o = 76 + 2 * zix x1_s) → ¬ (o = 124 ∧ k_s = zix x1_s) → ¬ (o = 125) → zup (zup (zup (zup h_s.2.1 (76 + 2 * zix x1_s) 0 1) (76 + 2 * zix x1_s) 1 x2_s) 124 (zix x1_s) x2_s) 125 (zix x1_s) 0 o k_s = h_s.2.1 o k_s := fun o k_s w1_s w2_s w3_s => by rw [zne_up (by omega), zne_up (by omega), zne_up (by omega), zne_up (by omega)]
      rw [g_s _ _ (by omega) (by omega) (by omega)] at w_s
      rw [g_s _ _ (by omega) (by omega) (by omega), g_s _ _ (by omega) (by omega) (by omega), g_s _ _ (by omega) (by omega) (by omega)]
      exact hq d_s hd_s w_s
theorem pk_row (hk : hKn h_s) (hs : tS h_s) (hq : tK h_s) : wF F_s 129 (0, [some (.ref 6), some (.int x1_s), some (.int x2_s), some (.int x3)], [], h_s) (gI (fun v_s h1 => wF F_s 230 (0, [some (.ref 102), some (.int x1_s), some (.int x2_s), some (.int x3), none], [], h1) (gI (fun _ h2 => tK h2)))) := by
  refine sp_129 hk (fun c_s => ?_) (fun c1_s c2_s => ?_) (fun c1_s c2_s c3_s g_s g1 g2 => ?_)
  · exact sp_230 hk (fun _ => hq) (fun q_s _ => absurd c_s q_s) (fun q_s _ => absurd c_s q_s)
  · exact sp_230 hk (fun q_s => absurd q_s c1_s) (fun _ _ => hq) (fun _ q_s => absurd c2_s q_s)
  · refine sp_230 hk (fun q_s => absurd q_s c1_s) (fun _ q_s => absurd q_s c2_s) (fun _ _ _ g3_s _ _ => ?_)
    show tKf (zup (zup (zup (zup (zup h_s.2.1 (76 + 2 * zix x1_s) 0 2) (76 + 2 * zix x1_s) 2 x2_s) (76 + 2 * zix x1_s) 3 x3) 124 (zix x1_s) (50 + x2_s)) 125 (zix x1_s) x3)
    have e_s : ∀ o k_s, ¬ (o = 76 + 2 * zix x1_s) → ¬ (o = 124 ∧ k_s = zix x1_s) → ¬ (o = 125) → zup (zup (zup (zup (zup h_s.2.1 (76 + 2 * zix x1_s) 0 2) (76 + 2 * zix x1_s) 2 x2_s) (76 + 2 * zix x1_s) 3 x3) 124 (zix x1_s) (50 + x2_s)) 125 (zix x1_s) x3 o k_s = h_s.2.1 o k_s := fun o k_s w1_s w2_s w3_s => by rw [zne_up (by omega), zne_up (by omega), zne_up (by omega), zne_up (by omega), zne_up (by omega)]
    intro d_s hd_s w_s
    by_cases ed : d_s = zix x1_s
    · subst ed
      rw [zne_up (by omega), zne_up (by omega), zne_up (by omega), zne_up (by omega), zsame_up] at w_s
      exact absurd w_s (by decide)
    · rw [e_s _ _ (by omega) (by omega) (by omega)] at w_s
      rw [e_s _ _ (by omega) (by omega) (by omega), e_s _ _ (by omega) (by omega) (by omega), e_s _ _ (by omega) (by omega) (by omega)]
      exact hq d_s hd_s w_s
theorem pk_body (hk : hKn h_s) (hs : tS h_s) (hq : tK h_s) : wF F_s 125 (0, [some (.ref 6), some (.int x1_s)], [], h_s) (gI (fun v_s h1 => wF F_s 219 (0, [some (.ref 102), some (.int x1_s)], [], h1) (gI (fun _ h2 => tK h2)))) := by
  have n3_s : h_s.2.1 102 39 = h_s.2.1 47 1 := hs.2.1.symm
  have b1 := hs.2.2.1
  have b2 := hs.2.2.2
  refine sp_125 hk (fun c_s => ?_) (fun c1_s c2_s c3_s => ?_) (fun c1_s c2_s c3_s => ?_)
  · exact sp_219 hk (fun _ => hq) (fun q1_s q2_s _ => by omega) (fun q1_s q2_s _ => by omega)
  · exact sp_219 hk (fun q_s => by omega) (fun _ _ _ => hq) (fun _ _ q_s => by rw [n3_s] at q_s; omega)
  · have e39 : zup (zup h_s.2.1 48 (zix (h_s.2.1 47 1)) x1_s) 47 1 (h_s.2.1 47 1 + 1) 102 39 = h_s.2.1 47 1 := by rw [zne_up (by omega), zne_up (by omega)]; exact n3_s
    have e1_s := in1_ (x_s := h_s.2.1 47 1) (by omega)
    refine sp_219 hk (fun q_s => by omega) (fun _ _ q_s => ?_) (fun _ _ q_s => ?_)
    · dsimp only at q_s
      rw [e39] at q_s
      omega
    · dsimp only
      rw [e39]
      show tKf (zup (zup (zup (zup h_s.2.1 48 (zix (h_s.2.1 47 1)) x1_s) 47 1 (h_s.2.1 47 1 + 1)) 122 (zix (h_s.2.1 47 1)) x1_s) 102 39 (h_s.2.1 47 1 + 1))
      have e_s : ∀ o k_s, ¬ o = 48 → ¬ (o = 47 ∧ k_s = 1) → ¬ o = 122 → ¬ o = 102 → zup (zup (zup (zup h_s.2.1 48 (zix (h_s.2.1 47 1)) x1_s) 47 1 (h_s.2.1 47 1 + 1)) 122 (zix (h_s.2.1 47 1)) x1_s) 102 39 (h_s.2.1 47 1 + 1) o k_s = h_s.2.1 o k_s := fun o k_s w1_s w2_s w3_s w4_s => by rw [zne_up (by omega), zne_up (by omega), zne_up (by omega), zne_up (by omega)]
      have e47 : zup (zup (zup (zup h_s.2.1 48 (zix (h_s.2.1 47 1)) x1_s) 47 1 (h_s.2.1 47 1 + 1)) 122 (zix (h_s.2.1 47 1)) x1_s) 102 39 (h_s.2.1 47 1 + 1) 47 1 = h_s.2.1 47 1 + 1 := by rw [zne_up (by omega), zne_up (by omega), zsame_up]
      intro d_s hd_s w_s
      rw [e_s _ _ (by omega) (by omega) (by omega) (by omega)] at w_s
      rw [e_s _ _ (by omega) (by omega) (by omega) (by omega), e_s _ _ (by omega) (by omega) (by omega) (by omega), e47, e1_s]
      have u_s := hq d_s hd_s w_s
      exact ⟨u_s.1, u_s.2.1, by omega⟩
theorem pr_keep2 (hk : hKn h_s) (hs : tS h_s) (hq : tK h_s) : wF F_s 128 (0, [some (.ref 6), some (.int x1_s), some (.int x2_s)], [], h_s) (gI (fun v_s h1 => wF F_s 229 (0, [some (.ref 102), some (.int x1_s), some (.int x2_s)], [], h1) (gI (fun v2 h2 => v_s = v2 ∧ tS h2 ∧ tK h2)))) := wmI (waI (pr_keep hk hs) (pk_keep hk hs hq)) (fun _ _ _ q_s => wmI (waI q_s.1 q_s.2) (fun _ _ _ r_s => ⟨r_s.1.1, r_s.1.2, r_s.2⟩))
theorem pr_row2 (hk : hKn h_s) (hs : tS h_s) (hq : tK h_s) : wF F_s 129 (0, [some (.ref 6), some (.int x1_s), some (.int x2_s), some (.int x3)], [], h_s) (gI (fun v_s h1 => wF F_s 230 (0, [some (.ref 102), some (.int x1_s), some (.int x2_s), some (.int x3), none], [], h1) (gI (fun v2 h2 => v_s = v2 ∧ tS h2 ∧ tK h2)))) := wmI (waI (pr_row hk hs) (pk_row hk hs hq)) (fun _ _ _ q_s => wmI (waI q_s.1 q_s.2) (fun _ _ _ r_s => ⟨r_s.1.1, r_s.1.2, r_s.2⟩))
theorem pr_body3 (hk : hKn h_s) (hs : tS h_s) (ha_s : tA h_s) (hq : tK h_s) : wF F_s 125 (0, [some (.ref 6), some (.int x1_s)], [], h_s) (gI (fun v_s h1 => wF F_s 219 (0, [some (.ref 102), some (.int x1_s)], [], h1) (gI (fun v2 h2 => v_s = v2 ∧ tS h2 ∧ tA h2 ∧ tK h2)))) := wmI (waI (pr_body2 hk hs ha_s) (pk_body hk hs hq)) (fun _ _ _ q_s => wmI (waI q_s.1 q_s.2) (fun _ _ _ r_s => ⟨r_s.1.1, r_s.1.2.1, r_s.1.2.2, r_s.2⟩))
end KP
def uN : Nat → Nat → Nat → Bool
  | 0, _, _ => false
  | d_s + 1, t_s, k_s => if t_s = k_s then true else if abI t_s < 0 then false else uN d_s (abI t_s).toNat k_s
theorem uN_1 : ∀ t_s, t_s < 8 → uN 8 t_s t_s = true := by decide
theorem uN_2 : ∀ k_s, k_s < 8 → k_s = 0 ∨ uN 8 0 k_s = false := by decide
theorem uN_3 : ∀ t_s, t_s < 8 → ∀ k_s, k_s < 8 → t_s = k_s ∨ t_s = 0 ∨ uN 8 t_s k_s = uN 8 (abI t_s).toNat k_s := by decide
theorem uN_s (t_s : Nat) (ht : t_s < 8) (k_s : Nat) (hk : k_s < 8) : (t_s = k_s → uN 8 t_s k_s = true) ∧ (¬ t_s = k_s → t_s = 0 → uN 8 t_s k_s = false) ∧ (¬ t_s = k_s → 0 < t_s → uN 8 t_s k_s = uN 8 (abI t_s).toNat k_s) := by
  refine ⟨fun e_s => ?_, fun e_s e0_s => ?_, fun e_s e0_s => ?_⟩
  · subst e_s
    exact uN_1 t_s ht
  · subst e0_s
    exact (uN_2 k_s hk).resolve_left (fun w_s => e_s w_s.symm)
  · exact ((uN_3 t_s ht k_s hk).resolve_left e_s).resolve_left (by omega)
theorem abI_b : ∀ t_s, t_s < 8 → abI t_s = -1 ∨ (0 ≤ abI t_s ∧ abI t_s < 8) := by decide
theorem abI_r : ∀ t_s, t_s < 8 → 0 < t_s → abI t_s = (if t_s = 3 then 2 else if t_s = 4 then 1 else if t_s = 5 then 3 else if t_s = 7 then 4 else 0) := by decide
section KT_s
variable {h_s : zH} {K_s : Int32 → zH → Prop} {x0_s x1_s x2_s : Int32} {k_s : Nat}
theorem l3_ (hk : hKn h_s) (tb_s : tbA h_s.2.1) (e1_s : x1_s.toInt = (k_s : Int)) {R_s : Bool} (t1_s : R_s = true → K_s 1 h_s) (t0_s : R_s = false → K_s 0 h_s) : ∀ (F_s d_s t_s : Nat) (x2_s x3 : Int32), x3.toInt + (d_s : Int) = 8 → (x2_s.toInt = -1 ∧ R_s = false) ∨ (x2_s.toInt = (t_s : Int) ∧ t_s < 8 ∧ uN d_s t_s k_s = R_s) → wF F_s 3 (4, [some (.int x0_s), some (.int x1_s), some (.int x2_s), some (.int x3)], [], h_s) (gI K_s)
  | 0, _, _, _, _, _, _ => wF_zero
  | F_s + 1, d_s, t_s, x2_s, x3, e3_s, hR => by
    refine sg_3_4 hk ?_
    rw [e1_s]
    rcases hR with ⟨a1_s, a2⟩ | ⟨a1_s, a2, a3⟩
    · exact ⟨fun _ => ⟨fun _ => t0_s a2, fun c_s => absurd c_s (by omega)⟩, fun _ => t0_s a2⟩
    · have z_s := azix (i := x2_s) (by omega)
      have ez : zix x2_s = t_s := by omega
      rw [ez, a1_s]
      match d_s, e3_s, a3 with
      | 0, e3_s, a3 => exact ⟨fun c_s => absurd c_s (by omega), fun _ => t0_s (a3.symm.trans rfl)⟩
      | d_s + 1, e3_s, a3 =>
        have a3 : (if t_s = k_s then true else if abI t_s < 0 then false else uN d_s (abI t_s).toNat k_s) = R_s := a3
        refine ⟨fun c1_s => ⟨fun c_s => absurd c_s (by omega), fun _ => ⟨fun _ => ⟨fun c4_s => ?_, fun c4_s => fun _ => ?_⟩, fun c_s => absurd c_s (by omega)⟩⟩, fun c_s => absurd c_s (by omega)⟩
        · rw [if_pos (by omega)] at a3
          exact t1_s a3.symm
        · rw [if_neg (by omega)] at a3
          have b4 := tb_s.2 t_s a2
          have e31_s : (x3 + 1).toInt + (d_s : Int) = 8 := by
            rw [in1_ (by omega)]
            omega
          rcases abI_b t_s a2 with w_s | w_s
          · rw [if_pos (by omega)] at a3
            exact l3_ hk tb_s e1_s t1_s t0_s F_s d_s 0 _ (x3 + 1) e31_s (Or.inl ⟨by omega, a3.symm⟩)
          · rw [if_neg (by omega)] at a3
            exact l3_ hk tb_s e1_s t1_s t0_s F_s d_s (abI t_s).toNat _ (x3 + 1) e31_s (Or.inr ⟨by omega, by omega, a3⟩)
theorem sp_3 {F_s t_s : Nat} (hk : hKn h_s) (tb_s : tbA h_s.2.1) (e0_s : x0_s.toInt = (t_s : Int)) (ht : t_s < 8) (e1_s : x1_s.toInt = (k_s : Int)) (t1_s : uN 8 t_s k_s = true → K_s 1 h_s) (t0_s : uN 8 t_s k_s = false → K_s 0 h_s) : wF F_s 3 (0, [some (.int x0_s), some (.int x1_s), none, none], [], h_s) (gI K_s) := by
  refine wF_le (Nat.le_succ F_s) (sg_3_0 hk ?_)
  exact l3_ (R_s := uN 8 t_s k_s) hk tb_s e1_s t1_s t0_s F_s 8 t_s x0_s 0 rfl (Or.inr ⟨e0_s, ht, rfl⟩)
theorem l236 (hk : hKn h_s) (e2_s : x2_s.toInt = (k_s : Int)) (hk8 : k_s < 8) {R_s : Bool} (t1_s : R_s = true → K_s (h_s.2.1 122 (zix (h_s.2.1 124 (zix x1_s)))) h_s) (t0_s : R_s = false → K_s (-12) h_s) : ∀ (F_s t_s : Nat) (x3 : Int32), x3.toInt = (t_s : Int) → t_s < 8 → uN 8 t_s k_s = R_s → wF F_s 236 (58, [some (.ref 102), some (.int x1_s), some (.int x2_s), some (.int x3)], [], h_s) (gI K_s)
  | 0, _, _, _, _, _ => wF_zero
  | F_s + 1, t_s, x3, e3_s, ht, hR => by
    have us := uN_s t_s ht k_s hk8
    refine sg_236_58 hk ?_
    rw [e3_s, e2_s]
    have go_s : ∀ (t1' : Nat) (v_s : Int32), ¬ t_s = k_s → 0 < t_s → abI t_s = (t1' : Int) → t1' < 8 → v_s.toInt = (t1' : Int) → wF F_s 236 (58, [some (.ref 102), some (.int x1_s), some (.int x2_s), some (.int v_s)], [], h_s) (gI K_s) := fun t1' v_s w1_s w2_s w3_s w4_s w5 => by
      refine l236 hk e2_s hk8 t1_s t0_s F_s t1' v_s w5 w4_s ?_
      have u_s := us.2.2 w1_s w2_s
      rw [w3_s] at u_s
      have e_s : ((t1' : Int)).toNat = t1' := by omega
      rw [e_s] at u_s
      rw [← u_s]
      exact hR
    refine ⟨fun c_s => fun _ => fun _ => t1_s (by rw [← hR]; exact us.1 (by omega)), fun c_s => ⟨fun c5_s => ?_, fun c5_s => t0_s (by rw [← hR]; exact us.2.1 (by omega) (by omega))⟩⟩
    have ar := abI_r t_s ht (by omega)
    refine ⟨fun c6_s => go_s 2 2 (by omega) (by omega) ?_ (by omega) rfl, fun c6_s => ⟨fun c7_s => go_s 1 1 (by omega) (by omega) ?_ (by omega) rfl, fun c7_s => ⟨fun c8_s => go_s 3 3 (by omega) (by omega) ?_ (by omega) rfl, fun c8_s => ⟨fun c9_s => go_s 4 4 (by omega) (by omega) ?_ (by omega) rfl, fun c9_s => go_s 0 0 (by omega) (by omega) ?_ (by omega) rfl⟩⟩⟩⟩
    · rw [ar, if_pos (by omega)]
      rfl
    · rw [ar, if_neg (by omega), if_pos (by omega)]
      rfl
    · rw [ar, if_neg (by omega), if_neg (by omega), if_pos (by omega)]
      rfl
    · rw [ar, if_neg (by omega), if_neg (by omega), if_neg (by omega), if_pos (by omega)]
      rfl
    · rw [ar, if_neg (by omega), if_neg (by omega), if_neg (by omega), if_neg (by omega)]
      rfl
theorem pr_taken {F_s : Nat} (hk : hKn h_s) (hs : tS h_s) (ha_s : tA h_s) (hq : tK h_s) : wF F_s 133 (0, [some (.ref 6), some (.int x1_s), some (.int x2_s), none, none], [], h_s) (gI (fun v_s h1 => wF F_s 236 (0, [some (.ref 102), some (.int x1_s), some (.int x2_s), none], [], h1) (gI (fun v2 _ => v_s = v2)))) := by
  obtain ⟨tb_s, _, _, n_s, n1_s, n2_s, n3_s, n4_s⟩ := ha_s
  have g_s := fun (v_s : Int32) t_s => wF_le (Nat.le_succ F_s) (sg_236_0 (F_s := F_s) (x1_s := x1_s) (x2_s := x2_s) (h_s := h_s) (K_s := fun v2 _ => v_s = v2) hk t_s)
  refine wF_le (Nat.le_succ F_s) (sg_133_0 (h_s := h_s) hk ?_)
  refine ⟨fun c1_s => g_s _ ?_, fun c1_s => ⟨fun c2_s => ⟨fun c3_s => g_s _ ?_, fun c3_s => ⟨fun c4_s => fun c5_s => ?_, fun c4_s => g_s _ ?_⟩⟩, fun c2_s => g_s _ ?_⟩⟩
  · exact ⟨fun _ => rfl, fun c_s => absurd c1_s c_s⟩
  · exact ⟨fun c_s => absurd c_s c1_s, fun _ => ⟨fun c_s => absurd c_s (by omega), fun _ => ⟨fun _ => rfl, fun c_s => absurd c3_s c_s⟩⟩⟩
  · have s1_s := (hs.1 (zix x1_s) c5_s).1
    have sq := hq (zix x1_s) c5_s
    have top_s : ∀ v_s : Int32, ((h_s.2.1 124 (zix x1_s)).toInt < 0 → v_s = -11) → (¬ (h_s.2.1 124 (zix x1_s)).toInt < 0 → ((h_s.2.1 124 (zix x1_s)).toInt < 50 → zix (h_s.2.1 124 (zix x1_s)) < 50 → wF F_s 236 (58, [some (.ref 102), some (.int x1_s), some (.int x2_s), some (.int (h_s.2.1 122 (zix (h_s.2.1 124 (zix x1_s)))))], [], h_s) (gI (fun v2 _ => v_s = v2))) ∧ (¬ (h_s.2.1 124 (zix x1_s)).toInt < 50 → v_s = -12)) → wF F_s 236 (0, [some (.ref 102), some (.int x1_s), some (.int x2_s), none], [], h_s) (gI (fun v2 _ => v_s = v2)) := fun v_s w1_s w2_s => g_s v_s ⟨fun c_s => absurd c_s c1_s, fun _ => ⟨fun c_s => absurd c_s (by omega), fun _ => ⟨fun c_s => absurd c_s c3_s, fun _ => ⟨fun c_s => absurd c_s (by omega), fun _ => fun _ => ⟨w1_s, fun c_s => ⟨(w2_s c_s).1, (w2_s c_s).2⟩⟩⟩⟩⟩⟩
    unfold tS1 at s1_s
    refine ⟨fun c6_s => top_s _ (fun _ => rfl) (fun c_s => absurd c_s (by omega)), fun c6_s => ⟨fun c7_s => ?_, fun c7_s => top_s _ (fun c_s => absurd c_s (by omega)) (fun _ => ⟨fun c_s => absurd c_s (by omega), fun _ => rfl⟩)⟩⟩
    obtain ⟨q1_s, q2_s, q3_s⟩ := sq c7_s
    rw [q1_s]
    have z_s := azix (i := h_s.2.1 124 (zix x1_s)) q2_s
    refine ⟨fun c8_s => absurd c8_s (by omega), fun c8_s => ⟨fun c9_s => fun c10_s => ?_, fun c9_s => absurd q3_s c9_s⟩⟩
    obtain ⟨m1_s, m2_s, m3_s⟩ := n4_s (zix (h_s.2.1 124 (zix x1_s))) (by omega)
    have zk := azix (i := h_s.2.1 48 (zix (h_s.2.1 124 (zix x1_s)))) m2_s
    have z2 := azix (i := x2_s) (by omega)
    have k8_s : zix x2_s < 8 := by omega
    have t8 : zix (h_s.2.1 48 (zix (h_s.2.1 124 (zix x1_s)))) < 8 := by omega
    have rest_s : ∀ v_s : Int32, (uN 8 (zix (h_s.2.1 48 (zix (h_s.2.1 124 (zix x1_s))))) (zix x2_s) = true → v_s = h_s.2.1 48 (zix (h_s.2.1 124 (zix x1_s)))) → (uN 8 (zix (h_s.2.1 48 (zix (h_s.2.1 124 (zix x1_s))))) (zix x2_s) = false → v_s = -12) → wF F_s 236 (0, [some (.ref 102), some (.int x1_s), some (.int x2_s), none], [], h_s) (gI (fun v2 _ => v_s = v2)) := fun v_s w1_s w0_s => by
      refine top_s v_s (fun c_s => absurd c_s c8_s) (fun _ => ⟨fun _ => fun _ => ?_, fun c_s => absurd c_s (by omega)⟩)
      rw [← m1_s]
      exact l236 (h_s := h_s) (k_s := zix x2_s) (R_s := uN 8 (zix (h_s.2.1 48 (zix (h_s.2.1 124 (zix x1_s))))) (zix x2_s)) hk z2.symm k8_s (fun w_s => by rw [← m1_s]; exact w1_s w_s) w0_s F_s _ _ zk.symm t8 rfl
    refine sp_3 (h_s := h_s) hk tb_s zk.symm t8 z2.symm (fun w_s => fun _ => ⟨fun c_s => absurd c_s (by decide), fun _ => rest_s _ (fun _ => rfl) (fun w0_s => by rw [w_s] at w0_s; cases w0_s)⟩) (fun w_s => fun _ => ⟨fun _ => rest_s _ (fun w1_s => by rw [w_s] at w1_s; cases w1_s) (fun _ => rfl), fun c_s => absurd rfl c_s⟩)
  · exact ⟨fun c_s => absurd c_s c1_s, fun _ => ⟨fun c_s => absurd c_s (by omega), fun _ => ⟨fun c_s => absurd c_s c3_s, fun _ => ⟨fun _ => rfl, fun c_s => absurd (show 7 < x2_s.toInt by omega) c_s⟩⟩⟩⟩
  · exact ⟨fun c_s => absurd c_s c1_s, fun _ => ⟨fun _ => rfl, fun c_s => absurd (show 5 < x1_s.toInt by omega) c_s⟩⟩
end KT_s
/-! CONTRACTS of the calls, as what ended runs keep: printed by a program (wip/fun/mklaw.py). -/
theorem cm_93 {F_s : Nat} {x1_s : Int32} {h_s : zH} (hI : hIw h_s) : wF F_s 93 (0, [some (.ref 6), some (.int x1_s)], [], h_s) (gI (fun _ h1 => hIw h1 ∧ aFr (aWf kE1148.2.2.2.2.2) h_s h1)) := cxI kok1148 (rel1 (n_s := 0) hI) hI.2 rfl rfl
theorem cm_155 {F_s : Nat} {x1_s : Int32} {h_s : zH} (hI : hIw h_s) : wF F_s 155 (0, [some (.ref 102), some (.int x1_s)], [], h_s) (gI (fun _ h1 => hIw h1 ∧ aFr (aWf kE1149.2.2.2.2.2) h_s h1)) := cxI kok1149 (rel1 (n_s := 0) hI) hI.2 rfl rfl
theorem cm_94 {F_s : Nat} {x1_s : Int32} {x2_s : Int32} {h_s : zH} (hI : hIw h_s) : wF F_s 94 (0, [some (.ref 6), some (.int x1_s), some (.int x2_s), none], [], h_s) (gI (fun _ h1 => hIw h1 ∧ aFr (aWf kE1146.2.2.2.2.2) h_s h1)) := cxI kok1146 (rel2 (n_s := 1) hI) hI.2 rfl rfl
theorem cm_156 {F_s : Nat} {x1_s : Int32} {x2_s : Int32} {h_s : zH} (hI : hIw h_s) : wF F_s 156 (0, [some (.ref 102), some (.int x1_s), some (.int x2_s)], [], h_s) (gI (fun _ h1 => hIw h1 ∧ aFr (aWf kE1147.2.2.2.2.2) h_s h1)) := cxI kok1147 (rel2 (n_s := 0) hI) hI.2 rfl rfl
theorem cm_95 {F_s : Nat} {x1_s : Int32} {x2_s : Int32} {h_s : zH} (hI : hIw h_s) : wF F_s 95 (0, [some (.ref 6), some (.int x1_s), some (.int x2_s)], [], h_s) (gI (fun _ h1 => hIw h1 ∧ aFr (aWf kE1144.2.2.2.2.2) h_s h1)) := cxI kok1144 (rel2 (n_s := 0) hI) hI.2 rfl rfl
theorem cm_159 {F_s : Nat} {x1_s : Int32} {x2_s : Int32} {h_s : zH} (hI : hIw h_s) : wF F_s 159 (0, [some (.ref 102), some (.int x1_s), some (.int x2_s)], [], h_s) (gI (fun _ h1 => hIw h1 ∧ aFr (aWf kE1145.2.2.2.2.2) h_s h1)) := cxI kok1145 (rel2 (n_s := 0) hI) hI.2 rfl rfl
theorem cm_96 {F_s : Nat} {x1_s : Int32} {x2_s : Int32} {x3 : Int32} {h_s : zH} (hI : hIw h_s) : wF F_s 96 (0, [some (.ref 6), some (.int x1_s), some (.int x2_s), some (.int x3), none, none, none], [], h_s) (gI (fun _ h1 => hIw h1 ∧ aFr (aWf kE1142.2.2.2.2.2) h_s h1)) := cxI kok1142 (rel3 (n_s := 3) hI) hI.2 rfl rfl
theorem cm_160 {F_s : Nat} {x1_s : Int32} {x2_s : Int32} {x3 : Int32} {h_s : zH} (hI : hIw h_s) : wF F_s 160 (0, [some (.ref 102), some (.int x1_s), some (.int x2_s), some (.int x3), none, none, none], [], h_s) (gI (fun _ h1 => hIw h1 ∧ aFr (aWf kE1143.2.2.2.2.2) h_s h1)) := cxI kok1143 (rel3 (n_s := 3) hI) hI.2 rfl rfl
theorem cm_98 {F_s : Nat} {x1_s : Int32} {x2_s : Int32} {x3 : Int32} {h_s : zH} (hI : hIw h_s) : wF F_s 98 (0, [some (.ref 6), some (.int x1_s), some (.int x2_s), some (.int x3), none], [], h_s) (gI (fun _ h1 => hIw h1 ∧ aFr (aWf kE1128.2.2.2.2.2) h_s h1)) := cxI kok1128 (rel3 (n_s := 1) hI) hI.2 rfl rfl
theorem cm_163 {F_s : Nat} {x1_s : Int32} {x2_s : Int32} {x3 : Int32} {h_s : zH} (hI : hIw h_s) : wF F_s 163 (0, [some (.ref 102), some (.int x1_s), some (.int x2_s), some (.int x3), none], [], h_s) (gI (fun _ h1 => hIw h1 ∧ aFr (aWf kE1141.2.2.2.2.2) h_s h1)) := cxI kok1141 (rel3 (n_s := 1) hI) hI.2 rfl rfl
theorem cm_99 {F_s : Nat} {x1_s : Int32} {x2_s : Int32} {h_s : zH} (hI : hIw h_s) : wF F_s 99 (0, [some (.ref 6), some (.int x1_s), some (.int x2_s)], [], h_s) (gI (fun _ h1 => hIw h1 ∧ aFr (aWf kE1125.2.2.2.2.2) h_s h1)) := cxI kok1125 (rel2 (n_s := 0) hI) hI.2 rfl rfl
theorem cm_164 {F_s : Nat} {x1_s : Int32} {x2_s : Int32} {h_s : zH} (hI : hIw h_s) : wF F_s 164 (0, [some (.ref 102), some (.int x1_s), some (.int x2_s), none], [], h_s) (gI (fun _ h1 => hIw h1 ∧ aFr (aWf kE1126.2.2.2.2.2) h_s h1)) := cxI kok1126 (rel2 (n_s := 1) hI) hI.2 rfl rfl
theorem cm_100 {F_s : Nat} {x1_s : Int32} {h_s : zH} (hI : hIw h_s) : wF F_s 100 (0, [some (.ref 6), some (.int x1_s)], [], h_s) (gI (fun _ h1 => hIw h1 ∧ aFr (aWf kE1123.2.2.2.2.2) h_s h1)) := cxI kok1123 (rel1 (n_s := 0) hI) hI.2 rfl rfl
theorem cm_165 {F_s : Nat} {x1_s : Int32} {h_s : zH} (hI : hIw h_s) : wF F_s 165 (0, [some (.ref 102), some (.int x1_s)], [], h_s) (gI (fun _ h1 => hIw h1 ∧ aFr (aWf kE1124.2.2.2.2.2) h_s h1)) := cxI kok1124 (rel1 (n_s := 0) hI) hI.2 rfl rfl
theorem cm_101 {F_s : Nat}  {h_s : zH} (hI : hIw h_s) : wF F_s 101 (0, [some (.ref 6), none, none], [], h_s) (gI (fun _ h1 => hIw h1 ∧ aFr (aWf kE1121.2.2.2.2.2) h_s h1)) := cxI kok1121 (rel0 (n_s := 2) hI) hI.2 rfl rfl
theorem cm_177 {F_s : Nat}  {h_s : zH} (hI : hIw h_s) : wF F_s 177 (0, [some (.ref 102), none, none, none], [], h_s) (gI (fun _ h1 => hIw h1 ∧ aFr (aWf kE1122.2.2.2.2.2) h_s h1)) := cxI kok1122 (rel0 (n_s := 3) hI) hI.2 rfl rfl
theorem cm_102 {F_s : Nat} {x1_s : Int32} {x2_s : Int32} {h_s : zH} (hI : hIw h_s) : wF F_s 102 (0, [some (.ref 6), some (.int x1_s), some (.int x2_s)], [], h_s) (gI (fun _ h1 => hIw h1 ∧ aFr (aWf kE1013.2.2.2.2.2) h_s h1)) := cxI kok1013 (rel2 (n_s := 0) hI) hI.2 rfl rfl
theorem cm_181 {F_s : Nat} {x1_s : Int32} {x2_s : Int32} {h_s : zH} (hI : hIw h_s) : wF F_s 181 (0, [some (.ref 102), some (.int x1_s), some (.int x2_s)], [], h_s) (gI (fun _ h1 => hIw h1 ∧ aFr (aWf kE1014.2.2.2.2.2) h_s h1)) := cxI kok1014 (rel2 (n_s := 0) hI) hI.2 rfl rfl
theorem cm_103 {F_s : Nat} {x1_s : Int32} {x2_s : Int32} {x3 : Int32} {h_s : zH} (hI : hIw h_s) : wF F_s 103 (0, [some (.ref 6), some (.int x1_s), some (.int x2_s), some (.int x3), none, none, none], [], h_s) (gI (fun _ h1 => hIw h1 ∧ aFr (aWf kE1011.2.2.2.2.2) h_s h1)) := cxI kok1011 (rel3 (n_s := 3) hI) hI.2 rfl rfl
theorem cm_189 {F_s : Nat} {x1_s : Int32} {x2_s : Int32} {x3 : Int32} {h_s : zH} (hI : hIw h_s) : wF F_s 189 (0, [some (.ref 102), some (.int x1_s), some (.int x2_s), some (.int x3)], [], h_s) (gI (fun _ h1 => hIw h1 ∧ aFr (aWf kE1012.2.2.2.2.2) h_s h1)) := cxI kok1012 (rel3 (n_s := 0) hI) hI.2 rfl rfl
theorem cm_104 {F_s : Nat} {x1_s : Int32} {x2_s : Int32} {x3 : Int32} {h_s : zH} (hI : hIw h_s) : wF F_s 104 (0, [some (.ref 6), some (.int x1_s), some (.int x2_s), some (.int x3), none, none], [], h_s) (gI (fun _ h1 => hIw h1 ∧ aFr (aWf kE912.2.2.2.2.2) h_s h1)) := cxI kok912 (rel3 (n_s := 2) hI) hI.2 rfl rfl
theorem cm_191 {F_s : Nat} {x1_s : Int32} {x2_s : Int32} {x3 : Int32} {h_s : zH} (hI : hIw h_s) : wF F_s 191 (0, [some (.ref 102), some (.int x1_s), some (.int x2_s), some (.int x3), none], [], h_s) (gI (fun _ h1 => hIw h1 ∧ aFr (aWf kE1009.2.2.2.2.2) h_s h1)) := cxI kok1009 (rel3 (n_s := 1) hI) hI.2 rfl rfl
theorem cm_105 {F_s : Nat} {x1_s : Int32} {x2_s : Int32} {x3 : Int32} {h_s : zH} (hI : hIw h_s) : wF F_s 105 (0, [some (.ref 6), some (.int x1_s), some (.int x2_s), some (.int x3)], [], h_s) (gI (fun _ h1 => hIw h1 ∧ aFr (aWf kE304.2.2.2.2.2) h_s h1)) := cxI kok304 (rel3 (n_s := 0) hI) hI.2 rfl rfl
theorem cm_193 {F_s : Nat} {x1_s : Int32} {x2_s : Int32} {x3 : Int32} {h_s : zH} (hI : hIw h_s) : wF F_s 193 (0, [some (.ref 102), some (.int x1_s), some (.int x2_s), some (.int x3)], [], h_s) (gI (fun _ h1 => hIw h1 ∧ aFr (aWf kE560.2.2.2.2.2) h_s h1)) := cxI kok560 (rel3 (n_s := 0) hI) hI.2 rfl rfl
theorem cm_106 {F_s : Nat} {x1_s : Int32} {x2_s : Int32} {h_s : zH} (hI : hIw h_s) : wF F_s 106 (0, [some (.ref 6), some (.int x1_s), some (.int x2_s), none, none, none, none, none, none], [], h_s) (gI (fun _ h1 => hIw h1 ∧ aFr (aWf kE279.2.2.2.2.2) h_s h1)) := cxI kok279 (rel2 (n_s := 6) hI) hI.2 rfl rfl
theorem cm_194 {F_s : Nat} {x1_s : Int32} {x2_s : Int32} {h_s : zH} (hI : hIw h_s) : wF F_s 194 (0, [some (.ref 102), some (.int x1_s), some (.int x2_s), none, none, none], [], h_s) (gI (fun _ h1 => hIw h1 ∧ aFr (aWf kE280.2.2.2.2.2) h_s h1)) := cxI kok280 (rel2 (n_s := 3) hI) hI.2 rfl rfl
theorem cm_107 {F_s : Nat} {x1_s : Int32} {h_s : zH} (hI : hIw h_s) : wF F_s 107 (0, [some (.ref 6), some (.int x1_s)], [], h_s) (gI (fun _ h1 => hIw h1 ∧ aFr (aWf kE277.2.2.2.2.2) h_s h1)) := cxI kok277 (rel1 (n_s := 0) hI) hI.2 rfl rfl
theorem cm_199 {F_s : Nat} {x1_s : Int32} {h_s : zH} (hI : hIw h_s) : wF F_s 199 (0, [some (.ref 102), some (.int x1_s)], [], h_s) (gI (fun _ h1 => hIw h1 ∧ aFr (aWf kE278.2.2.2.2.2) h_s h1)) := cxI kok278 (rel1 (n_s := 0) hI) hI.2 rfl rfl
theorem cm_108 {F_s : Nat}  {h_s : zH} (hI : hIw h_s) : wF F_s 108 (0, [some (.ref 6)], [], h_s) (gI (fun _ h1 => hIw h1 ∧ aFr (aWf kE274.2.2.2.2.2) h_s h1)) := cxI kok274 (rel0 (n_s := 0) hI) hI.2 rfl rfl
theorem cm_200 {F_s : Nat}  {h_s : zH} (hI : hIw h_s) : wF F_s 200 (0, [some (.ref 102), none, none, none, none, none], [], h_s) (gI (fun _ h1 => hIw h1 ∧ aFr (aWf kE276.2.2.2.2.2) h_s h1)) := cxI kok276 (rel0 (n_s := 5) hI) hI.2 rfl rfl
theorem cm_109 {F_s : Nat} {x1_s : Int32} {h_s : zH} (hI : hIw h_s) : wF F_s 109 (0, [some (.ref 6), some (.int x1_s), none], [], h_s) (gI (fun _ h1 => hIw h1 ∧ aFr (aWf kE270.2.2.2.2.2) h_s h1)) := cxI kok270 (rel1 (n_s := 1) hI) hI.2 rfl rfl
theorem cm_202 {F_s : Nat} {x1_s : Int32} {h_s : zH} (hI : hIw h_s) : wF F_s 202 (0, [some (.ref 102), some (.int x1_s), none, none, none, none, none], [], h_s) (gI (fun _ h1 => hIw h1 ∧ aFr (aWf kE272.2.2.2.2.2) h_s h1)) := cxI kok272 (rel1 (n_s := 5) hI) hI.2 rfl rfl
theorem cm_110 {F_s : Nat} {x1_s : Int32} {x2_s : Int32} {h_s : zH} (hI : hIw h_s) : wF F_s 110 (0, [some (.ref 6), some (.int x1_s), some (.int x2_s), none], [], h_s) (gI (fun _ h1 => hIw h1 ∧ aFr (aWf kE265.2.2.2.2.2) h_s h1)) := cxI kok265 (rel2 (n_s := 1) hI) hI.2 rfl rfl
theorem cm_205 {F_s : Nat} {x1_s : Int32} {x2_s : Int32} {h_s : zH} (hI : hIw h_s) : wF F_s 205 (0, [some (.ref 102), some (.int x1_s), some (.int x2_s)], [], h_s) (gI (fun _ h1 => hIw h1 ∧ aFr (aWf kE266.2.2.2.2.2) h_s h1)) := cxI kok266 (rel2 (n_s := 0) hI) hI.2 rfl rfl
theorem cm_111 {F_s : Nat} {x1_s : Int32} {x2_s : Int32} {x3 : Int32} {h_s : zH} (hI : hIw h_s) : wF F_s 111 (0, [some (.ref 6), some (.int x1_s), some (.int x2_s), some (.int x3), none, none, none, none, none], [], h_s) (gI (fun _ h1 => hIw h1 ∧ aFr (aWf kE156.2.2.2.2.2) h_s h1)) := cxI kok156 (rel3 (n_s := 5) hI) hI.2 rfl rfl
theorem cm_206 {F_s : Nat} {x1_s : Int32} {x2_s : Int32} {x3 : Int32} {h_s : zH} (hI : hIw h_s) : wF F_s 206 (0, [some (.ref 102), some (.int x1_s), some (.int x2_s), some (.int x3), none, none, none, none], [], h_s) (gI (fun _ h1 => hIw h1 ∧ aFr (aWf kE261.2.2.2.2.2) h_s h1)) := cxI kok261 (rel3 (n_s := 4) hI) hI.2 rfl rfl
theorem cm_112 {F_s : Nat} {x1_s : Int32} {x2_s : Int32} {x3 : Int32} {h_s : zH} (hI : hIw h_s) : wF F_s 112 (0, [some (.ref 6), some (.int x1_s), some (.int x2_s), some (.int x3), none], [], h_s) (gI (fun _ h1 => hIw h1 ∧ aFr (aWf kE116.2.2.2.2.2) h_s h1)) := cxI kok116 (rel3 (n_s := 1) hI) hI.2 rfl rfl
theorem cm_208 {F_s : Nat} {x1_s : Int32} {x2_s : Int32} {x3 : Int32} {h_s : zH} (hI : hIw h_s) : wF F_s 208 (0, [some (.ref 102), some (.int x1_s), some (.int x2_s), some (.int x3), none], [], h_s) (gI (fun _ h1 => hIw h1 ∧ aFr (aWf kE137.2.2.2.2.2) h_s h1)) := cxI kok137 (rel3 (n_s := 1) hI) hI.2 rfl rfl
theorem cm_116 {F_s : Nat} {x1_s : Int32} {x2_s : Int32} {x3 : Int32} {x4_s : Int32} {h_s : zH} (hI : hIw h_s) : wF F_s 116 (0, [some (.ref 6), some (.int x1_s), some (.int x2_s), some (.int x3), some (.int x4_s), none, none, none, none, none, none, none, none, none], [], h_s) (gI (fun _ h1 => hIw h1 ∧ aFr (aWf kE100.2.2.2.2.2) h_s h1)) := cxI kok100 (rel4 (n_s := 9) hI) hI.2 rfl rfl
theorem cm_209 {F_s : Nat} {x1_s : Int32} {x2_s : Int32} {x3 : Int32} {x4_s : Int32} {h_s : zH} (hI : hIw h_s) : wF F_s 209 (0, [some (.ref 102), some (.int x1_s), some (.int x2_s), some (.int x3), some (.int x4_s), none, none, none, none, none, none], [], h_s) (gI (fun _ h1 => hIw h1 ∧ aFr (aWf kE101.2.2.2.2.2) h_s h1)) := cxI kok101 (rel4 (n_s := 6) hI) hI.2 rfl rfl
theorem cm_117 {F_s : Nat} {x1_s : Int32} {x2_s : Int32} {h_s : zH} (hI : hIw h_s) : wF F_s 117 (0, [some (.ref 6), some (.int x1_s), some (.int x2_s), none], [], h_s) (gI (fun _ h1 => hIw h1 ∧ aFr (aWf kE93.2.2.2.2.2) h_s h1)) := cxI kok93 (rel2 (n_s := 1) hI) hI.2 rfl rfl
theorem cm_211 {F_s : Nat} {x1_s : Int32} {x2_s : Int32} {h_s : zH} (hI : hIw h_s) : wF F_s 211 (0, [some (.ref 102), some (.int x1_s), some (.int x2_s), none], [], h_s) (gI (fun _ h1 => hIw h1 ∧ aFr (aWf kE95.2.2.2.2.2) h_s h1)) := cxI kok95 (rel2 (n_s := 1) hI) hI.2 rfl rfl
theorem cm_118 {F_s : Nat} {x1_s : Int32} {x2_s : Int32} {h_s : zH} (hI : hIw h_s) : wF F_s 118 (0, [some (.ref 6), some (.int x1_s), some (.int x2_s), none, none, none], [], h_s) (gI (fun _ h1 => hIw h1 ∧ aFr (aWf kE42.2.2.2.2.2) h_s h1)) := cxI kok42 (rel2 (n_s := 3) hI) hI.2 rfl rfl
theorem cm_212 {F_s : Nat} {x1_s : Int32} {x2_s : Int32} {h_s : zH} (hI : hIw h_s) : wF F_s 212 (0, [some (.ref 102), some (.int x1_s), some (.int x2_s)], [], h_s) (gI (fun _ h1 => hIw h1 ∧ aFr (aWf kE91.2.2.2.2.2) h_s h1)) := cxI kok91 (rel2 (n_s := 0) hI) hI.2 rfl rfl
theorem cm_119 {F_s : Nat}  {h_s : zH} (hI : hIw h_s) : wF F_s 119 (0, [some (.ref 6), none, none], [], h_s) (gI (fun _ h1 => hIw h1 ∧ aFr (aWf kE36.2.2.2.2.2) h_s h1)) := cxI kok36 (rel0 (n_s := 2) hI) hI.2 rfl rfl
theorem cm_213 {F_s : Nat}  {h_s : zH} (hI : hIw h_s) : wF F_s 213 (0, [some (.ref 102), none, none], [], h_s) (gI (fun _ h1 => hIw h1 ∧ aFr (aWf kE38.2.2.2.2.2) h_s h1)) := cxI kok38 (rel0 (n_s := 2) hI) hI.2 rfl rfl
theorem cm_120 {F_s : Nat} {x1_s : Int32} {h_s : zH} (hI : hIw h_s) : wF F_s 120 (0, [some (.ref 6), some (.int x1_s)], [], h_s) (gI (fun _ h1 => hIw h1 ∧ aFr (aWf kE30.2.2.2.2.2) h_s h1)) := cxI kok30 (rel1 (n_s := 0) hI) hI.2 rfl rfl
theorem cm_214 {F_s : Nat} {x1_s : Int32} {h_s : zH} (hI : hIw h_s) : wF F_s 214 (0, [some (.ref 102), some (.int x1_s)], [], h_s) (gI (fun _ h1 => hIw h1 ∧ aFr (aWf kE31.2.2.2.2.2) h_s h1)) := cxI kok31 (rel1 (n_s := 0) hI) hI.2 rfl rfl
theorem cm_121 {F_s : Nat}  {h_s : zH} (hI : hIw h_s) : wF F_s 121 (0, [some (.ref 6), none], [], h_s) (gI (fun _ h1 => hIw h1 ∧ aFr (aWf kE28.2.2.2.2.2) h_s h1)) := cxI kok28 (rel0 (n_s := 1) hI) hI.2 rfl rfl
theorem cm_215 {F_s : Nat}  {h_s : zH} (hI : hIw h_s) : wF F_s 215 (0, [some (.ref 102), none], [], h_s) (gI (fun _ h1 => hIw h1 ∧ aFr (aWf kE29.2.2.2.2.2) h_s h1)) := cxI kok29 (rel0 (n_s := 1) hI) hI.2 rfl rfl
theorem cm_122 {F_s : Nat}  {h_s : zH} (hI : hIw h_s) : wF F_s 122 (0, [some (.ref 6), none], [], h_s) (gI (fun _ h1 => hIw h1 ∧ aFr (aWf kE26.2.2.2.2.2) h_s h1)) := cxI kok26 (rel0 (n_s := 1) hI) hI.2 rfl rfl
theorem cm_216 {F_s : Nat}  {h_s : zH} (hI : hIw h_s) : wF F_s 216 (0, [some (.ref 102), none], [], h_s) (gI (fun _ h1 => hIw h1 ∧ aFr (aWf kE27.2.2.2.2.2) h_s h1)) := cxI kok27 (rel0 (n_s := 1) hI) hI.2 rfl rfl
theorem cm_123 {F_s : Nat}  {h_s : zH} (hI : hIw h_s) : wF F_s 123 (0, [some (.ref 6)], [], h_s) (gI (fun _ h1 => hIw h1 ∧ aFr (aWf kE24.2.2.2.2.2) h_s h1)) := cxI kok24 (rel0 (n_s := 0) hI) hI.2 rfl rfl
theorem cm_149 {F_s : Nat}  {h_s : zH} (hI : hIw h_s) : wF F_s 149 (0, [some (.ref 102)], [], h_s) (gI (fun _ h1 => hIw h1 ∧ aFr (aWf kE25.2.2.2.2.2) h_s h1)) := cxI kok25 (rel0 (n_s := 0) hI) hI.2 rfl rfl
theorem cm_124 {F_s : Nat}  {h_s : zH} (hI : hIw h_s) : wF F_s 124 (0, [some (.ref 6)], [], h_s) (gI (fun _ h1 => hIw h1 ∧ aFr (aWf kE22.2.2.2.2.2) h_s h1)) := cxI kok22 (rel0 (n_s := 0) hI) hI.2 rfl rfl
theorem cm_150 {F_s : Nat}  {h_s : zH} (hI : hIw h_s) : wF F_s 150 (0, [some (.ref 102)], [], h_s) (gI (fun _ h1 => hIw h1 ∧ aFr (aWf kE23.2.2.2.2.2) h_s h1)) := cxI kok23 (rel0 (n_s := 0) hI) hI.2 rfl rfl
theorem cm_125 {F_s : Nat} {x1_s : Int32} {h_s : zH} (hI : hIw h_s) : wF F_s 125 (0, [some (.ref 6), some (.int x1_s)], [], h_s) (gI (fun _ h1 => hIw h1 ∧ aFr (aWf kE20.2.2.2.2.2) h_s h1)) := cxI kok20 (rel1 (n_s := 0) hI) hI.2 rfl rfl
theorem cm_219 {F_s : Nat} {x1_s : Int32} {h_s : zH} (hI : hIw h_s) : wF F_s 219 (0, [some (.ref 102), some (.int x1_s)], [], h_s) (gI (fun _ h1 => hIw h1 ∧ aFr (aWf kE21.2.2.2.2.2) h_s h1)) := cxI kok21 (rel1 (n_s := 0) hI) hI.2 rfl rfl
theorem cm_126 {F_s : Nat} {x1_s : Int32} {x2_s : Int32} {x3 : Int32} {h_s : zH} (hI : hIw h_s) : wF F_s 126 (0, [some (.ref 6), some (.int x1_s), some (.int x2_s), some (.int x3)], [], h_s) (gI (fun _ h1 => hIw h1 ∧ aFr (aWf kE18.2.2.2.2.2) h_s h1)) := cxI kok18 (rel3 (n_s := 0) hI) hI.2 rfl rfl
theorem cm_226 {F_s : Nat} {x1_s : Int32} {x2_s : Int32} {x3 : Int32} {h_s : zH} (hI : hIw h_s) : wF F_s 226 (0, [some (.ref 102), some (.int x1_s), some (.int x2_s), some (.int x3)], [], h_s) (gI (fun _ h1 => hIw h1 ∧ aFr (aWf kE19.2.2.2.2.2) h_s h1)) := cxI kok19 (rel3 (n_s := 0) hI) hI.2 rfl rfl
theorem cm_127 {F_s : Nat} {x1_s : Int32} {h_s : zH} (hI : hIw h_s) : wF F_s 127 (0, [some (.ref 6), some (.int x1_s)], [], h_s) (gI (fun _ h1 => hIw h1 ∧ aFr (aWf kE16.2.2.2.2.2) h_s h1)) := cxI kok16 (rel1 (n_s := 0) hI) hI.2 rfl rfl
theorem cm_227 {F_s : Nat} {x1_s : Int32} {h_s : zH} (hI : hIw h_s) : wF F_s 227 (0, [some (.ref 102), some (.int x1_s)], [], h_s) (gI (fun _ h1 => hIw h1 ∧ aFr (aWf kE17.2.2.2.2.2) h_s h1)) := cxI kok17 (rel1 (n_s := 0) hI) hI.2 rfl rfl
theorem cm_128 {F_s : Nat} {x1_s : Int32} {x2_s : Int32} {h_s : zH} (hI : hIw h_s) : wF F_s 128 (0, [some (.ref 6), some (.int x1_s), some (.int x2_s)], [], h_s) (gI (fun _ h1 => hIw h1 ∧ aFr (aWf kE14.2.2.2.2.2) h_s h1)) := cxI kok14 (rel2 (n_s := 0) hI) hI.2 rfl rfl
theorem cm_229 {F_s : Nat} {x1_s : Int32} {x2_s : Int32} {h_s : zH} (hI : hIw h_s) : wF F_s 229 (0, [some (.ref 102), some (.int x1_s), some (.int x2_s)], [], h_s) (gI (fun _ h1 => hIw h1 ∧ aFr (aWf kE15.2.2.2.2.2) h_s h1)) := cxI kok15 (rel2 (n_s := 0) hI) hI.2 rfl rfl
theorem cm_129 {F_s : Nat} {x1_s : Int32} {x2_s : Int32} {x3 : Int32} {h_s : zH} (hI : hIw h_s) : wF F_s 129 (0, [some (.ref 6), some (.int x1_s), some (.int x2_s), some (.int x3)], [], h_s) (gI (fun _ h1 => hIw h1 ∧ aFr (aWf kE12.2.2.2.2.2) h_s h1)) := cxI kok12 (rel3 (n_s := 0) hI) hI.2 rfl rfl
theorem cm_230 {F_s : Nat} {x1_s : Int32} {x2_s : Int32} {x3 : Int32} {h_s : zH} (hI : hIw h_s) : wF F_s 230 (0, [some (.ref 102), some (.int x1_s), some (.int x2_s), some (.int x3), none], [], h_s) (gI (fun _ h1 => hIw h1 ∧ aFr (aWf kE13.2.2.2.2.2) h_s h1)) := cxI kok13 (rel3 (n_s := 1) hI) hI.2 rfl rfl
theorem cm_130 {F_s : Nat} {x1_s : Int32} {x2_s : Int32} {x3 : Int64} {h_s : zH} (hI : hIw h_s) : wF F_s 130 (0, [some (.ref 6), some (.int x1_s), some (.int x2_s), some (.long x3), none, none], [], h_s) (gI (fun _ h1 => hIw h1 ∧ aFr (aWf kE9.2.2.2.2.2) h_s h1)) := cxI kok9 (relp (n_s := 1) hI) hI.2 rfl rfl
theorem cm_233 {F_s : Nat} {x1_s : Int32} {x2_s : Int32} {x3 : Int64} {h_s : zH} (hI : hIw h_s) : wF F_s 233 (0, [some (.ref 102), some (.int x1_s), some (.int x2_s), some (.long x3), none, none], [], h_s) (gI (fun _ h1 => hIw h1 ∧ aFr (aWf kE10.2.2.2.2.2) h_s h1)) := cxI kok10 (relp (n_s := 1) hI) hI.2 rfl rfl
theorem cm_131 {F_s : Nat} {x1_s : Int32} {x2_s : Int32} {h_s : zH} (hI : hIw h_s) : wF F_s 131 (0, [some (.ref 6), some (.int x1_s), some (.int x2_s)], [], h_s) (gJ (fun _ h1 => hIw h1 ∧ aFr (aWf kE7.2.2.2.2.2) h_s h1)) := cxJ kok7 (rel2 (n_s := 0) hI) hI.2 rfl rfl
theorem cm_234 {F_s : Nat} {x1_s : Int32} {x2_s : Int32} {h_s : zH} (hI : hIw h_s) : wF F_s 234 (0, [some (.ref 102), some (.int x1_s), some (.int x2_s)], [], h_s) (gJ (fun _ h1 => hIw h1 ∧ aFr (aWf kE8.2.2.2.2.2) h_s h1)) := cxJ kok8 (rel2 (n_s := 0) hI) hI.2 rfl rfl
theorem cm_132 {F_s : Nat} {x1_s : Int32} {x2_s : Int32} {x3 : Int32} {x4_s : Int32} {x5_s : Int32} {h_s : zH} (hI : hIw h_s) : wF F_s 132 (0, [some (.ref 6), some (.int x1_s), some (.int x2_s), some (.int x3), some (.int x4_s), some (.int x5_s), none, none], [], h_s) (gI (fun _ h1 => hIw h1 ∧ aFr (aWf kE5.2.2.2.2.2) h_s h1)) := cxI kok5 (rel5 (n_s := 2) hI) hI.2 rfl rfl
theorem cm_235 {F_s : Nat} {x1_s : Int32} {x2_s : Int32} {x3 : Int32} {x4_s : Int32} {x5_s : Int32} {h_s : zH} (hI : hIw h_s) : wF F_s 235 (0, [some (.ref 102), some (.int x1_s), some (.int x2_s), some (.int x3), some (.int x4_s), some (.int x5_s), none], [], h_s) (gI (fun _ h1 => hIw h1 ∧ aFr (aWf kE6.2.2.2.2.2) h_s h1)) := cxI kok6 (rel5 (n_s := 1) hI) hI.2 rfl rfl
theorem cm_133 {F_s : Nat} {x1_s : Int32} {x2_s : Int32} {h_s : zH} (hI : hIw h_s) : wF F_s 133 (0, [some (.ref 6), some (.int x1_s), some (.int x2_s), none, none], [], h_s) (gI (fun _ h1 => hIw h1 ∧ aFr (aWf kE3.2.2.2.2.2) h_s h1)) := cxI kok3 (rel2 (n_s := 2) hI) hI.2 rfl rfl
theorem cm_236 {F_s : Nat} {x1_s : Int32} {x2_s : Int32} {h_s : zH} (hI : hIw h_s) : wF F_s 236 (0, [some (.ref 102), some (.int x1_s), some (.int x2_s), none], [], h_s) (gI (fun _ h1 => hIw h1 ∧ aFr (aWf kE4.2.2.2.2.2) h_s h1)) := cxI kok4 (rel2 (n_s := 1) hI) hI.2 rfl rfl
theorem cm_134 {F_s : Nat} {x1_s : Int32} {h_s : zH} (hI : hIw h_s) : wF F_s 134 (0, [some (.ref 6), some (.int x1_s)], [], h_s) (gI (fun _ h1 => hIw h1 ∧ aFr (aWf kE0.2.2.2.2.2) h_s h1)) := cxI kok0 (rel1 (n_s := 0) hI) hI.2 rfl rfl
theorem cm_237 {F_s : Nat} {x1_s : Int32} {h_s : zH} (hI : hIw h_s) : wF F_s 237 (0, [some (.ref 102), some (.int x1_s)], [], h_s) (gI (fun _ h1 => hIw h1 ∧ aFr (aWf kE1.2.2.2.2.2) h_s h1)) := cxI kok1 (rel1 (n_s := 0) hI) hI.2 rfl rfl
