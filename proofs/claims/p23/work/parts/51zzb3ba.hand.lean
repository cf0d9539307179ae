/-! BITS of a number. -/
def btv (x_s : Int32) (k_s : Nat) : Bool := x_s.toBitVec.getLsbD k_s
theorem sh_ix : ∀ k_s, k_s < 32 → (((Int32.ofNat k_s) &&& 31).toBitVec.smod 32).toNat = k_s := by decide
theorem y_of {y_s : Int32} {k_s : Nat} (hy : y_s.toInt = (k_s : Int)) (hk : k_s < 32) : y_s = Int32.ofNat k_s := Int32.toInt_inj.mp (by rw [na_ofn (by omega), hy])
theorem bt_or (x_s z_s : Int32) (k_s : Nat) : btv (x_s ||| z_s) k_s = (btv x_s k_s || btv z_s k_s) := by
  unfold btv
  show (x_s.toBitVec ||| z_s.toBitVec).getLsbD k_s = _
  rw [BitVec.getLsbD_or]
theorem bt_and (x_s z_s : Int32) (k_s : Nat) : btv (x_s &&& z_s) k_s = (btv x_s k_s && btv z_s k_s) := by
  unfold btv
  show (x_s.toBitVec &&& z_s.toBitVec).getLsbD k_s = _
  rw [BitVec.getLsbD_and]
theorem bt_0 (k_s : Nat) : btv 0 k_s = false := by
  unfold btv
  show (0#32).getLsbD k_s = false
  exact BitVec.getLsbD_zero
theorem bt_1 {k_s : Nat} : btv 1 k_s = decide (k_s = 0) := by
  unfold btv
  show (1#32).getLsbD k_s = decide (k_s = 0)
  rw [BitVec.getLsbD_one]
  simp
theorem bt_ext {x_s z_s : Int32} (h_s : ∀ k_s, k_s < 32 → btv x_s k_s = btv z_s k_s) : x_s = z_s := by
  have e_s : x_s.toBitVec = z_s.toBitVec := BitVec.eq_of_getLsbD_eq (fun k_s hk => h_s k_s hk)
  exact Int32.toBitVec_inj.mp e_s
theorem bt_shl {y_s : Int32} {j_s k_s : Nat} (hy : y_s.toInt = (j_s : Int)) (hj : j_s < 32) (hk : k_s < 32) : btv (1 <<< (y_s &&& 31)) k_s = decide (k_s = j_s) := by
  rw [y_of hy hj]
  unfold btv
  show ((1#32) <<< (((Int32.ofNat j_s) &&& 31).toBitVec.smod 32)).getLsbD k_s = decide (k_s = j_s)
  rw [BitVec.shiftLeft_eq', sh_ix j_s hj, BitVec.getLsbD_shiftLeft, BitVec.getLsbD_one]
  by_cases e_s : k_s = j_s
  · subst e_s
    simp [hk]
  · by_cases e1_s : k_s < j_s
    · simp [e_s, e1_s]
    · have e2_s : ¬ k_s - j_s = 0 := by omega
      simp [e_s, e2_s]
theorem bt_shr {x_s y_s : Int32} {k_s : Nat} (hy : y_s.toInt = (k_s : Int)) (hk : k_s < 32) : ((x_s >>> (y_s &&& 31)) &&& 1) = if btv x_s k_s = true then 1 else 0 := by
  have e_s : ∀ j_s, j_s < 32 → btv ((x_s >>> (y_s &&& 31)) &&& 1) j_s = (decide (j_s = 0) && btv x_s k_s) := by
    intro j_s hj
    rw [bt_and, bt_1]
    by_cases e0_s : j_s = 0
    · subst e0_s
      rw [decide_eq_true rfl, Bool.true_and, Bool.and_true, y_of hy hk]
      unfold btv
      show (x_s.toBitVec.sshiftRight (((Int32.ofNat k_s) &&& 31).toBitVec.smod 32).toNat).getLsbD 0 = x_s.toBitVec.getLsbD k_s
      rw [sh_ix k_s hk, BitVec.getLsbD_sshiftRight]
      simp [hk]
    · rw [decide_eq_false e0_s, Bool.false_and, Bool.and_false]
  refine bt_ext (fun j_s hj => ?_)
  rw [e_s j_s hj]
  cases h_s : btv x_s k_s with
  | false => rw [if_neg Bool.false_ne_true, bt_0, Bool.and_false]
  | true => rw [if_pos rfl, bt_1, Bool.and_true]
theorem bt_tst {x_s y_s : Int32} {k_s : Nat} (hy : y_s.toInt = (k_s : Int)) (hk : k_s < 32) : (((x_s >>> (y_s &&& 31)) &&& 1).toInt = 0 ↔ btv x_s k_s = false) ∧ (((x_s >>> (y_s &&& 31)) &&& 1).toInt = 1 ↔ btv x_s k_s = true) := by
  rw [bt_shr hy hk]
  cases h_s : btv x_s k_s with
  | false =>
    rw [if_neg Bool.false_ne_true]
    exact ⟨⟨fun _ => rfl, fun _ => rfl⟩, ⟨fun w_s => absurd w_s (by decide), fun w_s => absurd w_s Bool.false_ne_true⟩⟩
  | true =>
    rw [if_pos rfl]
    exact ⟨⟨fun w_s => absurd w_s (by decide), fun w_s => absurd w_s.symm Bool.false_ne_true⟩, ⟨fun _ => rfl, fun _ => rfl⟩⟩
