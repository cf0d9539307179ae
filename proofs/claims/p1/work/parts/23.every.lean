/-! EVERY SCRIPT of six ints, or fewer, by its case. -/
theorem sat_of {E : Nat → Int32} {a1 b1 a6 b6 : Nat} (h1 : a1 ≤ zo (E 1) ∧ zo (E 1) ≤ b1) (h6 : a6 ≤ zo (E 6) ∧ zo (E 6) ≤ b6) : sSat E (scs (a1, b1) (a6, b6)) := by
  intro k
  match k with
  | 0 => exact ⟨Nat.zero_le _, zo_max _⟩
  | 1 => exact h1
  | 2 => exact ⟨Nat.zero_le _, zo_max _⟩
  | 3 => exact ⟨Nat.zero_le _, zo_max _⟩
  | 4 => exact ⟨Nat.zero_le _, zo_max _⟩
  | 5 => exact ⟨Nat.zero_le _, zo_max _⟩
  | 6 => exact h6
  | 7 => exact ⟨Nat.zero_le _, zo_max _⟩
  | 8 => exact ⟨Nat.zero_le _, zo_max _⟩
  | 9 => exact ⟨Nat.zero_le _, zo_max _⟩
  | 10 => exact ⟨Nat.zero_le _, zo_max _⟩
  | 11 => exact ⟨Nat.zero_le _, zo_max _⟩
  | 12 => exact ⟨Nat.zero_le _, zo_max _⟩
  | 13 => exact ⟨Nat.zero_le _, zo_max _⟩
  | 14 => exact ⟨Nat.zero_le _, zo_max _⟩
  | 15 => exact ⟨Nat.zero_le _, zo_max _⟩
  | 16 => exact ⟨Nat.zero_le _, zo_max _⟩
  | 17 => exact ⟨Nat.zero_le _, zo_max _⟩
  | 18 => exact ⟨Nat.zero_le _, zo_max _⟩
  | 19 => exact ⟨Nat.zero_le _, zo_max _⟩
  | 20 => exact ⟨Nat.zero_le _, zo_max _⟩
  | 21 => exact ⟨Nat.zero_le _, zo_max _⟩
  | 22 => exact ⟨Nat.zero_le _, zo_max _⟩
  | 23 => exact ⟨Nat.zero_le _, zo_max _⟩
  | 24 => exact ⟨Nat.zero_le _, zo_max _⟩
  | 25 => exact ⟨Nat.zero_le _, zo_max _⟩
  | 26 => exact ⟨Nat.zero_le _, zo_max _⟩
  | 27 => exact ⟨Nat.zero_le _, zo_max _⟩
  | 28 => exact ⟨Nat.zero_le _, zo_max _⟩
  | 29 => exact ⟨Nat.zero_le _, zo_max _⟩
  | 30 => exact ⟨Nat.zero_le _, zo_max _⟩
  | 31 => exact ⟨Nat.zero_le _, zo_max _⟩
  | 32 => exact ⟨Nat.zero_le _, zo_max _⟩
  | 33 => exact ⟨Nat.zero_le _, zo_max _⟩
  | 34 => exact ⟨Nat.zero_le _, zo_max _⟩
  | 35 => exact ⟨Nat.zero_le _, zo_max _⟩
  | 36 => exact ⟨Nat.zero_le _, zo_max _⟩
  | 37 => exact ⟨Nat.zero_le _, zo_max _⟩
  | _ + 38 => exact ⟨Nat.zero_le _, zo_max _⟩
theorem sat_of2 {E : Nat → Int32} {a1 b1 a2 b2 a6 b6 : Nat} (h1 : a1 ≤ zo (E 1) ∧ zo (E 1) ≤ b1) (h2 : a2 ≤ zo (E 2) ∧ zo (E 2) ≤ b2) (h6 : a6 ≤ zo (E 6) ∧ zo (E 6) ≤ b6) : sSat E (scs2 (a1, b1) (a2, b2) (a6, b6)) := by
  intro k
  match k with
  | 0 => exact ⟨Nat.zero_le _, zo_max _⟩
  | 1 => exact h1
  | 2 => exact h2
  | 3 => exact ⟨Nat.zero_le _, zo_max _⟩
  | 4 => exact ⟨Nat.zero_le _, zo_max _⟩
  | 5 => exact ⟨Nat.zero_le _, zo_max _⟩
  | 6 => exact h6
  | 7 => exact ⟨Nat.zero_le _, zo_max _⟩
  | 8 => exact ⟨Nat.zero_le _, zo_max _⟩
  | 9 => exact ⟨Nat.zero_le _, zo_max _⟩
  | 10 => exact ⟨Nat.zero_le _, zo_max _⟩
  | 11 => exact ⟨Nat.zero_le _, zo_max _⟩
  | 12 => exact ⟨Nat.zero_le _, zo_max _⟩
  | 13 => exact ⟨Nat.zero_le _, zo_max _⟩
  | 14 => exact ⟨Nat.zero_le _, zo_max _⟩
  | 15 => exact ⟨Nat.zero_le _, zo_max _⟩
  | 16 => exact ⟨Nat.zero_le _, zo_max _⟩
  | 17 => exact ⟨Nat.zero_le _, zo_max _⟩
  | 18 => exact ⟨Nat.zero_le _, zo_max _⟩
  | 19 => exact ⟨Nat.zero_le _, zo_max _⟩
  | 20 => exact ⟨Nat.zero_le _, zo_max _⟩
  | 21 => exact ⟨Nat.zero_le _, zo_max _⟩
  | 22 => exact ⟨Nat.zero_le _, zo_max _⟩
  | 23 => exact ⟨Nat.zero_le _, zo_max _⟩
  | 24 => exact ⟨Nat.zero_le _, zo_max _⟩
  | 25 => exact ⟨Nat.zero_le _, zo_max _⟩
  | 26 => exact ⟨Nat.zero_le _, zo_max _⟩
  | 27 => exact ⟨Nat.zero_le _, zo_max _⟩
  | 28 => exact ⟨Nat.zero_le _, zo_max _⟩
  | 29 => exact ⟨Nat.zero_le _, zo_max _⟩
  | 30 => exact ⟨Nat.zero_le _, zo_max _⟩
  | 31 => exact ⟨Nat.zero_le _, zo_max _⟩
  | 32 => exact ⟨Nat.zero_le _, zo_max _⟩
  | 33 => exact ⟨Nat.zero_le _, zo_max _⟩
  | 34 => exact ⟨Nat.zero_le _, zo_max _⟩
  | 35 => exact ⟨Nat.zero_le _, zo_max _⟩
  | 36 => exact ⟨Nat.zero_le _, zo_max _⟩
  | 37 => exact ⟨Nat.zero_le _, zo_max _⟩
  | _ + 38 => exact ⟨Nat.zero_le _, zo_max _⟩
theorem sby2 {E : Nat → Int32} {L a1 b1 a2 b2 a6 b6 : Nat} (hL : L ≤ 1000) (hE : sEnv E) (hx : sx L 60000 (scs2 (a1, b1) (a2, b2) (a6, b6)) [] sfr0 sh0 = true) (h1 : a1 ≤ zo (E 1) ∧ zo (E 1) ≤ b1) (h2 : a2 ≤ zo (E 2) ∧ zo (E 2) ≤ b2) (h6 : a6 ≤ zo (E 6) ∧ zo (E 6) ≤ b6) : zxr 60000 (sfr0.map (sFr E)) (sH E L [] sh0) = true :=
  sx_ok hL hE 60000 _ [] sfr0 sh0 hx ⟨_, rfl⟩ (sat_of2 h1 h2 h6)
theorem sby {E : Nat → Int32} {L a1 b1 a6 b6 : Nat} (hL : L ≤ 1000) (hE : sEnv E) (hx : sx L 60000 (scs (a1, b1) (a6, b6)) [] sfr0 sh0 = true) (h1 : a1 ≤ zo (E 1) ∧ zo (E 1) ≤ b1) (h6 : a6 ≤ zo (E 6) ∧ zo (E 6) ≤ b6) : zxr 60000 (sfr0.map (sFr E)) (sH E L [] sh0) = true :=
  sx_ok hL hE 60000 _ [] sfr0 sh0 hx ⟨_, rfl⟩ (sat_of h1 h6)
theorem srun6 {E : Nat → Int32} (hE : sEnv E) : zxr 60000 (sfr0.map (sFr E)) (sH E 6 [] sh0) = true := by
  have all1 : 0 ≤ zo (E 1) ∧ zo (E 1) ≤ 4294967295 := ⟨Nat.zero_le _, zo_max _⟩
  have all2 : 0 ≤ zo (E 2) ∧ zo (E 2) ≤ 4294967295 := ⟨Nat.zero_le _, zo_max _⟩
  have m6 := zo_max (E 6)
  have m1 := zo_max (E 1)
  have h6 : 6 ≤ 1000 := by decide
  rcases (show zo (E 6) < 2147483648 ∨ 2147483686 ≤ zo (E 6) ∨ zo (E 6) = 2147483648 ∨ zo (E 6) = 2147483649 ∨ zo (E 6) = 2147483650 ∨ zo (E 6) = 2147483651 ∨ zo (E 6) = 2147483652 ∨ zo (E 6) = 2147483653 ∨ zo (E 6) = 2147483654 ∨ zo (E 6) = 2147483655 ∨ zo (E 6) = 2147483656 ∨ zo (E 6) = 2147483657 ∨ zo (E 6) = 2147483658 ∨ zo (E 6) = 2147483659 ∨ zo (E 6) = 2147483660 ∨ zo (E 6) = 2147483661 ∨ zo (E 6) = 2147483662 ∨ zo (E 6) = 2147483663 ∨ zo (E 6) = 2147483664 ∨ zo (E 6) = 2147483665 ∨ zo (E 6) = 2147483666 ∨ zo (E 6) = 2147483667 ∨ zo (E 6) = 2147483668 ∨ zo (E 6) = 2147483669 ∨ zo (E 6) = 2147483670 ∨ zo (E 6) = 2147483671 ∨ zo (E 6) = 2147483672 ∨ zo (E 6) = 2147483673 ∨ zo (E 6) = 2147483674 ∨ zo (E 6) = 2147483675 ∨ zo (E 6) = 2147483676 ∨ zo (E 6) = 2147483677 ∨ zo (E 6) = 2147483678 ∨ zo (E 6) = 2147483679 ∨ zo (E 6) = 2147483680 ∨ zo (E 6) = 2147483681 ∨ zo (E 6) = 2147483682 ∨ zo (E 6) = 2147483683 ∨ zo (E 6) = 2147483684 ∨ zo (E 6) = 2147483685 by omega) with q | q | q | q | q | q | q | q | q | q | q | q | q | q | q | q | q | q | q | q | q | q | q | q | q | q | q | q | q | q | q | q | q | q | q | q | q | q | q | q
  · exact sby h6 hE sk_lo all1 ⟨Nat.zero_le _, by omega⟩
  · exact sby h6 hE sk_hi all1 ⟨q, m6⟩
  · exact sby h6 hE sk_0 all1 ⟨Nat.le_of_eq q.symm, Nat.le_of_eq q⟩
  · exact sby h6 hE sk_1 all1 ⟨Nat.le_of_eq q.symm, Nat.le_of_eq q⟩
  · exact sby h6 hE sk_2 all1 ⟨Nat.le_of_eq q.symm, Nat.le_of_eq q⟩
  · exact sby h6 hE sk_3 all1 ⟨Nat.le_of_eq q.symm, Nat.le_of_eq q⟩
  · exact sby h6 hE sk_4 all1 ⟨Nat.le_of_eq q.symm, Nat.le_of_eq q⟩
  · exact sby h6 hE sk_5 all1 ⟨Nat.le_of_eq q.symm, Nat.le_of_eq q⟩
  · exact sby h6 hE sk_6 all1 ⟨Nat.le_of_eq q.symm, Nat.le_of_eq q⟩
  · exact sby h6 hE sk_7 all1 ⟨Nat.le_of_eq q.symm, Nat.le_of_eq q⟩
  · exact sby h6 hE sk_8 all1 ⟨Nat.le_of_eq q.symm, Nat.le_of_eq q⟩
  · exact sby h6 hE sk_9 all1 ⟨Nat.le_of_eq q.symm, Nat.le_of_eq q⟩
  · exact sby h6 hE sk_10 all1 ⟨Nat.le_of_eq q.symm, Nat.le_of_eq q⟩
  · exact sby h6 hE sk_11 all1 ⟨Nat.le_of_eq q.symm, Nat.le_of_eq q⟩
  · exact sby h6 hE sk_12 all1 ⟨Nat.le_of_eq q.symm, Nat.le_of_eq q⟩
  · exact sby h6 hE sk_13 all1 ⟨Nat.le_of_eq q.symm, Nat.le_of_eq q⟩
  · exact sby h6 hE sk_14 all1 ⟨Nat.le_of_eq q.symm, Nat.le_of_eq q⟩
  · exact sby h6 hE sk_15 all1 ⟨Nat.le_of_eq q.symm, Nat.le_of_eq q⟩
  · exact sby h6 hE sk_16 all1 ⟨Nat.le_of_eq q.symm, Nat.le_of_eq q⟩
  · exact sby h6 hE sk_17 all1 ⟨Nat.le_of_eq q.symm, Nat.le_of_eq q⟩
  · exact sby h6 hE sk_18 all1 ⟨Nat.le_of_eq q.symm, Nat.le_of_eq q⟩
  · exact sby h6 hE sk_19 all1 ⟨Nat.le_of_eq q.symm, Nat.le_of_eq q⟩
  · exact sby h6 hE sk_20 all1 ⟨Nat.le_of_eq q.symm, Nat.le_of_eq q⟩
  · exact sby h6 hE sk_21 all1 ⟨Nat.le_of_eq q.symm, Nat.le_of_eq q⟩
  · exact sby h6 hE sk_22 all1 ⟨Nat.le_of_eq q.symm, Nat.le_of_eq q⟩
  · exact sby h6 hE sk_23 all1 ⟨Nat.le_of_eq q.symm, Nat.le_of_eq q⟩
  · exact sby h6 hE sk_24 all1 ⟨Nat.le_of_eq q.symm, Nat.le_of_eq q⟩
  · exact sby h6 hE sk_25 all1 ⟨Nat.le_of_eq q.symm, Nat.le_of_eq q⟩
  · exact sby h6 hE sk_26 all1 ⟨Nat.le_of_eq q.symm, Nat.le_of_eq q⟩
  · exact sby h6 hE sk_27 all1 ⟨Nat.le_of_eq q.symm, Nat.le_of_eq q⟩
  · exact sby h6 hE sk_28 all1 ⟨Nat.le_of_eq q.symm, Nat.le_of_eq q⟩
  · exact sby h6 hE sk_29 all1 ⟨Nat.le_of_eq q.symm, Nat.le_of_eq q⟩
  · exact sby h6 hE sk_30 all1 ⟨Nat.le_of_eq q.symm, Nat.le_of_eq q⟩
  · exact sby h6 hE sk_31 all1 ⟨Nat.le_of_eq q.symm, Nat.le_of_eq q⟩
  · rcases (show zo (E 1) < 2147483648 ∨ 2147483654 ≤ zo (E 1) ∨ (2147483648 ≤ zo (E 1) ∧ zo (E 1) ≤ 2147483653) by omega) with w | w | w
    · exact sby2 h6 hE sk_32_lo ⟨Nat.zero_le _, by omega⟩ all2 ⟨Nat.le_of_eq q.symm, Nat.le_of_eq q⟩
    · exact sby2 h6 hE sk_32_hi ⟨w, m1⟩ all2 ⟨Nat.le_of_eq q.symm, Nat.le_of_eq q⟩
    · rcases (show zo (E 2) < 2147483648 ∨ 2147483653 ≤ zo (E 2) ∨ zo (E 2) = 2147483648 ∨ zo (E 2) = 2147483649 ∨ zo (E 2) = 2147483650 ∨ zo (E 2) = 2147483651 ∨ zo (E 2) = 2147483652 by omega) with u | u | u | u | u | u | u
      · exact sby2 h6 hE sk_32_slo w ⟨Nat.zero_le _, by omega⟩ ⟨Nat.le_of_eq q.symm, Nat.le_of_eq q⟩
      · exact sby2 h6 hE sk_32_shi w ⟨u, zo_max _⟩ ⟨Nat.le_of_eq q.symm, Nat.le_of_eq q⟩
      · rcases (show zo (E 1) = 2147483648 ∨ zo (E 1) = 2147483649 ∨ zo (E 1) = 2147483650 ∨ zo (E 1) = 2147483651 ∨ zo (E 1) = 2147483652 ∨ zo (E 1) = 2147483653 by omega) with w | w | w | w | w | w
        · exact sby2 h6 hE sk_32_0_0 ⟨Nat.le_of_eq w.symm, Nat.le_of_eq w⟩ ⟨Nat.le_of_eq u.symm, Nat.le_of_eq u⟩ ⟨Nat.le_of_eq q.symm, Nat.le_of_eq q⟩
        · exact sby2 h6 hE sk_32_1_0 ⟨Nat.le_of_eq w.symm, Nat.le_of_eq w⟩ ⟨Nat.le_of_eq u.symm, Nat.le_of_eq u⟩ ⟨Nat.le_of_eq q.symm, Nat.le_of_eq q⟩
        · exact sby2 h6 hE sk_32_2_0 ⟨Nat.le_of_eq w.symm, Nat.le_of_eq w⟩ ⟨Nat.le_of_eq u.symm, Nat.le_of_eq u⟩ ⟨Nat.le_of_eq q.symm, Nat.le_of_eq q⟩
        · exact sby2 h6 hE sk_32_3_0 ⟨Nat.le_of_eq w.symm, Nat.le_of_eq w⟩ ⟨Nat.le_of_eq u.symm, Nat.le_of_eq u⟩ ⟨Nat.le_of_eq q.symm, Nat.le_of_eq q⟩
        · exact sby2 h6 hE sk_32_4_0 ⟨Nat.le_of_eq w.symm, Nat.le_of_eq w⟩ ⟨Nat.le_of_eq u.symm, Nat.le_of_eq u⟩ ⟨Nat.le_of_eq q.symm, Nat.le_of_eq q⟩
        · exact sby2 h6 hE sk_32_5_0 ⟨Nat.le_of_eq w.symm, Nat.le_of_eq w⟩ ⟨Nat.le_of_eq u.symm, Nat.le_of_eq u⟩ ⟨Nat.le_of_eq q.symm, Nat.le_of_eq q⟩
      · rcases (show zo (E 1) = 2147483648 ∨ zo (E 1) = 2147483649 ∨ zo (E 1) = 2147483650 ∨ zo (E 1) = 2147483651 ∨ zo (E 1) = 2147483652 ∨ zo (E 1) = 2147483653 by omega) with w | w | w | w | w | w
        · exact sby2 h6 hE sk_32_0_1 ⟨Nat.le_of_eq w.symm, Nat.le_of_eq w⟩ ⟨Nat.le_of_eq u.symm, Nat.le_of_eq u⟩ ⟨Nat.le_of_eq q.symm, Nat.le_of_eq q⟩
        · exact sby2 h6 hE sk_32_1_1 ⟨Nat.le_of_eq w.symm, Nat.le_of_eq w⟩ ⟨Nat.le_of_eq u.symm, Nat.le_of_eq u⟩ ⟨Nat.le_of_eq q.symm, Nat.le_of_eq q⟩
        · exact sby2 h6 hE sk_32_2_1 ⟨Nat.le_of_eq w.symm, Nat.le_of_eq w⟩ ⟨Nat.le_of_eq u.symm, Nat.le_of_eq u⟩ ⟨Nat.le_of_eq q.symm, Nat.le_of_eq q⟩
        · exact sby2 h6 hE sk_32_3_1 ⟨Nat.le_of_eq w.symm, Nat.le_of_eq w⟩ ⟨Nat.le_of_eq u.symm, Nat.le_of_eq u⟩ ⟨Nat.le_of_eq q.symm, Nat.le_of_eq q⟩
        · exact sby2 h6 hE sk_32_4_1 ⟨Nat.le_of_eq w.symm, Nat.le_of_eq w⟩ ⟨Nat.le_of_eq u.symm, Nat.le_of_eq u⟩ ⟨Nat.le_of_eq q.symm, Nat.le_of_eq q⟩
        · exact sby2 h6 hE sk_32_5_1 ⟨Nat.le_of_eq w.symm, Nat.le_of_eq w⟩ ⟨Nat.le_of_eq u.symm, Nat.le_of_eq u⟩ ⟨Nat.le_of_eq q.symm, Nat.le_of_eq q⟩
      · rcases (show zo (E 1) = 2147483648 ∨ zo (E 1) = 2147483649 ∨ zo (E 1) = 2147483650 ∨ zo (E 1) = 2147483651 ∨ zo (E 1) = 2147483652 ∨ zo (E 1) = 2147483653 by omega) with w | w | w | w | w | w
        · exact sby2 h6 hE sk_32_0_2 ⟨Nat.le_of_eq w.symm, Nat.le_of_eq w⟩ ⟨Nat.le_of_eq u.symm, Nat.le_of_eq u⟩ ⟨Nat.le_of_eq q.symm, Nat.le_of_eq q⟩
        · exact sby2 h6 hE sk_32_1_2 ⟨Nat.le_of_eq w.symm, Nat.le_of_eq w⟩ ⟨Nat.le_of_eq u.symm, Nat.le_of_eq u⟩ ⟨Nat.le_of_eq q.symm, Nat.le_of_eq q⟩
        · exact sby2 h6 hE sk_32_2_2 ⟨Nat.le_of_eq w.symm, Nat.le_of_eq w⟩ ⟨Nat.le_of_eq u.symm, Nat.le_of_eq u⟩ ⟨Nat.le_of_eq q.symm, Nat.le_of_eq q⟩
        · exact sby2 h6 hE sk_32_3_2 ⟨Nat.le_of_eq w.symm, Nat.le_of_eq w⟩ ⟨Nat.le_of_eq u.symm, Nat.le_of_eq u⟩ ⟨Nat.le_of_eq q.symm, Nat.le_of_eq q⟩
        · exact sby2 h6 hE sk_32_4_2 ⟨Nat.le_of_eq w.symm, Nat.le_of_eq w⟩ ⟨Nat.le_of_eq u.symm, Nat.le_of_eq u⟩ ⟨Nat.le_of_eq q.symm, Nat.le_of_eq q⟩
        · exact sby2 h6 hE sk_32_5_2 ⟨Nat.le_of_eq w.symm, Nat.le_of_eq w⟩ ⟨Nat.le_of_eq u.symm, Nat.le_of_eq u⟩ ⟨Nat.le_of_eq q.symm, Nat.le_of_eq q⟩
      · rcases (show zo (E 1) = 2147483648 ∨ zo (E 1) = 2147483649 ∨ zo (E 1) = 2147483650 ∨ zo (E 1) = 2147483651 ∨ zo (E 1) = 2147483652 ∨ zo (E 1) = 2147483653 by omega) with w | w | w | w | w | w
        · exact sby2 h6 hE sk_32_0_3 ⟨Nat.le_of_eq w.symm, Nat.le_of_eq w⟩ ⟨Nat.le_of_eq u.symm, Nat.le_of_eq u⟩ ⟨Nat.le_of_eq q.symm, Nat.le_of_eq q⟩
        · exact sby2 h6 hE sk_32_1_3 ⟨Nat.le_of_eq w.symm, Nat.le_of_eq w⟩ ⟨Nat.le_of_eq u.symm, Nat.le_of_eq u⟩ ⟨Nat.le_of_eq q.symm, Nat.le_of_eq q⟩
        · exact sby2 h6 hE sk_32_2_3 ⟨Nat.le_of_eq w.symm, Nat.le_of_eq w⟩ ⟨Nat.le_of_eq u.symm, Nat.le_of_eq u⟩ ⟨Nat.le_of_eq q.symm, Nat.le_of_eq q⟩
        · exact sby2 h6 hE sk_32_3_3 ⟨Nat.le_of_eq w.symm, Nat.le_of_eq w⟩ ⟨Nat.le_of_eq u.symm, Nat.le_of_eq u⟩ ⟨Nat.le_of_eq q.symm, Nat.le_of_eq q⟩
        · exact sby2 h6 hE sk_32_4_3 ⟨Nat.le_of_eq w.symm, Nat.le_of_eq w⟩ ⟨Nat.le_of_eq u.symm, Nat.le_of_eq u⟩ ⟨Nat.le_of_eq q.symm, Nat.le_of_eq q⟩
        · exact sby2 h6 hE sk_32_5_3 ⟨Nat.le_of_eq w.symm, Nat.le_of_eq w⟩ ⟨Nat.le_of_eq u.symm, Nat.le_of_eq u⟩ ⟨Nat.le_of_eq q.symm, Nat.le_of_eq q⟩
      · rcases (show zo (E 1) = 2147483648 ∨ zo (E 1) = 2147483649 ∨ zo (E 1) = 2147483650 ∨ zo (E 1) = 2147483651 ∨ zo (E 1) = 2147483652 ∨ zo (E 1) = 2147483653 by omega) with w | w | w | w | w | w
        · exact sby2 h6 hE sk_32_0_4 ⟨Nat.le_of_eq w.symm, Nat.le_of_eq w⟩ ⟨Nat.le_of_eq u.symm, Nat.le_of_eq u⟩ ⟨Nat.le_of_eq q.symm, Nat.le_of_eq q⟩
        · exact sby2 h6 hE sk_32_1_4 ⟨Nat.le_of_eq w.symm, Nat.le_of_eq w⟩ ⟨Nat.le_of_eq u.symm, Nat.le_of_eq u⟩ ⟨Nat.le_of_eq q.symm, Nat.le_of_eq q⟩
        · exact sby2 h6 hE sk_32_2_4 ⟨Nat.le_of_eq w.symm, Nat.le_of_eq w⟩ ⟨Nat.le_of_eq u.symm, Nat.le_of_eq u⟩ ⟨Nat.le_of_eq q.symm, Nat.le_of_eq q⟩
        · exact sby2 h6 hE sk_32_3_4 ⟨Nat.le_of_eq w.symm, Nat.le_of_eq w⟩ ⟨Nat.le_of_eq u.symm, Nat.le_of_eq u⟩ ⟨Nat.le_of_eq q.symm, Nat.le_of_eq q⟩
        · exact sby2 h6 hE sk_32_4_4 ⟨Nat.le_of_eq w.symm, Nat.le_of_eq w⟩ ⟨Nat.le_of_eq u.symm, Nat.le_of_eq u⟩ ⟨Nat.le_of_eq q.symm, Nat.le_of_eq q⟩
        · exact sby2 h6 hE sk_32_5_4 ⟨Nat.le_of_eq w.symm, Nat.le_of_eq w⟩ ⟨Nat.le_of_eq u.symm, Nat.le_of_eq u⟩ ⟨Nat.le_of_eq q.symm, Nat.le_of_eq q⟩
  · exact sby h6 hE sk_33 all1 ⟨Nat.le_of_eq q.symm, Nat.le_of_eq q⟩
  · exact sby h6 hE sk_34 all1 ⟨Nat.le_of_eq q.symm, Nat.le_of_eq q⟩
  · exact sby h6 hE sk_35 all1 ⟨Nat.le_of_eq q.symm, Nat.le_of_eq q⟩
  · exact sby h6 hE sk_36 all1 ⟨Nat.le_of_eq q.symm, Nat.le_of_eq q⟩
  · exact sby h6 hE sk_37 all1 ⟨Nat.le_of_eq q.symm, Nat.le_of_eq q⟩
theorem srun {E : Nat → Int32} (hE : sEnv E) {L : Nat} (hL : L ≤ 6) : zxr 60000 (sfr0.map (sFr E)) (sH E L [] sh0) = true := by
  have all1 : ∀ k, 0 ≤ zo (E k) ∧ zo (E k) ≤ 4294967295 := fun k => ⟨Nat.zero_le _, zo_max _⟩
  rcases (show L = 0 ∨ L = 1 ∨ L = 2 ∨ L = 3 ∨ L = 4 ∨ L = 5 ∨ L = 6 by omega) with rfl | rfl | rfl | rfl | rfl | rfl | rfl
  · exact sby (by decide) hE sl_0 (all1 1) (all1 6)
  · exact sby (by decide) hE sl_1 (all1 1) (all1 6)
  · exact sby (by decide) hE sl_2 (all1 1) (all1 6)
  · exact sby (by decide) hE sl_3 (all1 1) (all1 6)
  · exact sby (by decide) hE sl_4 (all1 1) (all1 6)
  · exact sby (by decide) hE sl_5 (all1 1) (all1 6)
  · exact srun6 hE
/-- the unknown numbers of a script -/
def zE (xs : Nat → Int32) (n : Nat) : Int32 :=
  if n < 6 then xs n else if n = 6 then xs 0 &&& 63 else if n < 14 then xs (n - 8) / 10 else if n < 22 then xs (n - 16) - xs (n - 16) / 10 * 10 else if n < 30 then xs (n - 24) / 100 else xs (n - 32) - xs (n - 32) / 100 * 100
theorem zE_env (xs : Nat → Int32) : sEnv (zE xs) := by
  refine ⟨rfl, fun k hk => ?_⟩
  rcases (show k = 0 ∨ k = 1 ∨ k = 2 ∨ k = 3 ∨ k = 4 ∨ k = 5 by omega) with rfl | rfl | rfl | rfl | rfl | rfl <;> exact ⟨rfl, rfl, rfl, rfl⟩
