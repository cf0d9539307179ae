/-! A CONTRACT whose cuts use contracts of their own each. -/
section AOS
variable {S : Nat → Option (Nat × Nat)} {rf : Nat → Nat → List Nat} {B : aB} {es : List aE} {sp : Nat → Nat → Option (Nat × Int × Int × Nat)} {e : aE} {cuts : List aC} {f : Nat}
theorem acuts_oks (hc : ∀ c, c ∈ cuts → ∃ es, (∀ e', e' ∈ es → aOK S rf B e') ∧ aseg S rf B es sp e cuts f (some c) = true) {E0 : List Int} {h0 : zH} (hn : E0.length = e.2.2.1.1.length) (hsl : ∀ k, e.2.2.2.1.2 = some k → ∃ n : Nat, zget h0.1 0 = some (5, n) ∧ zget E0 k = some (n : Int) ∧ n ≤ 3072) : ∀ (n : Nat) (c : aC), c ∈ cuts → ∀ (E : List Int) (x : zC), (∃ q, E = E0 ++ q) → aRel S rf (aiv B) E c.1 x → aDs E c.2.1.1 → aDrs E x.2.2.2.2.2.1 c.2.1.2 → aFr (aWf e.2.2.2.2.2) h0 x.2.2.2 → aJ x.2.2.2 → (c.2.2.1 + alv E c.2.2.2).toNat < n → zTS e.2.1 [] e.1 x (aPost S rf B e E0 h0)
  | 0, _, _, _, _, _, _, _, _, _, _, h => by omega
  | n + 1, c, hcm, E, x, hE, R, hD, hr, hw, hj, hm => by
    obtain ⟨es, hes, h⟩ := hc c hcm
    unfold aseg at h
    dsimp only at h
    rw [Bool.and_eq_true, Bool.and_eq_true] at h
    obtain ⟨h1, h2, h3⟩ := h
    rw [← hn] at h1
    refine arunY_ok (Es := E) (h0 := h0) hes (fun d X G E' x' l1 r1 r2 r8 r3 r4 r7 => ?_) (fun X w G E' x' u l1 r1 r2 r8 r3 r4 r5 r7 => ?_) f e.2.1 true _ E x [] h1 R hD (fun f hf => by cases hf) (fun f hf => by cases hf) ⟨fun f hf => (by cases hf), hr, fun k hk => by
        obtain ⟨n, s1, s2, s3⟩ := hsl k hk
        obtain ⟨q, hq⟩ := hE
        exact ⟨n, by rw [hw.2.2]; exact s1, by rw [hq]; exact zget_app s2, s3⟩, fun p hp => (by cases hp)⟩ trivial ⟨[], by rw [List.append_nil]⟩ hw hj
    · unfold alfC at l1
      rw [Bool.and_eq_true] at l1
      have ed := Nat.eq_of_beq_eq_true l1.1
      subst ed
      obtain ⟨c', m1, m2⟩ := List.any_eq_true.mp l1.2
      rw [Bool.and_eq_true] at m2
      have m2 := m2.2
      unfold alc1 at m2
      rw [Bool.and_eq_true, Bool.and_eq_true, Bool.and_eq_true] at m2
      obtain ⟨⟨⟨m3, m4⟩, m6⟩, m5⟩ := m2
      dsimp only at m5
      obtain ⟨q', hq'⟩ := r3
      obtain ⟨q, hq⟩ := hE
      have em : ∃ q2, (asgp E0.length c'.1 X).map (aval E') = E0 ++ q2 := by
        unfold asgp
        dsimp only
        rw [List.map_append, hq', hq, List.append_assoc, aid0]
        exact ⟨_, rfl⟩
      have k := ale0_ok r1.1 r2 m5
      rw [alng_ok, alsg_ok] at k
      have z : alv E' ([] : aLn) = 0 := rfl
      rw [z] at k
      have hx : alv E' c.2.2.2 = alv E c.2.2.2 := by
        rw [hq']
        exact alv_ext (by rw [R.1.1]; exact h3)
      rw [hx] at k
      obtain ⟨es', hes', h'⟩ := hc c' m1
      unfold aseg at h'
      dsimp only at h'
      rw [Bool.and_eq_true, Bool.and_eq_true] at h'
      have R' := ameet_ok r1 m3
      have D' := adsM_ok r1.1 r2 m4
      have k2 := ale0_ok R'.1 D' h'.2.1
      rw [alng_ok] at k2
      have z2 : alv ((asgp E0.length c'.1 X).map (aval E')) ([] : aLn) = 0 := rfl
      rw [z2] at k2
      exact acuts_oks hc hn hsl n c' m1 _ x' em R' D' (adrM_ok r1.1 r8 m6) r4 r7 (by dsimp only at k k2; omega)
    · obtain ⟨q', hq'⟩ := r4
      obtain ⟨q, hq⟩ := hE
      exact alr_ok (q := q ++ q') l1 r1 r2 r8 r3 (by rw [hq', hq, List.append_assoc]) r5 r7
theorem aOK_ofs (hes : ∀ e', e' ∈ es → aOK S rf B e') (hc : ∀ c, c ∈ cuts → ∃ es, (∀ e', e' ∈ es → aOK S rf B e') ∧ aseg S rf B es sp e cuts f (some c) = true) (h : aseg S rf B es sp e cuts f none = true) : aOK S rf B e := by
  intro E x R hD hsl hj
  unfold aseg at h
  dsimp only at h
  have hn : E.length = e.2.2.1.1.length := R.1.1
  rw [← hn] at h
  refine arunY_ok (Es := E) (h0 := x.2.2.2) hes (fun d X G E' x' l1 r1 r2 r8 r3 r4 r7 => ?_) (fun X w G E' x' u l1 r1 r2 r8 r3 r4 r5 r7 => ?_) f e.2.1 true _ E x [] h R hD (fun f hf => by cases hf) (fun f hf => by cases hf) ⟨fun f hf => (by cases hf), fun f hf => (by cases hf), hsl, fun p hp => (by cases hp)⟩ trivial ⟨[], by rw [List.append_nil]⟩ aFr_refl hj
  · unfold alfC at l1
    rw [Bool.and_eq_true] at l1
    have ed := Nat.eq_of_beq_eq_true l1.1
    subst ed
    obtain ⟨c', m1, m2⟩ := List.any_eq_true.mp l1.2
    rw [Bool.and_eq_true] at m2
    have m2 := m2.2
    unfold alc1 at m2
    rw [Bool.and_eq_true, Bool.and_eq_true, Bool.and_eq_true] at m2
    obtain ⟨⟨⟨m3, m4⟩, m6⟩, m5⟩ := m2
    obtain ⟨q', hq'⟩ := r3
    have em : ∃ q2, (asgp E.length c'.1 X).map (aval E') = E ++ q2 := by
      unfold asgp
      dsimp only
      rw [List.map_append, hq', aid0]
      exact ⟨_, rfl⟩
    exact acuts_oks hc hn hsl _ c' m1 _ x' em (ameet_ok r1 m3) (adsM_ok r1.1 r2 m4) (adrM_ok r1.1 r8 m6) r4 r7 (Nat.lt_succ_self _)
  · obtain ⟨q', hq'⟩ := r4
    exact alr_ok (q := q') l1 r1 r2 r8 r3 hq' r5 r7
end AOS
section KCS
variable {es : List aE} {sp : Nat → Nat → Option (Nat × Int × Int × Nat)} {e : aE} {cuts l : List aC} {f : Nat} {c : aC}
theorem kcs0 : ∀ c, c ∈ ([] : List aC) → ∃ es, (∀ e', e' ∈ es → aOK kS krf kB e') ∧ aseg kS krf kB es sp e cuts f (some c) = true := fun _ h => by cases h
theorem kcs1 (k : ∀ e', e' ∈ es → aOK kS krf kB e') (h : aseg kS krf kB es sp e cuts f (some c) = true) (g : ∀ c', c' ∈ l → ∃ es, (∀ e', e' ∈ es → aOK kS krf kB e') ∧ aseg kS krf kB es sp e cuts f (some c') = true) : ∀ c', c' ∈ c :: l → ∃ es, (∀ e', e' ∈ es → aOK kS krf kB e') ∧ aseg kS krf kB es sp e cuts f (some c') = true := by
  intro c' hc
  rcases List.mem_cons.mp hc with rfl | hc
  · exact ⟨es, k, h⟩
  · exact g c' hc
end KCS
