/-! ONE STEP: what is special; with frames, contracts and facts. -/
theorem na_ofn {n : Nat} (h : n ≤ 3072) : (Int32.ofNat n).toInt = (n : Int) := by
  have e : (Int32.ofNat n).toBitVec.toNat = n := by
    show (BitVec.ofNat 32 n).toNat = n
    rw [BitVec.toNat_ofNat]
    omega
  rw [na_tn (by omega), e]
theorem aIs_lt {E : List Int} {k : Nat} (h : k < E.length) : aIs E (agv E k) (.inl (k, 0)) := by
  obtain ⟨w, hw⟩ := zget_of_lt h
  exact ⟨w, hw, by rw [agv_eq hw]; omega⟩
theorem aldf_ok {i : aI} : ∀ {dl : aDl} {k : Nat}, aldf i dl = some k → (i, k) ∈ dl
  | [], _, h => by cases h
  | (j, k') :: r, k, h => by
    unfold aldf at h
    cases hb : aeqI j i
    · rw [hb] at h
      exact List.mem_cons_of_mem _ (aldf_ok h)
    · rw [hb] at h
      cases h
      rw [← aeqI_ok hb]
      exact List.mem_cons_self
theorem ascr_ok {S : Nat → Option (Nat × Nat)} {rf : Nat → Nat → List Nat} {iv : Nat → Nat → Int × Int} {E : List Int} {X Z : aX} {x : zC} {e : zI} {ds : aD} {sl sl' : aSc} (R : aRel S rf iv E X x) (hd : aDs E ds) (hsl : aSl E x.2.2.2 sl) (h0 : ascr ds sl e X = some (Z, sl')) : ∃ y q, zstep e x = some (.inl y) ∧ aRel S rf iv (E ++ q) Z y ∧ aSl (E ++ q) x.2.2.2 sl' ∧ y.2.2.2 = x.2.2.2 := by
  obtain ⟨op, len, a, b, c, v, sw⟩ := e
  obtain ⟨cs, T, pc, al, as⟩ := X
  obtain ⟨pc', lo, st, h⟩ := x
  obtain ⟨hs, hpc, hl, hst, hh⟩ := R
  have hpc : pc = pc' := hpc
  subst hpc
  unfold ascr at h0
  dsimp only at h0
  split at h0
  · cases h0
  · rename_i k hk1
    obtain ⟨n, g1, g2, g3⟩ := hsl.1 k hk1
    dsimp only at g1
    cases hb : Nat.beq op 28
    · rw [hb] at h0
      dsimp only [cond_false] at h0
      cases hb2 : Nat.beq op 22
      · rw [hb2] at h0; cases h0
      · rw [hb2] at h0
        dsimp only [cond_true] at h0
        have e1 := Nat.eq_of_beq_eq_true hb2
        subst e1
        split at h0
        · rename_i i r
          obtain ⟨u, sr, e3, ⟨iv', rfl, hi⟩, h3⟩ := aSt_cons hst
          obtain ⟨u, sr2, rfl, ⟨o, rfl, ho⟩, h5⟩ := aSt_cons h3
          have e3 : st = .int iv' :: .ref o :: sr2 := e3
          subst e3
          have ho := List.mem_singleton.mp ho
          subst ho
          generalize hc : (ile 0 (abd cs i).1 && ale0 cs ds (alI 1 i (alI (-1) (.inl (k, 0)) (1, [])))) = c1 at h0
          cases c1 with
          | false => cases h0
          | true =>
            dsimp only [cond_true] at h0
            rw [Bool.and_eq_true, ile_eq] at hc
            have b1 := abd_ok (cs := cs) hs hi
            have b2 := ale0_ok hs hd hc.2
            rw [alI_ok, alI_ok] at b2
            have z : alv E ([] : aLn) = 0 := rfl
            rw [z, aval_eq hi, aval_gv, agv_eq g2] at b2
            dsimp only at b2
            have zi' := azix (i := iv') (by omega)
            have k1 : Nat.blt (zix iv') n = true := by rw [Nat.blt_eq]; omega
            have hi2 : aIs E ((zix iv' : Nat) : Int) i := by rw [zi']; exact hi
            have key : zstep (22, len, a, b, c, v, sw) (pc, lo, .int iv' :: .ref 0 :: sr2, h) = some (.inl (pc + len, lo, .int (h.2.1 0 (zix iv')) :: sr2, h)) := by
              show zs22 len (pc, lo, .int iv' :: .ref 0 :: sr2, h) = _
              simp only [zs22]
              rw [g1]
              dsimp only
              rw [k1]
              rfl
            split at h0
            · rename_i j hj
              cases h0
              obtain ⟨k2, w, p1, p2, p3⟩ := hsl.2 _ (aldf_ok hj)
              dsimp only at p1 p2 p3
              have ek : k2 = zix iv' := by
                have := (aval_eq p1).symm.trans (aval_eq hi2)
                omega
              subst ek
              refine ⟨_, [], key, ?_, by rw [List.append_nil]; exact hsl, rfl⟩
              rw [List.append_nil]
              exact ⟨hs, rfl, hl, ⟨⟨_, rfl, w, p2, by omega⟩, h5⟩, hh⟩
            · cases h0
              have r := na_rng (h.2.1 0 (zix iv'))
              have hn : aIs (E ++ [(h.2.1 0 (zix iv')).toInt]) (h.2.1 0 (zix iv')).toInt (.inl (cs.length, 0)) := by
                rw [← hs.1]
                exact aIs_new
              have he := aSl_ext (q := [(h.2.1 0 (zix iv')).toInt]) hsl
              refine ⟨_, [(h.2.1 0 (zix iv')).toInt], key, ⟨aSat_ext hs r.1 r.2, rfl, aLo_ext hl, ⟨⟨_, rfl, hn⟩, aSt_ext h5⟩, aHp_ext hh⟩, ⟨he.1, fun p hp => ?_⟩, rfl⟩
              rcases List.mem_cons.mp hp with rfl | hp
              · exact ⟨zix iv', _, aIs_ext hi2, by dsimp only; rw [← hs.1]; exact zget_end E _, rfl⟩
              · exact he.2 p hp
        · cases h0
    · rw [hb] at h0
      dsimp only [cond_true] at h0
      have e1 := Nat.eq_of_beq_eq_true hb
      subst e1
      split at h0
      · rename_i r
        obtain ⟨u, sr, e3, ⟨o, rfl, ho⟩, h3⟩ := aSt_cons hst
        have e3 : st = .ref o :: sr := e3
        subst e3
        have ho := List.mem_singleton.mp ho
        subst ho
        cases hc : Nat.blt k cs.length
        · rw [hc] at h0; cases h0
        · rw [hc] at h0
          cases h0
          refine ⟨(pc + len, lo, .int (Int32.ofNat n) :: sr, h), [], ?_, ?_, by rw [List.append_nil]; exact hsl, rfl⟩
          · show zs28 len (pc, lo, .ref 0 :: sr, h) = _
            simp only [zs28]
            rw [g1]
            rfl
          · rw [List.append_nil]
            exact ⟨hs, rfl, hl, ⟨⟨_, rfl, (n : Int), g2, by rw [na_ofn g3]; omega⟩, h3⟩, hh⟩
      · cases h0
theorem adrn_ok {E : List Int} {cs : aCs} {ds : aD} {i : aI} {g : Nat → Nat → Int64} {k : Nat} (hs : aSat E cs) (hd : aDs E ds) (hi : aIs E (k : Int) i) : ∀ {dr : aDr}, aDrs E g dr → adrn cs ds i dr = true → 0 ≤ (g 126 k).toInt ∧ (g 126 k).toInt ≤ 11
  | [], _, h => by cases h
  | (lo, v) :: r, hr, h => by
    unfold adrn at h
    rw [Bool.or_eq_true, Bool.and_eq_true] at h
    rcases h with ⟨h1, h2⟩ | h
    · obtain ⟨z, g1, g2⟩ := hr (lo, v) List.mem_cons_self
      have b1 := ale0_ok hs hd h1
      have b2 := ale0_ok hs hd h2
      have e0 : alv E ([] : aLn) = 0 := rfl
      rw [alI_ok, e0, aval_eq hi] at b1
      rw [alI_ok, alI_ok, e0, aval_eq hi, aval_eq g1] at b2
      dsimp only at b1 b2 g2
      exact g2 k (by omega) (by omega)
    · exact adrn_ok hs hd hi (fun f hf => hr f (List.mem_cons_of_mem _ hf)) h
theorem along_ok {S : Nat → Option (Nat × Nat)} {rf : Nat → Nat → List Nat} {iv : Nat → Nat → Int × Int} {E : List Int} {X Z : aX} {x : zC} {e : zI} {ds : aD} {hf hf' : aHf} (R : aRel S rf iv E X x) (hd : aDs E ds) (hh : aHfs E x.2.2.2 hf) (h0 : along S ds hf e X = some (Z, hf')) : ∃ y q, zstep e x = some (.inl y) ∧ aRel S rf iv (E ++ q) Z y ∧ aHfs (E ++ q) x.2.2.2 hf' ∧ y.2.2.2 = x.2.2.2 := by
  obtain ⟨op, len, a, b, c, v, sw⟩ := e
  unfold along at h0
  dsimp only at h0
  cases hb : Nat.beq op 23
  · rw [hb] at h0; cases h0
  · rw [hb] at h0
    dsimp only [cond_true] at h0
    have e1 := Nat.eq_of_beq_eq_true hb
    subst e1
    obtain ⟨cs, T, pc, al, as⟩ := X
    obtain ⟨pc', lo, st, h⟩ := x
    obtain ⟨hs, hpc, hl, hst, hp⟩ := R
    have hpc : pc = pc' := hpc
    subst hpc
    unfold along2 at h0
    dsimp only at h0
    split at h0
    · rename_i i o r
      obtain ⟨u, sr, e3, ⟨iv', rfl, hi⟩, h3⟩ := aSt_cons hst
      obtain ⟨u, sr2, rfl, ⟨o', rfl, ho⟩, h5⟩ := aSt_cons h3
      have e3 : st = .int iv' :: .ref o' :: sr2 := e3
      subst e3
      have ho := List.mem_singleton.mp ho
      subst ho
      generalize hc : (Nat.beq o' 126 && ain S cs i [126] (fun _ t => Nat.beq t 1)) = c1 at h0
      cases c1 with
      | false => cases h0
      | true =>
        dsimp only [cond_true] at h0
        rw [Bool.and_eq_true] at hc
        have eo := Nat.eq_of_beq_eq_true hc.1
        subst eo
        obtain ⟨t, n, hg, hf1, hz, hx, p1, p2, p3⟩ := ain_ok hp.1.1 hc.2 hs hi (List.mem_singleton.mpr rfl)
        have key : zs23 len (pc, lo, .int iv' :: .ref 126 :: sr2, h) = some (.inl (pc + len, lo, .long (h.2.2.1 126 (zix iv')) :: sr2, h)) := by
          simp only [zs23]
          rw [hg]
          dsimp only
          rw [hf1, hz]
          rfl
        have hi2 : aIs E ((zix iv' : Nat) : Int) i := by rw [hx]; exact hi
        split at h0
        · rename_i k hk
          cases hq : Nat.blt k cs.length
          · rw [hq] at h0; cases h0
          · rw [hq] at h0
            cases h0
            obtain ⟨j, w, g1, g2, g3⟩ := hh.1 _ (aldf_ok hk)
            dsimp only at g1 g2 g3
            have ej : j = zix iv' := by
              have := (aval_eq g1).symm.trans (aval_eq hi2)
              omega
            subst ej
            refine ⟨_, [], key, ?_, by rw [List.append_nil]; exact hh, rfl⟩
            rw [List.append_nil]
            exact ⟨hs, rfl, hl, ⟨⟨_, rfl, w, g2, by omega⟩, h5⟩, hp⟩
        · cases h0
          have w := afulL_ok (h.2.2.1 126 (zix iv'))
          have bd : (bif adrn cs ds i hf.2.1 then ((0, 11) : Int × Int) else afulL).1 ≤ (h.2.2.1 126 (zix iv')).toInt ∧ (h.2.2.1 126 (zix iv')).toInt ≤ (bif adrn cs ds i hf.2.1 then ((0, 11) : Int × Int) else afulL).2 := by
            cases hr : adrn cs ds i hf.2.1
            · exact w
            · exact adrn_ok hs hd hi2 hh.2.1 hr
          have hn : aIs (E ++ [(h.2.2.1 126 (zix iv')).toInt]) (h.2.2.1 126 (zix iv')).toInt (.inl (cs.length, 0)) := by
            rw [← hs.1]
            exact aIs_new
          refine ⟨_, [(h.2.2.1 126 (zix iv')).toInt], key, ⟨aSat_ext hs bd.1 bd.2, rfl, aLo_ext hl, ⟨⟨_, rfl, hn⟩, aSt_ext h5⟩, aHp_ext hp⟩, ?_, rfl⟩
          have he := aHfs_ext (q := [(h.2.2.1 126 (zix iv')).toInt]) hh
          refine ⟨fun f hf => ?_, he.2⟩
          rcases List.mem_cons.mp hf with rfl | hf
          · exact ⟨zix iv', _, aIs_ext hi2, by dsimp only; rw [← hs.1]; exact zget_end E _, rfl⟩
          · exact he.1 f hf
    · cases h0
theorem aspec_ok {S : Nat → Option (Nat × Nat)} {rf : Nat → Nat → List Nat} {iv : Nat → Nat → Int × Int} {E : List Int} {X Z : aX} {x : zC} {e : zI} {G : aG} {hf' : aHf} (R : aRel S rf iv E X x) (hd : aDs E G.1) (hq : aDqs E G.2.2.1) (hh : aHfs E x.2.2.2 G.2.2.2) (h0 : aspec S e G X = some (Z, hf')) : ∃ y q, zstep e x = some (.inl y) ∧ aRel S rf iv (E ++ q) Z y ∧ aHfs (E ++ q) x.2.2.2 hf' ∧ y.2.2.2 = x.2.2.2 := by
  unfold aspec at h0
  split at h0
  · rename_i Z' hz
    cases h0
    obtain ⟨y, g1, g2, g3⟩ := acse_ok R hq hz
    exact ⟨y, [], g1, by rw [List.append_nil]; exact g2, by rw [List.append_nil]; exact hh, g3⟩
  · split at h0
    · rename_i p hz
      obtain ⟨Z', sc⟩ := p
      cases h0
      obtain ⟨y, q, g1, g2, g4, g3⟩ := ascr_ok R hd hh.2.2 hz
      exact ⟨y, q, g1, g2, ⟨aDls_ext hh.1, aDrs_ext hh.2.1, g4⟩, g3⟩
    · exact along_ok R hd hh h0
