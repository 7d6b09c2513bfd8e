/-! the two sides' answers: into -/
section STEP4
variable {σ σ' : ST} {N : Nat}
theorem since_lt {m : Nat} (hm : m < 2000) (h : ∀ t, t < 1061 → ∃ s, s ≤ m ∧ sI σ 8 t = nI s) {u : Nat} (hu : u < 1061) : sI σ 8 u < nI (m + 1) := by
  obtain ⟨s, hs, e⟩ := h u hu
  rw [e]
  exact nI_lt (by omega) (by omega)
/-- the rows, when t comes into k -/
theorem I2.put (h : I2 N σ) (hN : N < 1000) (h60 : σ.1 ≤ 60) {k t : Nat} (hk : k < σ.1) (ht1 : 1 ≤ t) (ht : t < 1061) (e0 : σ'.1 = σ.1) (e7 : sI σ' 7 = upd (sI σ 7) t (nI (1001 + k))) (e8 : sI σ' 8 = upd (sI σ 8) t (sI σ 6 4 + 1)) (e64 : sI σ' 6 4 = sI σ 6 4 + 1) (hold : ¬ sI σ 7 t = nI (1001 + k)) (hfull : (sR σ (rc k 0)).length < 12) (er : ∀ j, j < σ.1 → sR σ' (rc j 0) = if j = k then sR σ (rc k 0) ++ [nI t] else if sI σ 7 t = nI (1001 + j) then (sR σ (rc j 0)).filter (fun y => decide (y ≠ nI t)) else sR σ (rc j 0)) : I2 (N + 1) σ' := by
  obtain ⟨⟨m, m1, m2, m3⟩, h2⟩ := h
  rw [m2, nI_1] at e8 e64
  refine ⟨⟨m + 1, by omega, e64, fun u hu => ?_⟩, fun j hj => ?_⟩
  · rw [e8, updA]
    split
    · exact ⟨m + 1, Nat.le_refl _, rfl⟩
    · obtain ⟨s, s1, s2⟩ := m3 u hu
      exact ⟨s, by omega, s2⟩
  · rw [e0] at hj
    rw [er j hj]
    have f7 : ∀ u, u < 1061 → u ≠ t → sI σ' 7 u = sI σ 7 u := fun u _ hu => by rw [e7, upd_n _ _ hu]
    have f8 : ∀ u, u < 1061 → u ≠ t → sI σ' 8 u = sI σ 8 u := fun u _ hu => by rw [e8, upd_n _ _ hu]
    have q := h2 j hj
    by_cases ej : j = k
    · rw [if_pos ej]
      rw [ej] at q ⊢
      refine q.push hfull ht1 ht f7 (by rw [e7, upd_s]) hold f8 (fun u hu _ => ?_) ?_
      · rw [e8, upd_s]
        exact since_lt (by omega) m3 hu
      · rw [e8, upd_s]
        exact nI_lt (a := 0) (by omega) (by omega)
    · rw [if_neg ej]
      have g7 : ¬ sI σ' 7 t = nI (1001 + j) := by
        rw [e7, upd_s]
        intro e
        have := (nI_eq (by omega) (by omega)).mp e
        omega
      by_cases c : sI σ 7 t = nI (1001 + j)
      · rw [if_pos c]
        exact q.rem ht f7 g7 f8
      · rw [if_neg c]
        exact q.keep ht f7 g7 c f8
theorem into_ag (h : Inv N σ) (hN : N < 512) (b x : Int32) : Ag N σ (xInto σ b x) (mInto (xInto σ b x).2 b x) := by
  obtain ⟨hM, i1, i2, i3, i4, i5, i6, i7, i8, i9, iN⟩ := id h
  have h60 := h.n60
  cases e : recOf σ b with
  | none =>
    have ex : xInto σ b x = (-11, σ) := by unfold xInto; rw [e]
    refine Ag.no h (-11) ex ?_
    rw [ex]
    unfold mInto
    rw [e]
  | some k =>
    obtain ⟨hk, rfl⟩ := recOf_eq h60 e
    by_cases c0 : thingB σ x = false
    · have ex : xInto σ (nI (1001 + k)) x = (-11, σ) := by unfold xInto; rw [e]; exact if_pos c0
      refine Ag.no h (-11) ex ?_
      rw [ex]
      unfold mInto
      rw [e]
      exact if_pos c0
    have c0' : thingB σ x = true := by
      cases e9 : thingB σ x with
      | true => rfl
      | false => exact absurd e9 c0
    obtain ⟨t, ok, ht, ht1, rfl⟩ := thing_okT h60 c0'
    have ekb : mkF σ (nI (1001 + k)) = sI σ 10 k := by unfold mkF; rw [e]
    have elen := row_cnt (i2.2 k hk)
    have exX : xInto σ (nI (1001 + k)) (nI t) = if (!decide (sI σ 11 k = 0) || shutInB σ (1001 + k)) = true then (-13, σ) else if ¬ sI σ 7 t = 0 then (-13, σ) else if (!decide (mkF σ (nI (1001 + k)) ≤ mkF σ (nI t))) = false then (-13, σ) else if ¬ sI σ 9 t = sI σ 9 (1001 + k) then (-13, σ) else if fullB σ k 0 = true then (-14, σ) else (1, putInS σ k (nI (1001 + k)) (nI t)) := by
      unfold xInto
      rw [e]
      show (if thingB σ (nI t) = false then _ else _) = _
      rw [if_neg c0, shut_bag hM i1 i4 hk, holdF_nI i1 ht, lesser_mk i1 h60 hk, place_nI hM i1 i3 ht, place_nI hM i1 i3 (by omega)]
    have exM : ∀ τ, mEq σ τ → mInto τ (nI (1001 + k)) (nI t) = if ¬ sI σ 11 k = 0 then (-13, τ) else if shutInB σ (1001 + k) = true then (-13, τ) else if ¬ sI σ 7 t = 0 then (-13, τ) else if nI t = nI (1001 + k) then (-13, τ) else if mkF σ (nI (1001 + k)) ≤ mkF σ (nI t) then (-13, τ) else if ¬ sI σ 9 t = sI σ 9 (1001 + k) then (-13, τ) else if cntN σ (nI (1001 + k)) 1061 = 12 then (-14, τ) else (1, mPut τ (nI (1001 + k)) t) := by
      intro τ hh
      unfold mInto
      rw [hh.rec, e]
      show (if thingB τ (nI t) = false then _ else _) = _
      rw [hh.thing, if_neg c0, nI_clamp (by omega), hh.I 11, hh.shutIn, hh.I 7, hh.mk, hh.mk, hh.I 9, hh.cnt]
    by_cases c1 : sI σ 11 k = 0
    rotate_left
    · have ex : xInto σ (nI (1001 + k)) (nI t) = (-13, σ) := by rw [exX, if_pos (by rw [decide_eq_false c1]; rfl)]
      refine Ag.no h (-13) ex ?_
      rw [ex, exM σ (mEq.refl σ), if_pos c1]
    by_cases c2 : shutInB σ (1001 + k) = true
    · have ex : xInto σ (nI (1001 + k)) (nI t) = (-13, σ) := by rw [exX, if_pos (by rw [c2, Bool.or_true])]
      refine Ag.no h (-13) ex ?_
      rw [ex, exM σ (mEq.refl σ), if_neg (fun z => z c1), if_pos c2]
    have c12 : ¬ (!decide (sI σ 11 k = 0) || shutInB σ (1001 + k)) = true := by
      rw [decide_eq_true c1]
      intro z
      rw [Bool.or_eq_true] at z
      exact z.elim (fun z => absurd z (by decide)) c2
    rw [if_neg c12] at exX
    by_cases c3 : sI σ 7 t = 0
    rotate_left
    · rw [if_pos c3] at exX
      refine Ag.no h (-13) exX ?_
      rw [exX, exM σ (mEq.refl σ), if_neg (fun z => z c1), if_neg c2, if_pos c3]
    rw [if_neg (fun z => z c3)] at exX
    by_cases c4 : mkF σ (nI (1001 + k)) ≤ mkF σ (nI t)
    · rw [if_pos (by rw [decide_eq_true c4]; rfl)] at exX
      refine Ag.no h (-13) exX ?_
      rw [exX, exM σ (mEq.refl σ), if_neg (fun z => z c1), if_neg c2, if_neg (fun z => z c3)]
      by_cases c5 : nI t = nI (1001 + k)
      · rw [if_pos c5]
      · rw [if_neg c5, if_pos c4]
    have c5 : ¬ nI t = nI (1001 + k) := fun z => c4 (by rw [z]; exact Int32.le_refl _)
    rw [if_neg (by rw [decide_eq_false c4]; decide)] at exX
    by_cases c6 : sI σ 9 t = sI σ 9 (1001 + k)
    rotate_left
    · rw [if_pos c6] at exX
      refine Ag.no h (-13) exX ?_
      rw [exX, exM σ (mEq.refl σ), if_neg (fun z => z c1), if_neg c2, if_neg (fun z => z c3), if_neg c5, if_neg c4, if_pos c6]
    rw [if_neg (fun z => z c6)] at exX
    have rl := (i2.2 k hk).1
    by_cases c7 : (sR σ (rc k 0)).length < 12
    rotate_left
    · have hf : fullB σ k 0 = true := decide_eq_true (show 12 ≤ (sR σ (rc k 0)).length by omega)
      rw [if_pos hf] at exX
      refine Ag.no h (-14) exX ?_
      rw [exX, exM σ (mEq.refl σ), if_neg (fun z => z c1), if_neg c2, if_neg (fun z => z c3), if_neg c5, if_neg c4, if_neg (fun z => z c6), if_pos (by rw [elen]; omega)]
    rw [if_neg (by unfold fullB; rw [decide_eq_false (by show ¬ 12 ≤ _; omega)]; decide)] at exX
    have hm := mEq.putIn σ k (nI (1001 + k)) (nI t)
    rw [exX]
    show Ag N σ (1, putInS σ k (nI (1001 + k)) (nI t)) (mInto (putInS σ k (nI (1001 + k)) (nI t)) (nI (1001 + k)) (nI t))
    rw [exM _ hm, if_neg (fun z => z c1), if_neg c2, if_neg (fun z => z c3), if_neg c5, if_neg c4, if_neg (fun z => z c6), if_neg (by rw [elen]; omega)]
    refine ⟨hm, rfl, ?_⟩
    have et : putInS σ k (nI (1001 + k)) (nI t) = upI (upR σ (rc k 0) (sR σ (rc k 0) ++ [nI t])) 2 t (nI (1001 + k)) := by
      unfold putInS
      rw [setHold_nI ht]
      unfold appR
      rw [if_pos (by show _ < 12; omega)]
    rw [et]
    show Inv (N + 1) (mPut (upI (upR σ (rc k 0) (sR σ (rc k 0) ++ [nI t])) 2 t (nI (1001 + k))) (nI (1001 + k)) t)
    generalize hfl : sR σ (rc k 0) ++ [nI t] = fl
    have e7 : sI (mPut (upI (upR σ (rc k 0) fl) 2 t (nI (1001 + k))) (nI (1001 + k)) t) 7 = upd (sI σ 7) t (nI (1001 + k)) := by simp [ev1, ev2, ev3, ev4, ev5, ev6, ev7, ev8, ev9, ev10, ev11, ev12, ev13, ev14, ev15, ev16, ev17, ev18, evr0, evr1, evr2, evr3, evr4, evr5, evr6, evr7, evr8, evr9, evr10, evr11, evr12, evr13, evr14, evr15, evr16, evr17, evr18, evr19, evr20, evr21, evr22, evr23, evs0, evs1, evs2, evs3, evs4, evs5, evs6, evs7, evs8, evs9, evs10, evs11, evs12, evs13, evs14, evs15, evs16, evs17, evs18, evs19, evs20, evs21, evs22, evs23, mNote_I, mNote_J, mNote_R, mNote_c, noteS_I, noteS_J, noteS_R, noteS_c, updA, updB, appR, remR, mPut, mShut, shutS, unseal1, mUns, mBring]
    have e2 : sI (mPut (upI (upR σ (rc k 0) fl) 2 t (nI (1001 + k))) (nI (1001 + k)) t) 2 = upd (sI σ 2) t (nI (1001 + k)) := by simp [ev1, ev2, ev3, ev4, ev5, ev6, ev7, ev8, ev9, ev10, ev11, ev12, ev13, ev14, ev15, ev16, ev17, ev18, evr0, evr1, evr2, evr3, evr4, evr5, evr6, evr7, evr8, evr9, evr10, evr11, evr12, evr13, evr14, evr15, evr16, evr17, evr18, evr19, evr20, evr21, evr22, evr23, evs0, evs1, evs2, evs3, evs4, evs5, evs6, evs7, evs8, evs9, evs10, evs11, evs12, evs13, evs14, evs15, evs16, evs17, evs18, evs19, evs20, evs21, evs22, evs23, mNote_I, mNote_J, mNote_R, mNote_c, noteS_I, noteS_J, noteS_R, noteS_c, updA, updB, appR, remR, mPut, mShut, shutS, unseal1, mUns, mBring]
    have e3 : sI (mPut (upI (upR σ (rc k 0) fl) 2 t (nI (1001 + k))) (nI (1001 + k)) t) 3 = sI σ 3 := by simp [ev1, ev2, ev3, ev4, ev5, ev6, ev7, ev8, ev9, ev10, ev11, ev12, ev13, ev14, ev15, ev16, ev17, ev18, evr0, evr1, evr2, evr3, evr4, evr5, evr6, evr7, evr8, evr9, evr10, evr11, evr12, evr13, evr14, evr15, evr16, evr17, evr18, evr19, evr20, evr21, evr22, evr23, evs0, evs1, evs2, evs3, evs4, evs5, evs6, evs7, evs8, evs9, evs10, evs11, evs12, evs13, evs14, evs15, evs16, evs17, evs18, evs19, evs20, evs21, evs22, evs23, mNote_I, mNote_J, mNote_R, mNote_c, noteS_I, noteS_J, noteS_R, noteS_c, updA, updB, appR, remR, mPut, mShut, shutS, unseal1, mUns, mBring]
    have e9 : sI (mPut (upI (upR σ (rc k 0) fl) 2 t (nI (1001 + k))) (nI (1001 + k)) t) 9 = sI σ 9 := by simp [ev1, ev2, ev3, ev4, ev5, ev6, ev7, ev8, ev9, ev10, ev11, ev12, ev13, ev14, ev15, ev16, ev17, ev18, evr0, evr1, evr2, evr3, evr4, evr5, evr6, evr7, evr8, evr9, evr10, evr11, evr12, evr13, evr14, evr15, evr16, evr17, evr18, evr19, evr20, evr21, evr22, evr23, evs0, evs1, evs2, evs3, evs4, evs5, evs6, evs7, evs8, evs9, evs10, evs11, evs12, evs13, evs14, evs15, evs16, evs17, evs18, evs19, evs20, evs21, evs22, evs23, mNote_I, mNote_J, mNote_R, mNote_c, noteS_I, noteS_J, noteS_R, noteS_c, updA, updB, appR, remR, mPut, mShut, shutS, unseal1, mUns, mBring]
    have e8 : sI (mPut (upI (upR σ (rc k 0) fl) 2 t (nI (1001 + k))) (nI (1001 + k)) t) 8 = upd (sI σ 8) t (sI σ 6 4 + 1) := by simp [ev1, ev2, ev3, ev4, ev5, ev6, ev7, ev8, ev9, ev10, ev11, ev12, ev13, ev14, ev15, ev16, ev17, ev18, evr0, evr1, evr2, evr3, evr4, evr5, evr6, evr7, evr8, evr9, evr10, evr11, evr12, evr13, evr14, evr15, evr16, evr17, evr18, evr19, evr20, evr21, evr22, evr23, evs0, evs1, evs2, evs3, evs4, evs5, evs6, evs7, evs8, evs9, evs10, evs11, evs12, evs13, evs14, evs15, evs16, evs17, evs18, evs19, evs20, evs21, evs22, evs23, mNote_I, mNote_J, mNote_R, mNote_c, noteS_I, noteS_J, noteS_R, noteS_c, updA, updB, appR, remR, mPut, mShut, shutS, unseal1, mUns, mBring]
    have e64 : sI (mPut (upI (upR σ (rc k 0) fl) 2 t (nI (1001 + k))) (nI (1001 + k)) t) 6 4 = sI σ 6 4 + 1 := by simp [ev1, ev2, ev3, ev4, ev5, ev6, ev7, ev8, ev9, ev10, ev11, ev12, ev13, ev14, ev15, ev16, ev17, ev18, evr0, evr1, evr2, evr3, evr4, evr5, evr6, evr7, evr8, evr9, evr10, evr11, evr12, evr13, evr14, evr15, evr16, evr17, evr18, evr19, evr20, evr21, evr22, evr23, evs0, evs1, evs2, evs3, evs4, evs5, evs6, evs7, evs8, evs9, evs10, evs11, evs12, evs13, evs14, evs15, evs16, evs17, evs18, evs19, evs20, evs21, evs22, evs23, mNote_I, mNote_J, mNote_R, mNote_c, noteS_I, noteS_J, noteS_R, noteS_c, updA, updB, appR, remR, mPut, mShut, shutS, unseal1, mUns, mBring]
    have eR : ∀ j, sR (mPut (upI (upR σ (rc k 0) fl) 2 t (nI (1001 + k))) (nI (1001 + k)) t) (rc j 0) = if j = k then fl else sR σ (rc j 0) := by intro j; simp [ev1, ev2, ev3, ev4, ev5, ev6, ev7, ev8, ev9, ev10, ev11, ev12, ev13, ev14, ev15, ev16, ev17, ev18, evr0, evr1, evr2, evr3, evr4, evr5, evr6, evr7, evr8, evr9, evr10, evr11, evr12, evr13, evr14, evr15, evr16, evr17, evr18, evr19, evr20, evr21, evr22, evr23, evs0, evs1, evs2, evs3, evs4, evs5, evs6, evs7, evs8, evs9, evs10, evs11, evs12, evs13, evs14, evs15, evs16, evs17, evs18, evs19, evs20, evs21, evs22, evs23, mNote_I, mNote_J, mNote_R, mNote_c, noteS_I, noteS_J, noteS_R, noteS_c, updA, updB, appR, remR, mPut, mShut, shutS, unseal1, mUns, mBring]
    have hMp := hM.put hk (tn := t) (by rw [← ekb]; exact Int32.not_le.mp c4)
    refine ⟨hMp.cg, ⟨?_, ?_, ?_⟩, ?_, ⟨?_, ?_⟩, i4.cg, i5.cg, i6.cg, i7.cg, i8.cg, i9.cg, (iN.mono (Nat.le_succ N)).cg⟩
    · intro u hu
      rw [e2, e7, updA, updA]
      split
      · rfl
      · exact i1.1 u hu
    · intro u hu hok
      rw [e7, updA]
      split
      · exact absurd (by rw [‹u = t›]; exact ok) hok
      · exact i1.2.1 u hu hok
    · intro j hj
      have q := i1.2.2 j hj
      simpa [ev1, ev2, ev3, ev4, ev5, ev6, ev7, ev8, ev9, ev10, ev11, ev12, ev13, ev14, ev15, ev16, ev17, ev18, evr0, evr1, evr2, evr3, evr4, evr5, evr6, evr7, evr8, evr9, evr10, evr11, evr12, evr13, evr14, evr15, evr16, evr17, evr18, evr19, evr20, evr21, evr22, evr23, evs0, evs1, evs2, evs3, evs4, evs5, evs6, evs7, evs8, evs9, evs10, evs11, evs12, evs13, evs14, evs15, evs16, evs17, evs18, evs19, evs20, evs21, evs22, evs23, mNote_I, mNote_J, mNote_R, mNote_c, noteS_I, noteS_J, noteS_R, noteS_c, updA, updB, appR, remR, mPut, mShut, shutS, unseal1, mUns, mBring] using q
    · refine i2.put (by omega) h60 hk ht1 ht rfl e7 e8 e64 (by rw [c3]; exact fun z => nI1001_ne (by omega) z.symm) c7 (fun j hj => ?_)
      rw [eR, hfl]
      by_cases ej : j = k
      · rw [if_pos ej, if_pos ej]
      · rw [if_neg ej, if_neg ej, if_neg (by rw [c3]; exact fun z => nI1001_ne (by omega : j < 60) z.symm)]
    · intro u hu h0
      rw [e7, updA] at h0
      rw [e3, e9]
      split at h0
      · exact absurd h0 (nI1001_ne (by omega))
      · exact i3.1 u hu h0
    · intro u j hu hj ee
      have hj : j < σ.1 := hj
      rw [e7, updA] at ee
      rw [e9]
      split at ee
      · have e4 := (nI_eq (by omega) (by omega)).mp ee
        have e5 : j = k := by omega
        rw [‹u = t›, e5]
        exact c6
      · exact i3.2 u j hu hj ee
end STEP4
