/-! the two sides' answers: take and into -/
section STEP3
variable {σ σ' : ST} {N : Nat}
theorem RowM.rem {b : Int32} {l : List Int32} {t : Nat} (h : RowM σ b l) (ht : t < 1061) (e7 : ∀ u, u < 1061 → u ≠ t → sI σ' 7 u = sI σ 7 u) (et : ¬ sI σ' 7 t = b) (e8 : ∀ u, u < 1061 → u ≠ t → sI σ' 8 u = sI σ 8 u) : RowM σ' b (l.filter (fun y => decide (y ≠ nI t))) := by
  have hm : ∀ x, x ∈ l.filter (fun y => decide (y ≠ nI t)) → x ∈ l ∧ ∃ u, 1 ≤ u ∧ u < 1061 ∧ u ≠ t ∧ x = nI u ∧ sI σ 7 u = b ∧ 0 < sI σ 8 u := by
    intro x hx
    obtain ⟨h1, h2⟩ := List.mem_filter.mp hx
    have h2 := of_decide_eq_true h2
    obtain ⟨u, g1, g2, g3, g4, g5⟩ := h.2.1 x h1
    exact ⟨h1, u, g1, g2, fun e => h2 (by rw [g3, e]), g3, g4, g5⟩
  refine ⟨Nat.le_trans (List.length_filter_le _ _) h.1, fun x hx => ?_, fun u h1 h2 h3 => ?_, ?_⟩
  · obtain ⟨-, u, g1, g2, g3, g4, g5, g6⟩ := hm x hx
    exact ⟨u, g1, g2, g4, by rw [e7 u g2 g3]; exact g5, by rw [e8 u g2 g3]; exact g6⟩
  · have hu : u ≠ t := fun e => et (by rw [← e]; exact h3)
    rw [e7 u h2 hu] at h3
    exact List.mem_filter.mpr ⟨h.2.2.1 u h1 h2 h3, decide_eq_true (fun e => hu ((nI_eq (by omega) (by omega)).mp e))⟩
  · refine List.Pairwise.imp_of_mem ?_ (h.2.2.2.filter _)
    intro x y hx hy hxy
    obtain ⟨-, u, g1, g2, g3, rfl, -⟩ := hm x hx
    obtain ⟨-, v, k1, k2, k3, rfl, -⟩ := hm y hy
    rw [nI_clamp (by omega), nI_clamp (by omega)] at hxy ⊢
    rw [e8 u g2 g3, e8 v k2 k3]
    exact hxy
theorem RowM.keep {b : Int32} {l : List Int32} {t : Nat} (h : RowM σ b l) (ht : t < 1061) (e7 : ∀ u, u < 1061 → u ≠ t → sI σ' 7 u = sI σ 7 u) (et : ¬ sI σ' 7 t = b) (e0 : ¬ sI σ 7 t = b) (e8 : ∀ u, u < 1061 → u ≠ t → sI σ' 8 u = sI σ 8 u) : RowM σ' b l := by
  have q := h.rem ht e7 et e8
  have eq1 : l.filter (fun y => decide (y ≠ nI t)) = l := List.filter_eq_self.mpr (fun a ha => decide_eq_true (fun e => by
    obtain ⟨u, g1, g2, g3, g4, -⟩ := h.2.1 a ha
    rw [e] at g3
    have e2 := (nI_eq (by omega) (by omega)).mp g3
    exact e0 (by rw [e2]; exact g4)))
  rw [eq1] at q
  exact q
theorem RowM.push {b : Int32} {l : List Int32} {t : Nat} (h : RowM σ b l) (hl : l.length < 12) (h1 : 1 ≤ t) (ht : t < 1061) (e7 : ∀ u, u < 1061 → u ≠ t → sI σ' 7 u = sI σ 7 u) (et : sI σ' 7 t = b) (e0 : ¬ sI σ 7 t = b) (e8 : ∀ u, u < 1061 → u ≠ t → sI σ' 8 u = sI σ 8 u) (es : ∀ u, u < 1061 → u ≠ t → sI σ 8 u < sI σ' 8 t) (es0 : 0 < sI σ' 8 t) : RowM σ' b (l ++ [nI t]) := by
  have hm : ∀ x, x ∈ l → ∃ u, 1 ≤ u ∧ u < 1061 ∧ u ≠ t ∧ x = nI u ∧ sI σ 7 u = b ∧ 0 < sI σ 8 u := by
    intro x hx
    obtain ⟨u, g1, g2, g3, g4, g5⟩ := h.2.1 x hx
    exact ⟨u, g1, g2, fun e => e0 (by rw [← e]; exact g4), g3, g4, g5⟩
  refine ⟨by rw [List.length_append, List.length_singleton]; omega, fun x hx => ?_, fun u g1 g2 g3 => ?_, ?_⟩
  · rcases List.mem_append.mp hx with hx | hx
    · obtain ⟨u, g1, g2, g3, g4, g5, g6⟩ := hm x hx
      exact ⟨u, g1, g2, g4, by rw [e7 u g2 g3]; exact g5, by rw [e8 u g2 g3]; exact g6⟩
    · have e := List.mem_singleton.mp hx
      exact ⟨t, h1, ht, e, et, es0⟩
  · by_cases hu : u = t
    · rw [hu]
      exact List.mem_append.mpr (Or.inr (List.mem_singleton.mpr rfl))
    · rw [e7 u g2 hu] at g3
      exact List.mem_append.mpr (Or.inl (h.2.2.1 u g1 g2 g3))
  · rw [List.pairwise_append]
    refine ⟨?_, List.pairwise_singleton _ _, fun x hx y hy => ?_⟩
    · refine List.Pairwise.imp_of_mem ?_ h.2.2.2
      intro x y hx hy hxy
      obtain ⟨u, g1, g2, g3, rfl, -⟩ := hm x hx
      obtain ⟨v, k1, k2, k3, rfl, -⟩ := hm y hy
      rw [nI_clamp (by omega), nI_clamp (by omega)] at hxy ⊢
      rw [e8 u g2 g3, e8 v k2 k3]
      exact hxy
    · have e := List.mem_singleton.mp hy
      obtain ⟨u, g1, g2, g3, rfl, -⟩ := hm x hx
      rw [e, nI_clamp (by omega), nI_clamp (by omega), e8 u g2 g3]
      exact es u g2 g3
theorem MB.drop (h : MB σ) (t : Nat) (e0 : σ'.1 = σ.1) (e6 : sI σ' 6 5 = sI σ 6 5) (e7 : sI σ' 7 = upd (sI σ 7) t 0) (e10 : sI σ' 10 = sI σ 10) : MB σ' := by
  have h60 := h.2.1
  unfold MB at *
  rw [e0, e6, e7, e10]
  refine ⟨h.1, h.2.1, fun u hu => ?_, h.2.2.2.1, fun j k hj hk e => ?_⟩
  · rw [updA]
    split
    · exact Or.inl rfl
    · exact h.2.2.1 u hu
  · rw [updA] at e
    split at e
    · exact absurd e.symm (nI1001_ne (by omega))
    · exact h.2.2.2.2 j k hj hk e
theorem take_ag (h : Inv N σ) (x : Int32) : Ag N σ (xTake σ x) (mTake (xTake σ x).2 x) := by
  obtain ⟨hM, i1, i2, i3, i4, i5, i6, i7, i8, i9, iN⟩ := id h
  have h60 := h.n60
  by_cases c0 : thingB σ x = false
  · have ex : xTake σ x = (-11, σ) := by unfold xTake; rw [if_pos c0]
    refine Ag.no h (-11) ex ?_
    rw [ex]
    unfold mTake
    rw [if_pos c0]
  have c0' : thingB σ x = true := by
    cases e : thingB σ x with
    | true => rfl
    | false => exact absurd e c0
  obtain ⟨t, ok, ht, ht1, rfl⟩ := thing_okT h60 c0'
  have exX : xTake σ (nI t) = if sI σ 7 t = 0 then (-13, σ) else if shutInB σ t = true then (-13, σ) else (sI σ 7 t, takeOutS σ (nI t)) := by
    unfold xTake
    rw [if_neg c0, shut_hold hM i1 i4 ht, holdF_nI i1 ht]
  have exM : ∀ τ, mEq σ τ → mTake τ (nI t) = if sI σ 7 t = 0 then (-13, τ) else if shutInB σ t = true then (-13, τ) else (sI σ 7 t, upI τ 7 t 0) := by
    intro τ hh
    unfold mTake
    rw [hh.thing, if_neg c0, nI_clamp (by omega), hh.I 7, hh.shutIn]
  by_cases c1 : sI σ 7 t = 0
  · rw [if_pos c1] at exX
    refine Ag.no h (-13) exX ?_
    rw [exX, exM σ (mEq.refl σ), if_pos c1]
  rw [if_neg c1] at exX
  by_cases c2 : shutInB σ t = true
  · rw [if_pos c2] at exX
    refine Ag.no h (-13) exX ?_
    rw [exX, exM σ (mEq.refl σ), if_neg c1, if_pos c2]
  rw [if_neg c2] at exX
  have hm := mEq.takeOut σ (nI t)
  rw [exX]
  show Ag N σ (sI σ 7 t, takeOutS σ (nI t)) (mTake (takeOutS σ (nI t)) (nI t))
  rw [exM _ hm, if_neg c1, if_neg c2]
  refine ⟨hm, rfl, ?_⟩
  obtain ⟨k, hk, ek⟩ := (hM.2.2.1 t ht).resolve_left c1
  have et : takeOutS σ (nI t) = upI (upR (upI σ 3 t (sI σ 9 t)) (rc k 0) ((sR σ (rc k 0)).filter (fun y => decide (y ≠ nI t)))) 2 t 0 := by
    unfold takeOutS
    rw [holdF_nI i1 ht, ek, recOf_mk h60 hk, place_nI hM i1 i3 ht]
    show setHoldF (remR (setOwnF σ (nI t) (sI σ 9 t)) k 0 (nI t)) (nI t) 0 = _
    rw [setOwn_nI ht, setHold_nI ht]
    rfl
  rw [et]
  show Inv (N + 1) (upI (upI (upR (upI σ 3 t (sI σ 9 t)) (rc k 0) ((sR σ (rc k 0)).filter (fun y => decide (y ≠ nI t)))) 2 t 0) 7 t 0)
  generalize hfl : (sR σ (rc k 0)).filter (fun y => decide (y ≠ nI t)) = fl
  have e7 : sI (upI (upI (upR (upI σ 3 t (sI σ 9 t)) (rc k 0) fl) 2 t 0) 7 t 0) 7 = upd (sI σ 7) t 0 := by simp [ev1, ev2, ev3, ev4, ev5, ev6, ev7, ev8, ev9, ev10, ev11, ev12, ev13, ev14, ev15, ev16, ev17, ev18, evr0, evr1, evr2, evr3, evr4, evr5, evr6, evr7, evr8, evr9, evr10, evr11, evr12, evr13, evr14, evr15, evr16, evr17, evr18, evr19, evr20, evr21, evr22, evr23, evs0, evs1, evs2, evs3, evs4, evs5, evs6, evs7, evs8, evs9, evs10, evs11, evs12, evs13, evs14, evs15, evs16, evs17, evs18, evs19, evs20, evs21, evs22, evs23, mNote_I, mNote_J, mNote_R, mNote_c, noteS_I, noteS_J, noteS_R, noteS_c, updA, updB, appR, remR, mPut, mShut, shutS, unseal1, mUns, mBring]
  have e2 : sI (upI (upI (upR (upI σ 3 t (sI σ 9 t)) (rc k 0) fl) 2 t 0) 7 t 0) 2 = upd (sI σ 2) t 0 := by simp [ev1, ev2, ev3, ev4, ev5, ev6, ev7, ev8, ev9, ev10, ev11, ev12, ev13, ev14, ev15, ev16, ev17, ev18, evr0, evr1, evr2, evr3, evr4, evr5, evr6, evr7, evr8, evr9, evr10, evr11, evr12, evr13, evr14, evr15, evr16, evr17, evr18, evr19, evr20, evr21, evr22, evr23, evs0, evs1, evs2, evs3, evs4, evs5, evs6, evs7, evs8, evs9, evs10, evs11, evs12, evs13, evs14, evs15, evs16, evs17, evs18, evs19, evs20, evs21, evs22, evs23, mNote_I, mNote_J, mNote_R, mNote_c, noteS_I, noteS_J, noteS_R, noteS_c, updA, updB, appR, remR, mPut, mShut, shutS, unseal1, mUns, mBring]
  have e3 : sI (upI (upI (upR (upI σ 3 t (sI σ 9 t)) (rc k 0) fl) 2 t 0) 7 t 0) 3 = upd (sI σ 3) t (sI σ 9 t) := by simp [ev1, ev2, ev3, ev4, ev5, ev6, ev7, ev8, ev9, ev10, ev11, ev12, ev13, ev14, ev15, ev16, ev17, ev18, evr0, evr1, evr2, evr3, evr4, evr5, evr6, evr7, evr8, evr9, evr10, evr11, evr12, evr13, evr14, evr15, evr16, evr17, evr18, evr19, evr20, evr21, evr22, evr23, evs0, evs1, evs2, evs3, evs4, evs5, evs6, evs7, evs8, evs9, evs10, evs11, evs12, evs13, evs14, evs15, evs16, evs17, evs18, evs19, evs20, evs21, evs22, evs23, mNote_I, mNote_J, mNote_R, mNote_c, noteS_I, noteS_J, noteS_R, noteS_c, updA, updB, appR, remR, mPut, mShut, shutS, unseal1, mUns, mBring]
  have e9 : sI (upI (upI (upR (upI σ 3 t (sI σ 9 t)) (rc k 0) fl) 2 t 0) 7 t 0) 9 = sI σ 9 := by simp [ev1, ev2, ev3, ev4, ev5, ev6, ev7, ev8, ev9, ev10, ev11, ev12, ev13, ev14, ev15, ev16, ev17, ev18, evr0, evr1, evr2, evr3, evr4, evr5, evr6, evr7, evr8, evr9, evr10, evr11, evr12, evr13, evr14, evr15, evr16, evr17, evr18, evr19, evr20, evr21, evr22, evr23, evs0, evs1, evs2, evs3, evs4, evs5, evs6, evs7, evs8, evs9, evs10, evs11, evs12, evs13, evs14, evs15, evs16, evs17, evs18, evs19, evs20, evs21, evs22, evs23, mNote_I, mNote_J, mNote_R, mNote_c, noteS_I, noteS_J, noteS_R, noteS_c, updA, updB, appR, remR, mPut, mShut, shutS, unseal1, mUns, mBring]
  have e8 : sI (upI (upI (upR (upI σ 3 t (sI σ 9 t)) (rc k 0) fl) 2 t 0) 7 t 0) 8 = sI σ 8 := by simp [ev1, ev2, ev3, ev4, ev5, ev6, ev7, ev8, ev9, ev10, ev11, ev12, ev13, ev14, ev15, ev16, ev17, ev18, evr0, evr1, evr2, evr3, evr4, evr5, evr6, evr7, evr8, evr9, evr10, evr11, evr12, evr13, evr14, evr15, evr16, evr17, evr18, evr19, evr20, evr21, evr22, evr23, evs0, evs1, evs2, evs3, evs4, evs5, evs6, evs7, evs8, evs9, evs10, evs11, evs12, evs13, evs14, evs15, evs16, evs17, evs18, evs19, evs20, evs21, evs22, evs23, mNote_I, mNote_J, mNote_R, mNote_c, noteS_I, noteS_J, noteS_R, noteS_c, updA, updB, appR, remR, mPut, mShut, shutS, unseal1, mUns, mBring]
  have e64 : sI (upI (upI (upR (upI σ 3 t (sI σ 9 t)) (rc k 0) fl) 2 t 0) 7 t 0) 6 = sI σ 6 := by simp [ev1, ev2, ev3, ev4, ev5, ev6, ev7, ev8, ev9, ev10, ev11, ev12, ev13, ev14, ev15, ev16, ev17, ev18, evr0, evr1, evr2, evr3, evr4, evr5, evr6, evr7, evr8, evr9, evr10, evr11, evr12, evr13, evr14, evr15, evr16, evr17, evr18, evr19, evr20, evr21, evr22, evr23, evs0, evs1, evs2, evs3, evs4, evs5, evs6, evs7, evs8, evs9, evs10, evs11, evs12, evs13, evs14, evs15, evs16, evs17, evs18, evs19, evs20, evs21, evs22, evs23, mNote_I, mNote_J, mNote_R, mNote_c, noteS_I, noteS_J, noteS_R, noteS_c, updA, updB, appR, remR, mPut, mShut, shutS, unseal1, mUns, mBring]
  have eR : ∀ j, sR (upI (upI (upR (upI σ 3 t (sI σ 9 t)) (rc k 0) fl) 2 t 0) 7 t 0) (rc j 0) = if j = k then fl else sR σ (rc j 0) := by intro j; simp [ev1, ev2, ev3, ev4, ev5, ev6, ev7, ev8, ev9, ev10, ev11, ev12, ev13, ev14, ev15, ev16, ev17, ev18, evr0, evr1, evr2, evr3, evr4, evr5, evr6, evr7, evr8, evr9, evr10, evr11, evr12, evr13, evr14, evr15, evr16, evr17, evr18, evr19, evr20, evr21, evr22, evr23, evs0, evs1, evs2, evs3, evs4, evs5, evs6, evs7, evs8, evs9, evs10, evs11, evs12, evs13, evs14, evs15, evs16, evs17, evs18, evs19, evs20, evs21, evs22, evs23, mNote_I, mNote_J, mNote_R, mNote_c, noteS_I, noteS_J, noteS_R, noteS_c, updA, updB, appR, remR, mPut, mShut, shutS, unseal1, mUns, mBring]
  refine ⟨hM.drop t rfl (by rw [e64]) e7 (by simp [ev1, ev2, ev3, ev4, ev5, ev6, ev7, ev8, ev9, ev10, ev11, ev12, ev13, ev14, ev15, ev16, ev17, ev18, evr0, evr1, evr2, evr3, evr4, evr5, evr6, evr7, evr8, evr9, evr10, evr11, evr12, evr13, evr14, evr15, evr16, evr17, evr18, evr19, evr20, evr21, evr22, evr23, evs0, evs1, evs2, evs3, evs4, evs5, evs6, evs7, evs8, evs9, evs10, evs11, evs12, evs13, evs14, evs15, evs16, evs17, evs18, evs19, evs20, evs21, evs22, evs23, mNote_I, mNote_J, mNote_R, mNote_c, noteS_I, noteS_J, noteS_R, noteS_c, updA, updB, appR, remR, mPut, mShut, shutS, unseal1, mUns, mBring]), ⟨?_, ?_, ?_⟩, ⟨?_, ?_⟩, ⟨?_, ?_⟩, i4.cg, i5.cg, i6.cg, i7.cg, i8.cg, i9.cg, (iN.mono (Nat.le_succ N)).cg⟩
  · intro u hu
    rw [e2, e7, updA, updA]
    split
    · rfl
    · exact i1.1 u hu
  · intro u hu hok
    rw [e7, updA]
    split
    · rfl
    · exact i1.2.1 u hu hok
  · intro j hj
    have q := i1.2.2 j hj
    simpa [ev1, ev2, ev3, ev4, ev5, ev6, ev7, ev8, ev9, ev10, ev11, ev12, ev13, ev14, ev15, ev16, ev17, ev18, evr0, evr1, evr2, evr3, evr4, evr5, evr6, evr7, evr8, evr9, evr10, evr11, evr12, evr13, evr14, evr15, evr16, evr17, evr18, evr19, evr20, evr21, evr22, evr23, evs0, evs1, evs2, evs3, evs4, evs5, evs6, evs7, evs8, evs9, evs10, evs11, evs12, evs13, evs14, evs15, evs16, evs17, evs18, evs19, evs20, evs21, evs22, evs23, mNote_I, mNote_J, mNote_R, mNote_c, noteS_I, noteS_J, noteS_R, noteS_c, updA, updB, appR, remR, mPut, mShut, shutS, unseal1, mUns, mBring] using q
  · rw [e64, e8]
    obtain ⟨m, m1, m2⟩ := i2.1
    exact ⟨m, by omega, m2⟩
  · intro j hj
    have hj : j < σ.1 := hj
    rw [eR]
    have q := i2.2 j hj
    by_cases ej : j = k
    · rw [if_pos ej, ej]
      have z := (i2.2 k hk).rem (σ' := upI (upI (upR (upI σ 3 t (sI σ 9 t)) (rc k 0) fl) 2 t 0) 7 t 0) ht (fun u _ hu => by rw [e7, upd_n _ _ hu]) (by rw [e7, upd_s]; exact fun e => nI1001_ne (by omega) e.symm) (fun u _ _ => by rw [e8])
      rw [hfl] at z
      exact z
    · rw [if_neg ej]
      refine q.keep ht (fun u _ hu => by rw [e7, upd_n _ _ hu]) (by rw [e7, upd_s]; exact fun e => nI1001_ne (by omega) e.symm) ?_ (fun u _ _ => by rw [e8])
      rw [ek]
      intro e
      have := (nI_eq (by omega) (by omega)).mp e
      omega
  · intro u hu h0
    rw [e7] at h0
    rw [e3, e9, updA]
    by_cases eu : u = t
    · rw [if_pos eu, eu]
    · rw [upd_n _ _ eu] at h0
      rw [if_neg eu]
      exact i3.1 u hu h0
  · intro u j hu hj e
    rw [e7, updA] at e
    rw [e9]
    split at e
    · exact absurd e.symm (nI1001_ne (by have : j < σ.1 := hj; omega))
    · exact i3.2 u j hu hj e
end STEP3
