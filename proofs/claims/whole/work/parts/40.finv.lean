/-! found: the invariant after a thing of the list, and after an extra that lies there -/
section FINV
variable {σ : ST} {N : Nat}
theorem found_inv_a (h : Inv N σ) {k j : Nat} (hk : k < σ.1) (hj : j < (sR σ (rc k 1)).length) : Inv (N + 1) (upI (remR σ k 4 ((sR σ (rc k 1)).getD j 0)) 18 (12 * k + j) 1) := by
  obtain ⟨hM, i1, i2, i3, i4, i5, i6, i7, i8, i9, iN⟩ := id h
  have l5 := i5 k hk
  have a12 : sI (upI (remR σ k 4 ((sR σ (rc k 1)).getD j 0)) 18 (12 * k + j) 1) 12 = sI σ 12 := by simp [ev1, ev2, ev3, ev4, ev5, ev6, ev7, ev8, ev9, ev10, ev11, ev12, ev13, ev14, ev15, ev16, ev17, ev18, evr0, evr1, evr2, evr3, evr4, evr5, evr6, evr7, evr8, evr9, evr10, evr11, evr12, evr13, evr14, evr15, evr16, evr17, evr18, evr19, evr20, evr21, evr22, evr23, evs0, evs1, evs2, evs3, evs4, evs5, evs6, evs7, evs8, evs9, evs10, evs11, evs12, evs13, evs14, evs15, evs16, evs17, evs18, evs19, evs20, evs21, evs22, evs23, mNote_I, mNote_J, mNote_R, mNote_c, noteS_I, noteS_J, noteS_R, noteS_c, updA, updB, appR, remR, mPut, mShut, shutS, unseal1, mUns, mBring]
  have a17 : sI (upI (remR σ k 4 ((sR σ (rc k 1)).getD j 0)) 18 (12 * k + j) 1) 17 = sI σ 17 := by simp [ev1, ev2, ev3, ev4, ev5, ev6, ev7, ev8, ev9, ev10, ev11, ev12, ev13, ev14, ev15, ev16, ev17, ev18, evr0, evr1, evr2, evr3, evr4, evr5, evr6, evr7, evr8, evr9, evr10, evr11, evr12, evr13, evr14, evr15, evr16, evr17, evr18, evr19, evr20, evr21, evr22, evr23, evs0, evs1, evs2, evs3, evs4, evs5, evs6, evs7, evs8, evs9, evs10, evs11, evs12, evs13, evs14, evs15, evs16, evs17, evs18, evs19, evs20, evs21, evs22, evs23, mNote_I, mNote_J, mNote_R, mNote_c, noteS_I, noteS_J, noteS_R, noteS_c, updA, updB, appR, remR, mPut, mShut, shutS, unseal1, mUns, mBring]
  have a18 : sI (upI (remR σ k 4 ((sR σ (rc k 1)).getD j 0)) 18 (12 * k + j) 1) 18 = upd (sI σ 18) (12 * k + j) 1 := by simp [ev1, ev2, ev3, ev4, ev5, ev6, ev7, ev8, ev9, ev10, ev11, ev12, ev13, ev14, ev15, ev16, ev17, ev18, evr0, evr1, evr2, evr3, evr4, evr5, evr6, evr7, evr8, evr9, evr10, evr11, evr12, evr13, evr14, evr15, evr16, evr17, evr18, evr19, evr20, evr21, evr22, evr23, evs0, evs1, evs2, evs3, evs4, evs5, evs6, evs7, evs8, evs9, evs10, evs11, evs12, evs13, evs14, evs15, evs16, evs17, evs18, evs19, evs20, evs21, evs22, evs23, mNote_I, mNote_J, mNote_R, mNote_c, noteS_I, noteS_J, noteS_R, noteS_c, updA, updB, appR, remR, mPut, mShut, shutS, unseal1, mUns, mBring]
  have r1 : ∀ i, sR (upI (remR σ k 4 ((sR σ (rc k 1)).getD j 0)) 18 (12 * k + j) 1) (rc i 1) = sR σ (rc i 1) := by intro i; simp [ev1, ev2, ev3, ev4, ev5, ev6, ev7, ev8, ev9, ev10, ev11, ev12, ev13, ev14, ev15, ev16, ev17, ev18, evr0, evr1, evr2, evr3, evr4, evr5, evr6, evr7, evr8, evr9, evr10, evr11, evr12, evr13, evr14, evr15, evr16, evr17, evr18, evr19, evr20, evr21, evr22, evr23, evs0, evs1, evs2, evs3, evs4, evs5, evs6, evs7, evs8, evs9, evs10, evs11, evs12, evs13, evs14, evs15, evs16, evs17, evs18, evs19, evs20, evs21, evs22, evs23, mNote_I, mNote_J, mNote_R, mNote_c, noteS_I, noteS_J, noteS_R, noteS_c, updA, updB, appR, remR, mPut, mShut, shutS, unseal1, mUns, mBring]
  have r4 : ∀ i, sR (upI (remR σ k 4 ((sR σ (rc k 1)).getD j 0)) 18 (12 * k + j) 1) (rc i 4) = if i = k then (sR σ (rc k 4)).filter (fun y => decide (y ≠ (sR σ (rc k 1)).getD j 0)) else sR σ (rc i 4) := by intro i; simp [ev1, ev2, ev3, ev4, ev5, ev6, ev7, ev8, ev9, ev10, ev11, ev12, ev13, ev14, ev15, ev16, ev17, ev18, evr0, evr1, evr2, evr3, evr4, evr5, evr6, evr7, evr8, evr9, evr10, evr11, evr12, evr13, evr14, evr15, evr16, evr17, evr18, evr19, evr20, evr21, evr22, evr23, evs0, evs1, evs2, evs3, evs4, evs5, evs6, evs7, evs8, evs9, evs10, evs11, evs12, evs13, evs14, evs15, evs16, evs17, evs18, evs19, evs20, evs21, evs22, evs23, mNote_I, mNote_J, mNote_R, mNote_c, noteS_I, noteS_J, noteS_R, noteS_c, updA, updB, appR, remR, mPut, mShut, shutS, unseal1, mUns, mBring]
  refine ⟨hM.cg, i1.cg, (i2.mono (Nat.le_succ N)).cg, i3.cg, i4.cg, i5.cg, ?_, i7.cg, i8.cg, i9.cg, (iN.mono (Nat.le_succ N)).cg⟩
  intro i hi hc
  have hi : i < σ.1 := hi
  rw [a12] at hc
  rw [r4, r1]
  by_cases e : i = k
  · rw [e] at hc ⊢
    rw [if_pos rfl, i6 k hk hc]
    exact (misL_seen l5.2.2.1 hj l5.2.2.2 a17 a18 _ (Nat.le_refl _)).symm
  · rw [if_neg e, i6 i hi hc]
    have q5 := i5 i hi
    refine (misL_pt (fun x hx => by rw [a17]) (fun x hx => ?_)).symm
    rw [a18, upd_n _ _ (by omega)]
theorem found_inv_b (hM : MB σ) (i1 : I1 σ) (i2 : I2 (N + 1) σ) (i3 : I3 σ) (i4 : I4 σ) (i5 : I5 σ) (i6 : I6 σ) (i7 : I7 σ) (i8 : I8 σ) (i9 : I9 σ) (iN : IN N σ) (hN : N < 512) {k : Nat} (hk : k < σ.1) (t : Int32) (h12 : (sR σ (rc k 5)).length < 12) : Inv (N + 1) (mEx (feS σ k t) k (sR σ (rc k 5)).length t) := by
  have er : feS σ k t = noteS (upR σ (rc k 5) (sR σ (rc k 5) ++ [t])) (timeS σ) := by
    unfold feS appR
    rw [if_pos (by show _ < 12; omega)]
  rw [er]
  show Inv (N + 1) (mNote (upI (upI (noteS (upR σ (rc k 5) (sR σ (rc k 5) ++ [t])) (timeS σ)) 20 (12 * k + (sR σ (rc k 5)).length) t) 19 k (nI ((sR σ (rc k 5)).length + 1))))
  generalize hfl : sR σ (rc k 5) ++ [t] = fl
  generalize hln : (sR σ (rc k 5)).length = ln at *
  have a19 : sI (mNote (upI (upI (noteS (upR σ (rc k 5) fl) (timeS σ)) 20 (12 * k + ln) t) 19 k (nI (ln + 1)))) 19 = upd (sI σ 19) k (nI (ln + 1)) := by simp [ev1, ev2, ev3, ev4, ev5, ev6, ev7, ev8, ev9, ev10, ev11, ev12, ev13, ev14, ev15, ev16, ev17, ev18, evr0, evr1, evr2, evr3, evr4, evr5, evr6, evr7, evr8, evr9, evr10, evr11, evr12, evr13, evr14, evr15, evr16, evr17, evr18, evr19, evr20, evr21, evr22, evr23, evs0, evs1, evs2, evs3, evs4, evs5, evs6, evs7, evs8, evs9, evs10, evs11, evs12, evs13, evs14, evs15, evs16, evs17, evs18, evs19, evs20, evs21, evs22, evs23, mNote_I, mNote_J, mNote_R, mNote_c, noteS_I, noteS_J, noteS_R, noteS_c, updA, updB, appR, remR, mPut, mShut, shutS, unseal1, mUns, mBring]
  have a20 : sI (mNote (upI (upI (noteS (upR σ (rc k 5) fl) (timeS σ)) 20 (12 * k + ln) t) 19 k (nI (ln + 1)))) 20 = upd (sI σ 20) (12 * k + ln) t := by simp [ev1, ev2, ev3, ev4, ev5, ev6, ev7, ev8, ev9, ev10, ev11, ev12, ev13, ev14, ev15, ev16, ev17, ev18, evr0, evr1, evr2, evr3, evr4, evr5, evr6, evr7, evr8, evr9, evr10, evr11, evr12, evr13, evr14, evr15, evr16, evr17, evr18, evr19, evr20, evr21, evr22, evr23, evs0, evs1, evs2, evs3, evs4, evs5, evs6, evs7, evs8, evs9, evs10, evs11, evs12, evs13, evs14, evs15, evs16, evs17, evs18, evs19, evs20, evs21, evs22, evs23, mNote_I, mNote_J, mNote_R, mNote_c, noteS_I, noteS_J, noteS_R, noteS_c, updA, updB, appR, remR, mPut, mShut, shutS, unseal1, mUns, mBring]
  have r5 : ∀ i, sR (mNote (upI (upI (noteS (upR σ (rc k 5) fl) (timeS σ)) 20 (12 * k + ln) t) 19 k (nI (ln + 1)))) (rc i 5) = if i = k then fl else sR σ (rc i 5) := by intro i; simp [ev1, ev2, ev3, ev4, ev5, ev6, ev7, ev8, ev9, ev10, ev11, ev12, ev13, ev14, ev15, ev16, ev17, ev18, evr0, evr1, evr2, evr3, evr4, evr5, evr6, evr7, evr8, evr9, evr10, evr11, evr12, evr13, evr14, evr15, evr16, evr17, evr18, evr19, evr20, evr21, evr22, evr23, evs0, evs1, evs2, evs3, evs4, evs5, evs6, evs7, evs8, evs9, evs10, evs11, evs12, evs13, evs14, evs15, evs16, evs17, evs18, evs19, evs20, evs21, evs22, evs23, mNote_I, mNote_J, mNote_R, mNote_c, noteS_I, noteS_J, noteS_R, noteS_c, updA, updB, appR, remR, mPut, mShut, shutS, unseal1, mUns, mBring]
  refine ⟨hM.cg, i1.cg, i2.cg, i3.cg, i4.cg, i5.cg, i6.cg, ?_, i8.cg, i9.cg, iN.noteG hN (by simp [ev1, ev2, ev3, ev4, ev5, ev6, ev7, ev8, ev9, ev10, ev11, ev12, ev13, ev14, ev15, ev16, ev17, ev18, evr0, evr1, evr2, evr3, evr4, evr5, evr6, evr7, evr8, evr9, evr10, evr11, evr12, evr13, evr14, evr15, evr16, evr17, evr18, evr19, evr20, evr21, evr22, evr23, evs0, evs1, evs2, evs3, evs4, evs5, evs6, evs7, evs8, evs9, evs10, evs11, evs12, evs13, evs14, evs15, evs16, evs17, evs18, evs19, evs20, evs21, evs22, evs23, mNote_I, mNote_J, mNote_R, mNote_c, noteS_I, noteS_J, noteS_R, noteS_c, updA, updB, appR, remR, mPut, mShut, shutS, unseal1, mUns, mBring]) (by simp [timeS, ev1, ev2, ev3, ev4, ev5, ev6, ev7, ev8, ev9, ev10, ev11, ev12, ev13, ev14, ev15, ev16, ev17, ev18, evr0, evr1, evr2, evr3, evr4, evr5, evr6, evr7, evr8, evr9, evr10, evr11, evr12, evr13, evr14, evr15, evr16, evr17, evr18, evr19, evr20, evr21, evr22, evr23, evs0, evs1, evs2, evs3, evs4, evs5, evs6, evs7, evs8, evs9, evs10, evs11, evs12, evs13, evs14, evs15, evs16, evs17, evs18, evs19, evs20, evs21, evs22, evs23, mNote_I, mNote_J, mNote_R, mNote_c, noteS_I, noteS_J, noteS_R, noteS_c, updA, updB, appR, remR, mPut, mShut, shutS, unseal1, mUns, mBring]) (by simp [ev1, ev2, ev3, ev4, ev5, ev6, ev7, ev8, ev9, ev10, ev11, ev12, ev13, ev14, ev15, ev16, ev17, ev18, evr0, evr1, evr2, evr3, evr4, evr5, evr6, evr7, evr8, evr9, evr10, evr11, evr12, evr13, evr14, evr15, evr16, evr17, evr18, evr19, evr20, evr21, evr22, evr23, evs0, evs1, evs2, evs3, evs4, evs5, evs6, evs7, evs8, evs9, evs10, evs11, evs12, evs13, evs14, evs15, evs16, evs17, evs18, evs19, evs20, evs21, evs22, evs23, mNote_I, mNote_J, mNote_R, mNote_c, noteS_I, noteS_J, noteS_R, noteS_c, updA, updB, appR, remR, mPut, mShut, shutS, unseal1, mUns, mBring]) (by simp [ev1, ev2, ev3, ev4, ev5, ev6, ev7, ev8, ev9, ev10, ev11, ev12, ev13, ev14, ev15, ev16, ev17, ev18, evr0, evr1, evr2, evr3, evr4, evr5, evr6, evr7, evr8, evr9, evr10, evr11, evr12, evr13, evr14, evr15, evr16, evr17, evr18, evr19, evr20, evr21, evr22, evr23, evs0, evs1, evs2, evs3, evs4, evs5, evs6, evs7, evs8, evs9, evs10, evs11, evs12, evs13, evs14, evs15, evs16, evs17, evs18, evs19, evs20, evs21, evs22, evs23, mNote_I, mNote_J, mNote_R, mNote_c, noteS_I, noteS_J, noteS_R, noteS_c, updA, updB, appR, remR, mPut, mShut, shutS, unseal1, mUns, mBring]) (by simp [ev1, ev2, ev3, ev4, ev5, ev6, ev7, ev8, ev9, ev10, ev11, ev12, ev13, ev14, ev15, ev16, ev17, ev18, evr0, evr1, evr2, evr3, evr4, evr5, evr6, evr7, evr8, evr9, evr10, evr11, evr12, evr13, evr14, evr15, evr16, evr17, evr18, evr19, evr20, evr21, evr22, evr23, evs0, evs1, evs2, evs3, evs4, evs5, evs6, evs7, evs8, evs9, evs10, evs11, evs12, evs13, evs14, evs15, evs16, evs17, evs18, evs19, evs20, evs21, evs22, evs23, mNote_I, mNote_J, mNote_R, mNote_c, noteS_I, noteS_J, noteS_R, noteS_c, updA, updB, appR, remR, mPut, mShut, shutS, unseal1, mUns, mBring]) (by simp [ev1, ev2, ev3, ev4, ev5, ev6, ev7, ev8, ev9, ev10, ev11, ev12, ev13, ev14, ev15, ev16, ev17, ev18, evr0, evr1, evr2, evr3, evr4, evr5, evr6, evr7, evr8, evr9, evr10, evr11, evr12, evr13, evr14, evr15, evr16, evr17, evr18, evr19, evr20, evr21, evr22, evr23, evs0, evs1, evs2, evs3, evs4, evs5, evs6, evs7, evs8, evs9, evs10, evs11, evs12, evs13, evs14, evs15, evs16, evs17, evs18, evs19, evs20, evs21, evs22, evs23, mNote_I, mNote_J, mNote_R, mNote_c, noteS_I, noteS_J, noteS_R, noteS_c, updA, updB, appR, remR, mPut, mShut, shutS, unseal1, mUns, mBring])⟩
  intro i hi
  have hi : i < σ.1 := hi
  have q7 := i7 i hi
  rw [a19, a20, r5]
  by_cases e : i = k
  · rw [e] at q7 ⊢
    rw [if_pos rfl, upd_s, ← hfl, List.length_append, List.length_singleton, hln]
    refine ⟨rfl, by omega, fun x hx => ?_⟩
    by_cases ex : x = ln
    · rw [ex, upd_s, List.getD_eq_getElem?_getD, List.getElem?_append_right (by omega), hln, Nat.sub_self]
      rfl
    · rw [upd_n _ _ (by omega), q7.2.2 x (by omega), List.getD_eq_getElem?_getD, List.getD_eq_getElem?_getD, List.getElem?_append_left (by omega)]
  · rw [if_neg e, upd_n _ _ e]
    refine ⟨q7.1, q7.2.1, fun x hx => ?_⟩
    rw [upd_n _ _ (by omega)]
    exact q7.2.2 x hx
theorem st_ext {S S2 : ST} (h0 : S.1 = S2.1) (hI : ∀ c, sI S c = sI S2 c) (hJ : ∀ c, sJ S c = sJ S2 c) (hR : ∀ c, sR S c = sR S2 c) : S = S2 := by
  obtain ⟨a, b, c, d⟩ := S
  obtain ⟨a2, b2, c2, d2⟩ := S2
  have h0 : a = a2 := h0
  have h1 : b = b2 := funext hI
  have h2 : c = c2 := funext hJ
  have h3 : d = d2 := funext hR
  rw [h0, h1, h2, h3]
end FINV
