/-! found: what is brought in from elsewhere, the invariant -/
section FMI
variable {σ P : ST} {N : Nat}
theorem moved_inv (h : Inv N σ) (hN : N < 512) {k t : Nat} (hk : k < σ.1) (ok : okT σ.1 t) (ht1 : 1 ≤ t) (ht : t < 1061) (h12 : (sR σ (rc k 0)).length < 12) (hold : ¬ sI σ 7 t = nI (1001 + k)) (hless : mkF σ (nI t) < sI σ 10 k) (p0 : P.1 = σ.1) (pI : ∀ c, c ≠ 2 → c ≠ 3 → sI P c = sI σ c) (pJ : sJ P = sJ σ) (p2 : ∀ u, sI P 2 u = if u = t then nI (1001 + k) else sI σ 2 u) (p3 : ∀ u, u ≠ t → sI P 3 u = sI σ 3 u) (pR : ∀ j, sR P (rc j 0) = if j = k then sR σ (rc k 0) ++ [nI t] else if sI σ 7 t = nI (1001 + j) ∧ j < 60 then (sR σ (rc j 0)).filter (fun y => decide (y ≠ nI t)) else sR σ (rc j 0)) (pr : ∀ j i, i < 6 → i ≠ 0 → sR P (rc j i) = sR σ (rc j i)) : MB (mBring (mPut P (nI (1001 + k)) t) t (sI σ 9 (1001 + k))) ∧ I1 (mBring (mPut P (nI (1001 + k)) t) t (sI σ 9 (1001 + k))) ∧ I2 (N + 1) (mBring (mPut P (nI (1001 + k)) t) t (sI σ 9 (1001 + k))) ∧ I3 (mBring (mPut P (nI (1001 + k)) t) t (sI σ 9 (1001 + k))) ∧ I4 (mBring (mPut P (nI (1001 + k)) t) t (sI σ 9 (1001 + k))) ∧ I5 (mBring (mPut P (nI (1001 + k)) t) t (sI σ 9 (1001 + k))) ∧ I6 (mBring (mPut P (nI (1001 + k)) t) t (sI σ 9 (1001 + k))) ∧ I7 (mBring (mPut P (nI (1001 + k)) t) t (sI σ 9 (1001 + k))) ∧ I8 (mBring (mPut P (nI (1001 + k)) t) t (sI σ 9 (1001 + k))) ∧ I9 (mBring (mPut P (nI (1001 + k)) t) t (sI σ 9 (1001 + k))) ∧ IN N (mBring (mPut P (nI (1001 + k)) t) t (sI σ 9 (1001 + k))) := by
  obtain ⟨hM, i1, i2, i3, i4, i5, i6, i7, i8, i9, iN⟩ := id h
  have h60 := h.n60
  have hMp := hM.put hk (tn := t) hless
  have m0 : (mPut P (nI (1001 + k)) t).1 = σ.1 := p0
  have m7 : sI (mPut P (nI (1001 + k)) t) 7 = upd (sI σ 7) t (nI (1001 + k)) := by rw [← pI 7 (by decide) (by decide)]; simp [ev1, ev2, ev3, ev4, ev5, ev6, ev7, ev8, ev9, ev10, ev11, ev12, ev13, ev14, ev15, ev16, ev17, ev18, evr0, evr1, evr2, evr3, evr4, evr5, evr6, evr7, evr8, evr9, evr10, evr11, evr12, evr13, evr14, evr15, evr16, evr17, evr18, evr19, evr20, evr21, evr22, evr23, evs0, evs1, evs2, evs3, evs4, evs5, evs6, evs7, evs8, evs9, evs10, evs11, evs12, evs13, evs14, evs15, evs16, evs17, evs18, evs19, evs20, evs21, evs22, evs23, mNote_I, mNote_J, mNote_R, mNote_c, noteS_I, noteS_J, noteS_R, noteS_c, updA, updB, appR, remR, mPut, mShut, shutS, unseal1, mUns, mBring]
  have m8 : sI (mPut P (nI (1001 + k)) t) 8 = upd (sI σ 8) t (sI σ 6 4 + 1) := by rw [← pI 8 (by decide) (by decide), ← pI 6 (by decide) (by decide)]; simp [ev1, ev2, ev3, ev4, ev5, ev6, ev7, ev8, ev9, ev10, ev11, ev12, ev13, ev14, ev15, ev16, ev17, ev18, evr0, evr1, evr2, evr3, evr4, evr5, evr6, evr7, evr8, evr9, evr10, evr11, evr12, evr13, evr14, evr15, evr16, evr17, evr18, evr19, evr20, evr21, evr22, evr23, evs0, evs1, evs2, evs3, evs4, evs5, evs6, evs7, evs8, evs9, evs10, evs11, evs12, evs13, evs14, evs15, evs16, evs17, evs18, evs19, evs20, evs21, evs22, evs23, mNote_I, mNote_J, mNote_R, mNote_c, noteS_I, noteS_J, noteS_R, noteS_c, updA, updB, appR, remR, mPut, mShut, shutS, unseal1, mUns, mBring]
  have m6 : sI (mPut P (nI (1001 + k)) t) 6 = upd (sI σ 6) 4 (sI σ 6 4 + 1) := by rw [← pI 6 (by decide) (by decide)]; simp [ev1, ev2, ev3, ev4, ev5, ev6, ev7, ev8, ev9, ev10, ev11, ev12, ev13, ev14, ev15, ev16, ev17, ev18, evr0, evr1, evr2, evr3, evr4, evr5, evr6, evr7, evr8, evr9, evr10, evr11, evr12, evr13, evr14, evr15, evr16, evr17, evr18, evr19, evr20, evr21, evr22, evr23, evs0, evs1, evs2, evs3, evs4, evs5, evs6, evs7, evs8, evs9, evs10, evs11, evs12, evs13, evs14, evs15, evs16, evs17, evs18, evs19, evs20, evs21, evs22, evs23, mNote_I, mNote_J, mNote_R, mNote_c, noteS_I, noteS_J, noteS_R, noteS_c, updA, updB, appR, remR, mPut, mShut, shutS, unseal1, mUns, mBring]
  have m2 : sI (mPut P (nI (1001 + k)) t) 2 = sI P 2 := by simp [ev1, ev2, ev3, ev4, ev5, ev6, ev7, ev8, ev9, ev10, ev11, ev12, ev13, ev14, ev15, ev16, ev17, ev18, evr0, evr1, evr2, evr3, evr4, evr5, evr6, evr7, evr8, evr9, evr10, evr11, evr12, evr13, evr14, evr15, evr16, evr17, evr18, evr19, evr20, evr21, evr22, evr23, evs0, evs1, evs2, evs3, evs4, evs5, evs6, evs7, evs8, evs9, evs10, evs11, evs12, evs13, evs14, evs15, evs16, evs17, evs18, evs19, evs20, evs21, evs22, evs23, mNote_I, mNote_J, mNote_R, mNote_c, noteS_I, noteS_J, noteS_R, noteS_c, updA, updB, appR, remR, mPut, mShut, shutS, unseal1, mUns, mBring]
  have m3 : sI (mPut P (nI (1001 + k)) t) 3 = sI P 3 := by simp [ev1, ev2, ev3, ev4, ev5, ev6, ev7, ev8, ev9, ev10, ev11, ev12, ev13, ev14, ev15, ev16, ev17, ev18, evr0, evr1, evr2, evr3, evr4, evr5, evr6, evr7, evr8, evr9, evr10, evr11, evr12, evr13, evr14, evr15, evr16, evr17, evr18, evr19, evr20, evr21, evr22, evr23, evs0, evs1, evs2, evs3, evs4, evs5, evs6, evs7, evs8, evs9, evs10, evs11, evs12, evs13, evs14, evs15, evs16, evs17, evs18, evs19, evs20, evs21, evs22, evs23, mNote_I, mNote_J, mNote_R, mNote_c, noteS_I, noteS_J, noteS_R, noteS_c, updA, updB, appR, remR, mPut, mShut, shutS, unseal1, mUns, mBring]
  have mo : ∀ c, c ≠ 2 → c ≠ 3 → c ≠ 6 → c ≠ 7 → c ≠ 8 → sI (mPut P (nI (1001 + k)) t) c = sI σ c := by
    intro c a b d e f
    rw [← pI c a b]
    simp [d, e, f, ev1, ev2, ev3, ev4, ev5, ev6, ev7, ev8, ev9, ev10, ev11, ev12, ev13, ev14, ev15, ev16, ev17, ev18, evr0, evr1, evr2, evr3, evr4, evr5, evr6, evr7, evr8, evr9, evr10, evr11, evr12, evr13, evr14, evr15, evr16, evr17, evr18, evr19, evr20, evr21, evr22, evr23, evs0, evs1, evs2, evs3, evs4, evs5, evs6, evs7, evs8, evs9, evs10, evs11, evs12, evs13, evs14, evs15, evs16, evs17, evs18, evs19, evs20, evs21, evs22, evs23, mNote_I, mNote_J, mNote_R, mNote_c, noteS_I, noteS_J, noteS_R, noteS_c, updA, updB, appR, remR, mPut, mShut, shutS, unseal1, mUns, mBring]
  have mb : ∀ j, sI (mPut P (nI (1001 + k)) t) (rb j) = sI σ (rb j) := fun j => mo _ (by unfold rb; omega) (by unfold rb; omega) (by unfold rb; omega) (by unfold rb; omega) (by unfold rb; omega)
  have mJ : sJ (mPut P (nI (1001 + k)) t) = sJ σ := by rw [← pJ]; simp [ev1, ev2, ev3, ev4, ev5, ev6, ev7, ev8, ev9, ev10, ev11, ev12, ev13, ev14, ev15, ev16, ev17, ev18, evr0, evr1, evr2, evr3, evr4, evr5, evr6, evr7, evr8, evr9, evr10, evr11, evr12, evr13, evr14, evr15, evr16, evr17, evr18, evr19, evr20, evr21, evr22, evr23, evs0, evs1, evs2, evs3, evs4, evs5, evs6, evs7, evs8, evs9, evs10, evs11, evs12, evs13, evs14, evs15, evs16, evs17, evs18, evs19, evs20, evs21, evs22, evs23, mNote_I, mNote_J, mNote_R, mNote_c, noteS_I, noteS_J, noteS_R, noteS_c, updA, updB, appR, remR, mPut, mShut, shutS, unseal1, mUns, mBring]
  have mR : sR (mPut P (nI (1001 + k)) t) = sR P := by simp [ev1, ev2, ev3, ev4, ev5, ev6, ev7, ev8, ev9, ev10, ev11, ev12, ev13, ev14, ev15, ev16, ev17, ev18, evr0, evr1, evr2, evr3, evr4, evr5, evr6, evr7, evr8, evr9, evr10, evr11, evr12, evr13, evr14, evr15, evr16, evr17, evr18, evr19, evr20, evr21, evr22, evr23, evs0, evs1, evs2, evs3, evs4, evs5, evs6, evs7, evs8, evs9, evs10, evs11, evs12, evs13, evs14, evs15, evs16, evs17, evs18, evs19, evs20, evs21, evs22, evs23, mNote_I, mNote_J, mNote_R, mNote_c, noteS_I, noteS_J, noteS_R, noteS_c, updA, updB, appR, remR, mPut, mShut, shutS, unseal1, mUns, mBring]
  have w10 := mo 10 (by decide) (by decide) (by decide) (by decide) (by decide)
  have w9 := mo 9 (by decide) (by decide) (by decide) (by decide) (by decide)
  have jM : MB (mPut P (nI (1001 + k)) t) := by
    refine hMp.cg p0 ?_ ?_ ?_
    · rw [m6, upd_n _ _ (by decide)]; simp [ev1, ev2, ev3, ev4, ev5, ev6, ev7, ev8, ev9, ev10, ev11, ev12, ev13, ev14, ev15, ev16, ev17, ev18, evr0, evr1, evr2, evr3, evr4, evr5, evr6, evr7, evr8, evr9, evr10, evr11, evr12, evr13, evr14, evr15, evr16, evr17, evr18, evr19, evr20, evr21, evr22, evr23, evs0, evs1, evs2, evs3, evs4, evs5, evs6, evs7, evs8, evs9, evs10, evs11, evs12, evs13, evs14, evs15, evs16, evs17, evs18, evs19, evs20, evs21, evs22, evs23, mNote_I, mNote_J, mNote_R, mNote_c, noteS_I, noteS_J, noteS_R, noteS_c, updA, updB, appR, remR, mPut, mShut, shutS, unseal1, mUns, mBring]
    · rw [m7]; simp [ev1, ev2, ev3, ev4, ev5, ev6, ev7, ev8, ev9, ev10, ev11, ev12, ev13, ev14, ev15, ev16, ev17, ev18, evr0, evr1, evr2, evr3, evr4, evr5, evr6, evr7, evr8, evr9, evr10, evr11, evr12, evr13, evr14, evr15, evr16, evr17, evr18, evr19, evr20, evr21, evr22, evr23, evs0, evs1, evs2, evs3, evs4, evs5, evs6, evs7, evs8, evs9, evs10, evs11, evs12, evs13, evs14, evs15, evs16, evs17, evs18, evs19, evs20, evs21, evs22, evs23, mNote_I, mNote_J, mNote_R, mNote_c, noteS_I, noteS_J, noteS_R, noteS_c, updA, updB, appR, remR, mPut, mShut, shutS, unseal1, mUns, mBring]
    · rw [w10]; simp [ev1, ev2, ev3, ev4, ev5, ev6, ev7, ev8, ev9, ev10, ev11, ev12, ev13, ev14, ev15, ev16, ev17, ev18, evr0, evr1, evr2, evr3, evr4, evr5, evr6, evr7, evr8, evr9, evr10, evr11, evr12, evr13, evr14, evr15, evr16, evr17, evr18, evr19, evr20, evr21, evr22, evr23, evs0, evs1, evs2, evs3, evs4, evs5, evs6, evs7, evs8, evs9, evs10, evs11, evs12, evs13, evs14, evs15, evs16, evs17, evs18, evs19, evs20, evs21, evs22, evs23, mNote_I, mNote_J, mNote_R, mNote_c, noteS_I, noteS_J, noteS_R, noteS_c, updA, updB, appR, remR, mPut, mShut, shutS, unseal1, mUns, mBring]
  have j1 : I1 (mPut P (nI (1001 + k)) t) := by
    refine ⟨fun u hu => ?_, fun u hu hok => ?_, fun j hj => ?_⟩
    · rw [m2, m7, p2, updA]
      split
      · rfl
      · exact i1.1 u hu
    · rw [m0] at hok
      rw [m7, updA]
      split
      · exact absurd (by rw [‹u = t›]; exact ok) hok
      · exact i1.2.1 u hu hok
    · rw [mb, w10]
      rw [m0] at hj
      exact i1.2.2 j hj
  generalize hQ : mPut P (nI (1001 + k)) t = Q at *
  have b0 : (mBring Q t (sI σ 9 (1001 + k))).1 = σ.1 := m0
  have bI : ∀ c, c ≠ 9 → sI (mBring Q t (sI σ 9 (1001 + k))) c = sI Q c := by intro c hc; simp [hc, ev1, ev2, ev3, ev4, ev5, ev6, ev7, ev8, ev9, ev10, ev11, ev12, ev13, ev14, ev15, ev16, ev17, ev18, evr0, evr1, evr2, evr3, evr4, evr5, evr6, evr7, evr8, evr9, evr10, evr11, evr12, evr13, evr14, evr15, evr16, evr17, evr18, evr19, evr20, evr21, evr22, evr23, evs0, evs1, evs2, evs3, evs4, evs5, evs6, evs7, evs8, evs9, evs10, evs11, evs12, evs13, evs14, evs15, evs16, evs17, evs18, evs19, evs20, evs21, evs22, evs23, mNote_I, mNote_J, mNote_R, mNote_c, noteS_I, noteS_J, noteS_R, noteS_c, updA, updB, appR, remR, mPut, mShut, shutS, unseal1, mUns, mBring]
  have bJ : sJ (mBring Q t (sI σ 9 (1001 + k))) = sJ σ := by rw [← mJ]; simp [ev1, ev2, ev3, ev4, ev5, ev6, ev7, ev8, ev9, ev10, ev11, ev12, ev13, ev14, ev15, ev16, ev17, ev18, evr0, evr1, evr2, evr3, evr4, evr5, evr6, evr7, evr8, evr9, evr10, evr11, evr12, evr13, evr14, evr15, evr16, evr17, evr18, evr19, evr20, evr21, evr22, evr23, evs0, evs1, evs2, evs3, evs4, evs5, evs6, evs7, evs8, evs9, evs10, evs11, evs12, evs13, evs14, evs15, evs16, evs17, evs18, evs19, evs20, evs21, evs22, evs23, mNote_I, mNote_J, mNote_R, mNote_c, noteS_I, noteS_J, noteS_R, noteS_c, updA, updB, appR, remR, mPut, mShut, shutS, unseal1, mUns, mBring]
  have bR : sR (mBring Q t (sI σ 9 (1001 + k))) = sR P := by rw [← mR]; simp [ev1, ev2, ev3, ev4, ev5, ev6, ev7, ev8, ev9, ev10, ev11, ev12, ev13, ev14, ev15, ev16, ev17, ev18, evr0, evr1, evr2, evr3, evr4, evr5, evr6, evr7, evr8, evr9, evr10, evr11, evr12, evr13, evr14, evr15, evr16, evr17, evr18, evr19, evr20, evr21, evr22, evr23, evs0, evs1, evs2, evs3, evs4, evs5, evs6, evs7, evs8, evs9, evs10, evs11, evs12, evs13, evs14, evs15, evs16, evs17, evs18, evs19, evs20, evs21, evs22, evs23, mNote_I, mNote_J, mNote_R, mNote_c, noteS_I, noteS_J, noteS_R, noteS_c, updA, updB, appR, remR, mPut, mShut, shutS, unseal1, mUns, mBring]
  have bo : ∀ c, c ≠ 2 → c ≠ 3 → c ≠ 6 → c ≠ 7 → c ≠ 8 → c ≠ 9 → sI (mBring Q t (sI σ 9 (1001 + k))) c = sI σ c := fun c a b d e f g => (bI c g).trans (mo c a b d e f)
  have bb : ∀ j, sI (mBring Q t (sI σ 9 (1001 + k))) (rb j) = sI σ (rb j) := fun j => bo _ (by unfold rb; omega) (by unfold rb; omega) (by unfold rb; omega) (by unfold rb; omega) (by unfold rb; omega) (by unfold rb; omega)
  have br : ∀ i, i < 6 → i ≠ 0 → ∀ j, sR (mBring Q t (sI σ 9 (1001 + k))) (rc j i) = sR σ (rc j i) := fun i hi hi0 j => by rw [bR, pr j i hi hi0]
  have c4 := bo 4 (by decide) (by decide) (by decide) (by decide) (by decide) (by decide)
  have c11 := bo 11 (by decide) (by decide) (by decide) (by decide) (by decide) (by decide)
  have c12 := bo 12 (by decide) (by decide) (by decide) (by decide) (by decide) (by decide)
  have c14 := bo 14 (by decide) (by decide) (by decide) (by decide) (by decide) (by decide)
  have c16 := bo 16 (by decide) (by decide) (by decide) (by decide) (by decide) (by decide)
  have c17 := bo 17 (by decide) (by decide) (by decide) (by decide) (by decide) (by decide)
  have c18 := bo 18 (by decide) (by decide) (by decide) (by decide) (by decide) (by decide)
  have c19 := bo 19 (by decide) (by decide) (by decide) (by decide) (by decide) (by decide)
  have c20 := bo 20 (by decide) (by decide) (by decide) (by decide) (by decide) (by decide)
  have c21 := bo 21 (by decide) (by decide) (by decide) (by decide) (by decide) (by decide)
  have c7 : sI (mBring Q t (sI σ 9 (1001 + k))) 7 = upd (sI σ 7) t (nI (1001 + k)) := (bI 7 (by decide)).trans m7
  have c8 : sI (mBring Q t (sI σ 9 (1001 + k))) 8 = upd (sI σ 8) t (sI σ 6 4 + 1) := (bI 8 (by decide)).trans m8
  have c6 : sI (mBring Q t (sI σ 9 (1001 + k))) 6 = upd (sI σ 6) 4 (sI σ 6 4 + 1) := (bI 6 (by decide)).trans m6
  have e4 : ∀ c, sJ (mBring Q t (sI σ 9 (1001 + k))) c = sJ σ c := fun c => by rw [bJ]
  refine ⟨jM.cg rfl (by rw [bI 6 (by decide)]) (bI 7 (by decide)) (bI 10 (by decide)), j1.cg rfl (bI 2 (by decide)) (bI 7 (by decide)) (bI 10 (by decide)) (fun j => by rw [bb, mb]), ?_, ?_, i4.cg b0 bb (fun j => e4 _) c11 c12 (e4 13) c14, i5.cg b0 c16 c17 (br 1 (by decide) (by decide)), i6.cg b0 c12 c17 c18 (br 1 (by decide) (by decide)) (br 4 (by decide) (by decide)), i7.cg b0 c19 c20 (br 5 (by decide) (by decide)), i8.cg b0 c12 (e4 13) (e4 15) (br 2 (by decide) (by decide)), i9.cg b0 c21 (e4 22) (br 3 (by decide) (by decide)), iN.cg c4 (e4 5) (by rw [e4]) (e4 23) (by rw [e4]) (by rw [e4]) (by rw [c6, upd_n _ _ (by decide)])⟩
  · refine i2.put (by omega) h60 hk ht1 ht b0 c7 c8 (by rw [c6, upd_s]) hold h12 (fun j hj => ?_)
    rw [bR, pR]
    by_cases ej : j = k
    · rw [if_pos ej, if_pos ej]
    · rw [if_neg ej, if_neg ej]
      by_cases c : sI σ 7 t = nI (1001 + j)
      · rw [if_pos ⟨c, by omega⟩, if_pos c]
      · rw [if_neg (fun z => c z.1), if_neg c]
  · refine I3.bring (σ := σ) (σ' := Q) jM j1 (by rw [m0]; exact ok) (fun u hu h0 => ?_) w9 (fun u j hu hut hj ee => ?_) (fun j hj ee => ?_)
    · rw [m7, updA] at h0
      by_cases c : u = t
      · rw [if_pos c] at h0
        exact absurd h0 (nI1001_ne (by omega))
      · rw [if_neg c] at h0
        rw [m3, p3 u c, if_neg c]
        exact i3.1 u hu h0
    · rw [m7, upd_n _ _ hut] at ee
      rw [m0] at hj
      exact i3.2 u j hu hj ee
    · rw [m7, upd_s] at ee
      rw [m0] at hj
      have := (nI_eq (by omega) (by omega)).mp ee
      rw [show k = j by omega]
end FMI
