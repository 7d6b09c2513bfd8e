/-! the two sides' answers: open -/
section STEP6
variable {σ σ' : ST} {N : Nat}
theorem unseal_I (σ : ST) (k : Nat) (q : Int64) : sI (unsealS σ k q) = sI (upI σ (rb k) 1 0) := by
  unfold unsealS
  split <;> exact id rfl
theorem unseal_J (σ : ST) (k : Nat) (q : Int64) : sJ (unsealS σ k q) = sJ σ := by
  unfold unsealS
  split <;> exact id rfl
theorem unseal_c (σ : ST) (k : Nat) (q : Int64) : (unsealS σ k q).1 = σ.1 := by
  unfold unsealS
  split <;> exact id rfl
theorem unseal_R {j i : Nat} (σ : ST) (k : Nat) (q : Int64) (hi : i < 6) : sR (unsealS σ k q) (rc j i) = if j = k ∧ i = 2 then (if q = sJ σ (rb k) 3 then [] else [q.toInt32]) else if j = k ∧ i = 4 then sR σ (rc k 1) else if j = k ∧ i = 5 then [] else sR σ (rc j i) := by
  have f : sR (unseal1 σ k) (rc j i) = if j = k ∧ i = 5 then [] else if j = k ∧ i = 4 then sR σ (rc k 1) else if j = k ∧ i = 2 then [] else sR σ (rc j i) := by
    unfold unseal1
    rw [ev3, ev3, ev3, ev8]
    simp only [ev18 (j := i) (j2 := 5) j k hi (by decide), ev18 (j := i) (j2 := 4) j k hi (by decide), ev18 (j := i) (j2 := 2) j k hi (by decide)]
  have g : sR (upR (unseal1 σ k) (rc k 2) [q.toInt32]) (rc j i) = if j = k ∧ i = 2 then [q.toInt32] else sR (unseal1 σ k) (rc j i) := by
    rw [ev3]
    simp only [ev18 (j := i) (j2 := 2) j k hi (by decide)]
  unfold unsealS
  by_cases c : q = sJ σ (rb k) 3
  · rw [if_pos c, if_pos c, f]
    by_cases ej : j = k
    · rcases (show i = 0 ∨ i = 1 ∨ i = 2 ∨ i = 3 ∨ i = 4 ∨ i = 5 by omega) with rfl | rfl | rfl | rfl | rfl | rfl <;> simp [ej]
    · simp [ej]
  · rw [if_neg c, if_neg c, g, f]
    by_cases ej : j = k
    · rcases (show i = 0 ∨ i = 1 ∨ i = 2 ∨ i = 3 ∨ i = 4 ∨ i = 5 by omega) with rfl | rfl | rfl | rfl | rfl | rfl <;> simp [ej]
    · simp [ej]
/-- all of the invariant but the notes, after an opening -/
theorem open_inv (h : Inv N σ) {k : Nat} (hk : k < σ.1) (hcl : ¬ sI σ 11 k = 0) {q : Int64} {S : ST} (e0 : S.1 = σ.1) (hI : ∀ c, c ≠ 4 → c ≠ 6 → sI S c = sI (mUns (unsealS σ k q) k q) c) (h6 : ∀ i, i ≠ 21 → sI S 6 i = sI σ 6 i) (hJ : ∀ c, c ≠ 5 → c ≠ 23 → sJ S c = sJ (mUns (unsealS σ k q) k q) c) (hR : sR S = sR (unsealS σ k q)) (hN : IN (N + 1) S) : Inv (N + 1) S := by
  obtain ⟨hM, i1, i2, i3, i4, i5, i6, i7, i8, i9, iN⟩ := id h
  have h60 := h.n60
  have same : ∀ c, c < 24 → c ≠ 4 → c ≠ 6 → c ≠ 11 → c ≠ 12 → c ≠ 18 → c ≠ 19 → sI S c = sI σ c := by
    intro c a1 a2 a3 a4 a5 a6 a7
    rw [hI c a2 a3]
    have : ¬ c = rb k := by unfold rb; omega
    simp [unseal_I, this, a4, a5, a6, a7, ev1, ev2, ev3, ev4, ev5, ev6, ev7, ev8, ev9, ev10, ev11, ev12, ev13, ev14, ev15, ev16, ev17, ev18, evr0, evr1, evr2, evr3, evr4, evr5, evr6, evr7, evr8, evr9, evr10, evr11, evr12, evr13, evr14, evr15, evr16, evr17, evr18, evr19, evr20, evr21, evr22, evr23, evs0, evs1, evs2, evs3, evs4, evs5, evs6, evs7, evs8, evs9, evs10, evs11, evs12, evs13, evs14, evs15, evs16, evs17, evs18, evs19, evs20, evs21, evs22, evs23, mNote_I, mNote_J, mNote_R, mNote_c, noteS_I, noteS_J, noteS_R, noteS_c, updA, updB, appR, remR, mPut, mShut, shutS, unseal1, mUns, mBring]
  have a11 : sI S 11 = upd (sI σ 11) k 0 := by rw [hI 11 (by decide) (by decide)]; simp [unseal_I, ev1, ev2, ev3, ev4, ev5, ev6, ev7, ev8, ev9, ev10, ev11, ev12, ev13, ev14, ev15, ev16, ev17, ev18, evr0, evr1, evr2, evr3, evr4, evr5, evr6, evr7, evr8, evr9, evr10, evr11, evr12, evr13, evr14, evr15, evr16, evr17, evr18, evr19, evr20, evr21, evr22, evr23, evs0, evs1, evs2, evs3, evs4, evs5, evs6, evs7, evs8, evs9, evs10, evs11, evs12, evs13, evs14, evs15, evs16, evs17, evs18, evs19, evs20, evs21, evs22, evs23, mNote_I, mNote_J, mNote_R, mNote_c, noteS_I, noteS_J, noteS_R, noteS_c, updA, updB, appR, remR, mPut, mShut, shutS, unseal1, mUns, mBring]
  have a12 : sI S 12 = upd (sI σ 12) k 1 := by rw [hI 12 (by decide) (by decide)]; simp [unseal_I, ev1, ev2, ev3, ev4, ev5, ev6, ev7, ev8, ev9, ev10, ev11, ev12, ev13, ev14, ev15, ev16, ev17, ev18, evr0, evr1, evr2, evr3, evr4, evr5, evr6, evr7, evr8, evr9, evr10, evr11, evr12, evr13, evr14, evr15, evr16, evr17, evr18, evr19, evr20, evr21, evr22, evr23, evs0, evs1, evs2, evs3, evs4, evs5, evs6, evs7, evs8, evs9, evs10, evs11, evs12, evs13, evs14, evs15, evs16, evs17, evs18, evs19, evs20, evs21, evs22, evs23, mNote_I, mNote_J, mNote_R, mNote_c, noteS_I, noteS_J, noteS_R, noteS_c, updA, updB, appR, remR, mPut, mShut, shutS, unseal1, mUns, mBring]
  have a18 : ∀ x, sI S 18 x = if 12 * k ≤ x ∧ x < 12 * k + 12 then 0 else sI σ 18 x := by
    intro x
    rw [hI 18 (by decide) (by decide)]
    simp [unseal_I, ev1, ev2, ev3, ev4, ev5, ev6, ev7, ev8, ev9, ev10, ev11, ev12, ev13, ev14, ev15, ev16, ev17, ev18, evr0, evr1, evr2, evr3, evr4, evr5, evr6, evr7, evr8, evr9, evr10, evr11, evr12, evr13, evr14, evr15, evr16, evr17, evr18, evr19, evr20, evr21, evr22, evr23, evs0, evs1, evs2, evs3, evs4, evs5, evs6, evs7, evs8, evs9, evs10, evs11, evs12, evs13, evs14, evs15, evs16, evs17, evs18, evs19, evs20, evs21, evs22, evs23, mNote_I, mNote_J, mNote_R, mNote_c, noteS_I, noteS_J, noteS_R, noteS_c, updA, updB, appR, remR, mPut, mShut, shutS, unseal1, mUns, mBring]
  have a19 : sI S 19 = upd (sI σ 19) k 0 := by rw [hI 19 (by decide) (by decide)]; simp [unseal_I, ev1, ev2, ev3, ev4, ev5, ev6, ev7, ev8, ev9, ev10, ev11, ev12, ev13, ev14, ev15, ev16, ev17, ev18, evr0, evr1, evr2, evr3, evr4, evr5, evr6, evr7, evr8, evr9, evr10, evr11, evr12, evr13, evr14, evr15, evr16, evr17, evr18, evr19, evr20, evr21, evr22, evr23, evs0, evs1, evs2, evs3, evs4, evs5, evs6, evs7, evs8, evs9, evs10, evs11, evs12, evs13, evs14, evs15, evs16, evs17, evs18, evs19, evs20, evs21, evs22, evs23, mNote_I, mNote_J, mNote_R, mNote_c, noteS_I, noteS_J, noteS_R, noteS_c, updA, updB, appR, remR, mPut, mShut, shutS, unseal1, mUns, mBring]
  have a15 : sJ S 15 = vp_updL (sJ σ 15) k q := by rw [hJ 15 (by decide) (by decide)]; simp [unseal_J, ev1, ev2, ev3, ev4, ev5, ev6, ev7, ev8, ev9, ev10, ev11, ev12, ev13, ev14, ev15, ev16, ev17, ev18, evr0, evr1, evr2, evr3, evr4, evr5, evr6, evr7, evr8, evr9, evr10, evr11, evr12, evr13, evr14, evr15, evr16, evr17, evr18, evr19, evr20, evr21, evr22, evr23, evs0, evs1, evs2, evs3, evs4, evs5, evs6, evs7, evs8, evs9, evs10, evs11, evs12, evs13, evs14, evs15, evs16, evs17, evs18, evs19, evs20, evs21, evs22, evs23, mNote_I, mNote_J, mNote_R, mNote_c, noteS_I, noteS_J, noteS_R, noteS_c, updA, updB, appR, remR, mPut, mShut, shutS, unseal1, mUns, mBring]
  have a13 : sJ S 13 = sJ σ 13 := by rw [hJ 13 (by decide) (by decide)]; simp [unseal_J, ev1, ev2, ev3, ev4, ev5, ev6, ev7, ev8, ev9, ev10, ev11, ev12, ev13, ev14, ev15, ev16, ev17, ev18, evr0, evr1, evr2, evr3, evr4, evr5, evr6, evr7, evr8, evr9, evr10, evr11, evr12, evr13, evr14, evr15, evr16, evr17, evr18, evr19, evr20, evr21, evr22, evr23, evs0, evs1, evs2, evs3, evs4, evs5, evs6, evs7, evs8, evs9, evs10, evs11, evs12, evs13, evs14, evs15, evs16, evs17, evs18, evs19, evs20, evs21, evs22, evs23, mNote_I, mNote_J, mNote_R, mNote_c, noteS_I, noteS_J, noteS_R, noteS_c, updA, updB, appR, remR, mPut, mShut, shutS, unseal1, mUns, mBring]
  have a22 : sJ S 22 = sJ σ 22 := by rw [hJ 22 (by decide) (by decide)]; simp [unseal_J, ev1, ev2, ev3, ev4, ev5, ev6, ev7, ev8, ev9, ev10, ev11, ev12, ev13, ev14, ev15, ev16, ev17, ev18, evr0, evr1, evr2, evr3, evr4, evr5, evr6, evr7, evr8, evr9, evr10, evr11, evr12, evr13, evr14, evr15, evr16, evr17, evr18, evr19, evr20, evr21, evr22, evr23, evs0, evs1, evs2, evs3, evs4, evs5, evs6, evs7, evs8, evs9, evs10, evs11, evs12, evs13, evs14, evs15, evs16, evs17, evs18, evs19, evs20, evs21, evs22, evs23, mNote_I, mNote_J, mNote_R, mNote_c, noteS_I, noteS_J, noteS_R, noteS_c, updA, updB, appR, remR, mPut, mShut, shutS, unseal1, mUns, mBring]
  have b3 : ∀ j, sJ S (rb j) = sJ σ (rb j) := by
    intro j
    rw [hJ (rb j) (by unfold rb; omega) (by unfold rb; omega)]
    simp [unseal_J, ev1, ev2, ev3, ev4, ev5, ev6, ev7, ev8, ev9, ev10, ev11, ev12, ev13, ev14, ev15, ev16, ev17, ev18, evr0, evr1, evr2, evr3, evr4, evr5, evr6, evr7, evr8, evr9, evr10, evr11, evr12, evr13, evr14, evr15, evr16, evr17, evr18, evr19, evr20, evr21, evr22, evr23, evs0, evs1, evs2, evs3, evs4, evs5, evs6, evs7, evs8, evs9, evs10, evs11, evs12, evs13, evs14, evs15, evs16, evs17, evs18, evs19, evs20, evs21, evs22, evs23, mNote_I, mNote_J, mNote_R, mNote_c, noteS_I, noteS_J, noteS_R, noteS_c, updA, updB, appR, remR, mPut, mShut, shutS, unseal1, mUns, mBring]
  have b1 : ∀ j, sI S (rb j) = if j = k then upd (sI σ (rb k)) 1 0 else sI σ (rb j) := by
    intro j
    rw [hI (rb j) (by unfold rb; omega) (by unfold rb; omega)]
    by_cases ej : j = k
    · rw [ej, if_pos rfl]
      simp [unseal_I, ev1, ev2, ev3, ev4, ev5, ev6, ev7, ev8, ev9, ev10, ev11, ev12, ev13, ev14, ev15, ev16, ev17, ev18, evr0, evr1, evr2, evr3, evr4, evr5, evr6, evr7, evr8, evr9, evr10, evr11, evr12, evr13, evr14, evr15, evr16, evr17, evr18, evr19, evr20, evr21, evr22, evr23, evs0, evs1, evs2, evs3, evs4, evs5, evs6, evs7, evs8, evs9, evs10, evs11, evs12, evs13, evs14, evs15, evs16, evs17, evs18, evs19, evs20, evs21, evs22, evs23, mNote_I, mNote_J, mNote_R, mNote_c, noteS_I, noteS_J, noteS_R, noteS_c, updA, updB, appR, remR, mPut, mShut, shutS, unseal1, mUns, mBring]
    · rw [if_neg ej]
      simp [unseal_I, ej, ev1, ev2, ev3, ev4, ev5, ev6, ev7, ev8, ev9, ev10, ev11, ev12, ev13, ev14, ev15, ev16, ev17, ev18, evr0, evr1, evr2, evr3, evr4, evr5, evr6, evr7, evr8, evr9, evr10, evr11, evr12, evr13, evr14, evr15, evr16, evr17, evr18, evr19, evr20, evr21, evr22, evr23, evs0, evs1, evs2, evs3, evs4, evs5, evs6, evs7, evs8, evs9, evs10, evs11, evs12, evs13, evs14, evs15, evs16, evs17, evs18, evs19, evs20, evs21, evs22, evs23, mNote_I, mNote_J, mNote_R, mNote_c, noteS_I, noteS_J, noteS_R, noteS_c, updA, updB, appR, remR, mPut, mShut, shutS, unseal1, mUns, mBring]
  have r : ∀ j i, i < 6 → sR S (rc j i) = if j = k ∧ i = 2 then (if q = sJ σ (rb k) 3 then [] else [q.toInt32]) else if j = k ∧ i = 4 then sR σ (rc k 1) else if j = k ∧ i = 5 then [] else sR σ (rc j i) := by
    intro j i hi
    rw [hR]
    exact unseal_R σ k q hi
  have rr : ∀ j i, i < 6 → i ≠ 2 → i ≠ 4 → i ≠ 5 → sR S (rc j i) = sR σ (rc j i) := by
    intro j i hi n2 n4 n5
    rw [r j i hi, if_neg (fun z => n2 z.2), if_neg (fun z => n4 z.2), if_neg (fun z => n5 z.2)]
  have rn : ∀ j i, i < 6 → j ≠ k → sR S (rc j i) = sR σ (rc j i) := by
    intro j i hi nj
    rw [r j i hi, if_neg (fun z => nj z.1), if_neg (fun z => nj z.1), if_neg (fun z => nj z.1)]
  have s7 := same 7 (by decide) (by decide) (by decide) (by decide) (by decide) (by decide) (by decide)
  have s8 := same 8 (by decide) (by decide) (by decide) (by decide) (by decide) (by decide) (by decide)
  have s10 := same 10 (by decide) (by decide) (by decide) (by decide) (by decide) (by decide) (by decide)
  have s2 := same 2 (by decide) (by decide) (by decide) (by decide) (by decide) (by decide) (by decide)
  have s3 := same 3 (by decide) (by decide) (by decide) (by decide) (by decide) (by decide) (by decide)
  have s9 := same 9 (by decide) (by decide) (by decide) (by decide) (by decide) (by decide) (by decide)
  have s14 := same 14 (by decide) (by decide) (by decide) (by decide) (by decide) (by decide) (by decide)
  have s16 := same 16 (by decide) (by decide) (by decide) (by decide) (by decide) (by decide) (by decide)
  have s17 := same 17 (by decide) (by decide) (by decide) (by decide) (by decide) (by decide) (by decide)
  have s20 := same 20 (by decide) (by decide) (by decide) (by decide) (by decide) (by decide) (by decide)
  have s21 := same 21 (by decide) (by decide) (by decide) (by decide) (by decide) (by decide) (by decide)
  refine ⟨hM.cg e0 (h6 5 (by decide)) s7 s10, i1.cg e0 s2 s7 s10 (fun j => ?_), (i2.mono (Nat.le_succ N)).cg e0 (h6 4 (by decide)) s7 s8 (fun j => rr j 0 (by decide) (by decide) (by decide) (by decide)), i3.cg e0 s3 s7 s9, ?_, i5.cg e0 s16 s17 (fun j => rr j 1 (by decide) (by decide) (by decide) (by decide)), ?_, ?_, ?_, i9.cg e0 s21 a22 (fun j => rr j 3 (by decide) (by decide) (by decide) (by decide)), hN⟩
  · rw [b1]
    by_cases ej : j = k
    · rw [if_pos ej, ej, upd_n _ _ (by decide)]
    · rw [if_neg ej]
  · intro j hj
    rw [e0] at hj
    have q4 := i4 j hj
    unfold checkedB
    rw [a11, a12, a13, s14, b1, b3]
    by_cases ej : j = k
    · rw [ej] at q4 ⊢
      have hev := q4.2.2.2.2 hcl
      rw [if_pos rfl, upd_s, upd_s, upd_s, upd_n _ _ (by decide : 4 ≠ 1), upd_n _ _ (by decide : 2 ≠ 1)]
      exact ⟨rfl, q4.2.1, q4.2.2.1, by rw [decide_eq_false hev]; decide, fun z => absurd rfl z⟩
    · rw [if_neg ej, upd_n _ _ ej, upd_n _ _ ej]
      exact q4
  · intro j hj hc
    rw [e0] at hj
    rw [rr j 1 (by decide) (by decide) (by decide) (by decide)]
    by_cases ej : j = k
    · rw [ej, r k 4 (by decide), if_neg (fun z => absurd z.2 (by decide)), if_pos ⟨rfl, rfl⟩]
      have q5 := i5 k hk
      rw [misL_all (σ := S) (l := sR σ (rc k 1)) (fun i hi => by rw [s17]; exact q5.2.2.2 i hi) (fun i hi => by rw [a18, if_pos (by omega)]) _ (Nat.le_refl _), List.take_length]
    · rw [a12, upd_n _ _ ej] at hc
      rw [rn j 4 (by decide) ej, i6 j hj hc]
      have q5 := i5 j hj
      refine (misL_pt (fun i hi => by rw [s17]) (fun i hi => ?_)).symm
      rw [a18, if_neg (by omega)]
  · intro j hj
    rw [e0] at hj
    by_cases ej : j = k
    · rw [ej, a19, upd_s, r k 5 (by decide), if_neg (fun z => absurd z.2 (by decide)), if_neg (fun z => absurd z.2 (by decide)), if_pos ⟨rfl, rfl⟩]
      exact ⟨rfl, Nat.zero_le _, fun i hi => absurd hi (Nat.not_lt_zero i)⟩
    · rw [a19, upd_n _ _ ej, rn j 5 (by decide) ej, s20]
      exact i7 j hj
  · intro j hj hc
    rw [e0] at hj
    by_cases ej : j = k
    · rw [ej, r k 2 (by decide), if_pos ⟨rfl, rfl⟩, a15, a13, updL_s, (i4 k hk).2.2.1]
    · rw [a12, upd_n _ _ ej] at hc
      rw [rn j 2 (by decide) ej, a15, a13, updL_n _ _ ej]
      exact i8 j hj hc
end STEP6
