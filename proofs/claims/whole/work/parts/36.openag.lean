/-! the two sides' answers: open, whole -/
section STEP7
variable {σ : ST} {N : Nat}
theorem open_ag (h : Inv N σ) (hN : N < 512) (b : Int32) (q : Int64) (a c : Int32) : Ag N σ (xOpen σ b q a c) (mOpen (xOpen σ b q a c).2 b q a c) := by
  obtain ⟨hM, i1, i2, i3, i4, i5, i6, i7, i8, i9, iN⟩ := id h
  have h60 := h.n60
  cases e : recOf σ b with
  | none =>
    have ex : xOpen σ b q a c = (-11, σ) := by unfold xOpen; rw [e]
    refine Ag.no h (-11) ex ?_
    rw [ex]
    unfold mOpen
    rw [e]
  | some k =>
    obtain ⟨hk, rfl⟩ := recOf_eq h60 e
    have q4 := i4 k hk
    have epp : mayB σ k a c = pplB σ k a c := by
      unfold mayB pplB
      rw [i1.2.2 k hk, q4.2.1]
    have exX : xOpen σ (nI (1001 + k)) q a c = if sealB q = false then (-12, σ) else if personB a = false then (-12, σ) else if orPerson c = false then (-12, σ) else if sI σ 11 k = 0 then (-13, σ) else if shutInB σ (1001 + k) = true then (-13, σ) else if pplB σ k a c = false then (-13, σ) else if q = sJ σ 13 k then (1, unsealS σ k q) else (-1, noteS (unsealS σ k q) (timeS (unsealS σ k q))) := by
      unfold xOpen
      rw [e]
      show (if sealB q = false then _ else _) = _
      rw [q4.1, shut_hold hM i1 i4 (by omega), epp, q4.2.2.1]
    have exM : ∀ τ, mEq σ τ → mOpen τ (nI (1001 + k)) q a c = if sealB q = false then (-12, τ) else if personB a = false then (-12, τ) else if orPerson c = false then (-12, τ) else if sI σ 11 k = 0 then (-13, τ) else if shutInB σ (1001 + k) = true then (-13, τ) else if pplB σ k a c = false then (-13, τ) else if q = sJ σ 13 k then (1, mUns τ k q) else (-1, mNote (mUns τ k q)) := by
      intro τ hh
      unfold mOpen
      rw [hh.rec, e]
      show (if sealB q = false then _ else _) = _
      rw [hh.I 11, hh.shutIn, hh.ppl, hh.J 13]
    by_cases c1 : sealB q = false
    · rw [if_pos c1] at exX
      refine Ag.no h (-12) exX ?_
      rw [exX, exM σ (mEq.refl σ), if_pos c1]
    rw [if_neg c1] at exX
    by_cases c2 : personB a = false
    · rw [if_pos c2] at exX
      refine Ag.no h (-12) exX ?_
      rw [exX, exM σ (mEq.refl σ), if_neg c1, if_pos c2]
    rw [if_neg c2] at exX
    by_cases c3 : orPerson c = false
    · rw [if_pos c3] at exX
      refine Ag.no h (-12) exX ?_
      rw [exX, exM σ (mEq.refl σ), if_neg c1, if_neg c2, if_pos c3]
    rw [if_neg c3] at exX
    by_cases c4 : sI σ 11 k = 0
    · rw [if_pos c4] at exX
      refine Ag.no h (-13) exX ?_
      rw [exX, exM σ (mEq.refl σ), if_neg c1, if_neg c2, if_neg c3, if_pos c4]
    rw [if_neg c4] at exX
    by_cases c5 : shutInB σ (1001 + k) = true
    · rw [if_pos c5] at exX
      refine Ag.no h (-13) exX ?_
      rw [exX, exM σ (mEq.refl σ), if_neg c1, if_neg c2, if_neg c3, if_neg c4, if_pos c5]
    rw [if_neg c5] at exX
    by_cases c6 : pplB σ k a c = false
    · rw [if_pos c6] at exX
      refine Ag.no h (-13) exX ?_
      rw [exX, exM σ (mEq.refl σ), if_neg c1, if_neg c2, if_neg c3, if_neg c4, if_neg c5, if_pos c6]
    rw [if_neg c6] at exX
    have h6a : ∀ i, sI (unsealS σ k q) 6 i = sI σ 6 i := by
      intro i
      rw [unseal_I]
      simp [ev1, ev2, ev3, ev4, ev5, ev6, ev7, ev8, ev9, ev10, ev11, ev12, ev13, ev14, ev15, ev16, ev17, ev18, evr0, evr1, evr2, evr3, evr4, evr5, evr6, evr7, evr8, evr9, evr10, evr11, evr12, evr13, evr14, evr15, evr16, evr17, evr18, evr19, evr20, evr21, evr22, evr23, evs0, evs1, evs2, evs3, evs4, evs5, evs6, evs7, evs8, evs9, evs10, evs11, evs12, evs13, evs14, evs15, evs16, evs17, evs18, evs19, evs20, evs21, evs22, evs23, mNote_I, mNote_J, mNote_R, mNote_c, noteS_I, noteS_J, noteS_R, noteS_c, updA, updB, appR, remR, mPut, mShut, shutS, unseal1, mUns, mBring]
    by_cases c7 : q = sJ σ 13 k
    · rw [if_pos c7] at exX
      have hm := mEq.unseal σ k q
      rw [exX]
      show Ag N σ (1, unsealS σ k q) (mOpen (unsealS σ k q) (nI (1001 + k)) q a c)
      rw [exM _ hm, if_neg c1, if_neg c2, if_neg c3, if_neg c4, if_neg c5, if_neg c6, if_pos c7]
      refine ⟨hm, rfl, ?_⟩
      refine open_inv (S := mUns (unsealS σ k q) k q) (q := q) h hk c4 (by rw [← unseal_c σ k q]; exact id rfl) (fun _ _ _ => rfl) (fun i _ => ?_) (fun _ _ _ => rfl) (id rfl) ?_
      · rw [← h6a]
        simp [ev1, ev2, ev3, ev4, ev5, ev6, ev7, ev8, ev9, ev10, ev11, ev12, ev13, ev14, ev15, ev16, ev17, ev18, evr0, evr1, evr2, evr3, evr4, evr5, evr6, evr7, evr8, evr9, evr10, evr11, evr12, evr13, evr14, evr15, evr16, evr17, evr18, evr19, evr20, evr21, evr22, evr23, evs0, evs1, evs2, evs3, evs4, evs5, evs6, evs7, evs8, evs9, evs10, evs11, evs12, evs13, evs14, evs15, evs16, evs17, evs18, evs19, evs20, evs21, evs22, evs23, mNote_I, mNote_J, mNote_R, mNote_c, noteS_I, noteS_J, noteS_R, noteS_c, updA, updB, appR, remR, mPut, mShut, shutS, unseal1, mUns, mBring]
      · refine (iN.mono (Nat.le_succ N)).cg ?_ ?_ ?_ ?_ ?_ ?_ ?_
        all_goals simp [unseal_I, unseal_J, ev1, ev2, ev3, ev4, ev5, ev6, ev7, ev8, ev9, ev10, ev11, ev12, ev13, ev14, ev15, ev16, ev17, ev18, evr0, evr1, evr2, evr3, evr4, evr5, evr6, evr7, evr8, evr9, evr10, evr11, evr12, evr13, evr14, evr15, evr16, evr17, evr18, evr19, evr20, evr21, evr22, evr23, evs0, evs1, evs2, evs3, evs4, evs5, evs6, evs7, evs8, evs9, evs10, evs11, evs12, evs13, evs14, evs15, evs16, evs17, evs18, evs19, evs20, evs21, evs22, evs23, mNote_I, mNote_J, mNote_R, mNote_c, noteS_I, noteS_J, noteS_R, noteS_c, updA, updB, appR, remR, mPut, mShut, shutS, unseal1, mUns, mBring]
    · rw [if_neg c7] at exX
      have hm := (mEq.unseal σ k q).trans (mEq.note (unsealS σ k q) (timeS (unsealS σ k q)))
      rw [exX]
      show Ag N σ (-1, noteS (unsealS σ k q) (timeS (unsealS σ k q))) (mOpen (noteS (unsealS σ k q) (timeS (unsealS σ k q))) (nI (1001 + k)) q a c)
      rw [exM _ hm, if_neg c1, if_neg c2, if_neg c3, if_neg c4, if_neg c5, if_neg c6, if_neg c7]
      refine ⟨hm, rfl, ?_⟩
      refine open_inv (S := mNote (mUns (noteS (unsealS σ k q) (timeS (unsealS σ k q))) k q)) (q := q) h hk c4 (by rw [← unseal_c σ k q]; exact id rfl) (fun d d4 d6 => ?_) (fun i hi => ?_) (fun d d5 d23 => ?_) (id rfl) ?_
      · rw [mNote_I, if_neg d6]
        simp [d4, ev1, ev2, ev3, ev4, ev5, ev6, ev7, ev8, ev9, ev10, ev11, ev12, ev13, ev14, ev15, ev16, ev17, ev18, evr0, evr1, evr2, evr3, evr4, evr5, evr6, evr7, evr8, evr9, evr10, evr11, evr12, evr13, evr14, evr15, evr16, evr17, evr18, evr19, evr20, evr21, evr22, evr23, evs0, evs1, evs2, evs3, evs4, evs5, evs6, evs7, evs8, evs9, evs10, evs11, evs12, evs13, evs14, evs15, evs16, evs17, evs18, evs19, evs20, evs21, evs22, evs23, mNote_I, mNote_J, mNote_R, mNote_c, noteS_I, noteS_J, noteS_R, noteS_c, updA, updB, appR, remR, mPut, mShut, shutS, unseal1, mUns, mBring]
      · rw [mNote_I, if_pos rfl, upd_n _ _ hi, ← h6a]
        simp [ev1, ev2, ev3, ev4, ev5, ev6, ev7, ev8, ev9, ev10, ev11, ev12, ev13, ev14, ev15, ev16, ev17, ev18, evr0, evr1, evr2, evr3, evr4, evr5, evr6, evr7, evr8, evr9, evr10, evr11, evr12, evr13, evr14, evr15, evr16, evr17, evr18, evr19, evr20, evr21, evr22, evr23, evs0, evs1, evs2, evs3, evs4, evs5, evs6, evs7, evs8, evs9, evs10, evs11, evs12, evs13, evs14, evs15, evs16, evs17, evs18, evs19, evs20, evs21, evs22, evs23, mNote_I, mNote_J, mNote_R, mNote_c, noteS_I, noteS_J, noteS_R, noteS_c, updA, updB, appR, remR, mPut, mShut, shutS, unseal1, mUns, mBring]
      · rw [mNote_J, if_neg d23]
        simp [d5, ev1, ev2, ev3, ev4, ev5, ev6, ev7, ev8, ev9, ev10, ev11, ev12, ev13, ev14, ev15, ev16, ev17, ev18, evr0, evr1, evr2, evr3, evr4, evr5, evr6, evr7, evr8, evr9, evr10, evr11, evr12, evr13, evr14, evr15, evr16, evr17, evr18, evr19, evr20, evr21, evr22, evr23, evs0, evs1, evs2, evs3, evs4, evs5, evs6, evs7, evs8, evs9, evs10, evs11, evs12, evs13, evs14, evs15, evs16, evs17, evs18, evs19, evs20, evs21, evs22, evs23, mNote_I, mNote_J, mNote_R, mNote_c, noteS_I, noteS_J, noteS_R, noteS_c, updA, updB, appR, remR, mPut, mShut, shutS, unseal1, mUns, mBring]
      · refine iN.noteG hN ?_ ?_ ?_ ?_ ?_ ?_
        all_goals simp [unseal_I, unseal_J, timeS, ev1, ev2, ev3, ev4, ev5, ev6, ev7, ev8, ev9, ev10, ev11, ev12, ev13, ev14, ev15, ev16, ev17, ev18, evr0, evr1, evr2, evr3, evr4, evr5, evr6, evr7, evr8, evr9, evr10, evr11, evr12, evr13, evr14, evr15, evr16, evr17, evr18, evr19, evr20, evr21, evr22, evr23, evs0, evs1, evs2, evs3, evs4, evs5, evs6, evs7, evs8, evs9, evs10, evs11, evs12, evs13, evs14, evs15, evs16, evs17, evs18, evs19, evs20, evs21, evs22, evs23, mNote_I, mNote_J, mNote_R, mNote_c, noteS_I, noteS_J, noteS_R, noteS_c, updA, updB, appR, remR, mPut, mShut, shutS, unseal1, mUns, mBring]
end STEP7
