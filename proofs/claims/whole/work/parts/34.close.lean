/-! the two sides' answers: close -/
section STEP5
variable {σ σ' : ST} {N : Nat}
theorem misL_pt {k n : Nat} (h17 : ∀ i, i < n → sI σ' 17 (12 * k + i) = sI σ 17 (12 * k + i)) (h18 : ∀ i, i < n → sI σ' 18 (12 * k + i) = sI σ 18 (12 * k + i)) : misL σ' k n = misL σ k n := by
  induction n with
  | zero => rfl
  | succ n ih => rw [misL, misL, ih (fun i hi => h17 i (by omega)) (fun i hi => h18 i (by omega)), h17 n (by omega), h18 n (by omega)]
theorem misL_all {k : Nat} {l : List Int32} (h17 : ∀ i, i < l.length → sI σ 17 (12 * k + i) = l.getD i 0) (h18 : ∀ i, i < l.length → sI σ 18 (12 * k + i) = 0) : ∀ n, n ≤ l.length → misL σ k n = l.take n := by
  intro n
  induction n with
  | zero => intro _; rfl
  | succ n ih =>
    intro hn
    rw [misL, if_pos (h18 n (by omega)), ih (by omega), h17 n (by omega), List.take_add_one, List.getD_eq_getElem?_getD, List.getElem?_eq_getElem (by omega)]
    rfl
theorem lstP_in (σ : ST) (k : Nat) (l : List Int32) {i : Nat} (hi : i < l.length) : lstP σ k l (12 * k + i) = l.getD i 0 := by
  unfold lstP
  rw [if_pos (by omega), show 12 * k + i - 12 * k = i by omega]
theorem lstP_out (σ : ST) {k j i : Nat} {l : List Int32} (hl : l.length ≤ 12) (hi : i < 12) (hj : j ≠ k) : lstP σ k l (12 * j + i) = sI σ 17 (12 * j + i) := by
  unfold lstP
  rw [if_neg (by omega)]
theorem close_ag (h : Inv N σ) (b : Int32) (q : Int64) (w : Int32) (l : List Int32) (hl : ∀ k, recOf σ b = some k → l = sR σ (rc k 0)) : Ag N σ (xClose σ b q w) (mClose (xClose σ b q w).2 l b q w) := by
  obtain ⟨hM, i1, i2, i3, i4, i5, i6, i7, i8, i9, iN⟩ := id h
  have h60 := h.n60
  cases e : recOf σ b with
  | none =>
    have ex : xClose σ b q w = (-11, σ) := by unfold xClose; rw [e]
    refine Ag.no h (-11) ex ?_
    rw [ex]
    unfold mClose
    rw [e]
  | some k =>
    have hl2 := hl k e
    obtain ⟨hk, rfl⟩ := recOf_eq h60 e
    have exX : xClose σ (nI (1001 + k)) q w = if sealB q = false then (-12, σ) else if personB w = false then (-12, σ) else if (!decide (sI σ 11 k = 0) || shutInB σ (1001 + k)) = true then (-13, σ) else (nI (sR (shutS σ k q w) (rc k 1)).length, shutS σ k q w) := by
      unfold xClose
      rw [e]
      show (if sealB q = false then _ else _) = _
      rw [shut_bag hM i1 i4 hk]
    have exM : ∀ τ, mEq σ τ → mClose τ l (nI (1001 + k)) q w = if sealB q = false then (-12, τ) else if personB w = false then (-12, τ) else if ¬ sI σ 11 k = 0 then (-13, τ) else if shutInB σ (1001 + k) = true then (-13, τ) else (nI l.length, upI (upA (mShut τ k q w) 17 (lstP σ k l)) 16 k (nI l.length)) := by
      intro τ hh
      unfold mClose
      rw [hh.rec, e]
      show (if sealB q = false then _ else _) = _
      have elp : lstP τ k l = lstP σ k l := by unfold lstP; rw [hh.I 17]
      rw [hh.I 11, hh.shutIn, elp]
    by_cases c1 : sealB q = false
    · rw [if_pos c1] at exX
      refine Ag.no h (-12) exX ?_
      rw [exX, exM σ (mEq.refl σ), if_pos c1]
    rw [if_neg c1] at exX
    by_cases c2 : personB w = false
    · rw [if_pos c2] at exX
      refine Ag.no h (-12) exX ?_
      rw [exX, exM σ (mEq.refl σ), if_neg c1, if_pos c2]
    rw [if_neg c2] at exX
    by_cases c3 : sI σ 11 k = 0
    rotate_left
    · have ex : xClose σ (nI (1001 + k)) q w = (-13, σ) := by rw [exX, if_pos (by rw [decide_eq_false c3]; rfl)]
      refine Ag.no h (-13) ex ?_
      rw [ex, exM σ (mEq.refl σ), if_neg c1, if_neg c2, if_pos c3]
    by_cases c4 : shutInB σ (1001 + k) = true
    · have ex : xClose σ (nI (1001 + k)) q w = (-13, σ) := by rw [exX, if_pos (by rw [c4, Bool.or_true])]
      refine Ag.no h (-13) ex ?_
      rw [ex, exM σ (mEq.refl σ), if_neg c1, if_neg c2, if_neg (fun z => z c3), if_pos c4]
    have c34 : ¬ (!decide (sI σ 11 k = 0) || shutInB σ (1001 + k)) = true := by
      rw [decide_eq_true c3]
      intro z
      rw [Bool.or_eq_true] at z
      exact z.elim (fun z => absurd z (by decide)) c4
    rw [if_neg c34] at exX
    have hm := mEq.shut σ k q w
    rw [exX]
    show Ag N σ (nI (sR (shutS σ k q w) (rc k 1)).length, shutS σ k q w) (mClose (shutS σ k q w) l (nI (1001 + k)) q w)
    rw [exM _ hm, if_neg c1, if_neg c2, if_neg (fun z => z c3), if_neg c4]
    have rk := i2.2 k hk
    have ll : l.length ≤ 12 := by rw [hl2]; exact rk.1
    have g1 : sR (shutS σ k q w) (rc k 1) = l := by rw [hl2]; simp [ev1, ev2, ev3, ev4, ev5, ev6, ev7, ev8, ev9, ev10, ev11, ev12, ev13, ev14, ev15, ev16, ev17, ev18, evr0, evr1, evr2, evr3, evr4, evr5, evr6, evr7, evr8, evr9, evr10, evr11, evr12, evr13, evr14, evr15, evr16, evr17, evr18, evr19, evr20, evr21, evr22, evr23, evs0, evs1, evs2, evs3, evs4, evs5, evs6, evs7, evs8, evs9, evs10, evs11, evs12, evs13, evs14, evs15, evs16, evs17, evs18, evs19, evs20, evs21, evs22, evs23, mNote_I, mNote_J, mNote_R, mNote_c, noteS_I, noteS_J, noteS_R, noteS_c, updA, updB, appR, remR, mPut, mShut, shutS, unseal1, mUns, mBring]
    refine ⟨hm, by rw [g1], ?_⟩
    show Inv (N + 1) (upI (upA (mShut (shutS σ k q w) k q w) 17 (lstP σ k l)) 16 k (nI l.length))
    generalize hp : lstP σ k l = pf
    generalize hn : nI l.length = nl
    have a17 : sI (upI (upA (mShut (shutS σ k q w) k q w) 17 pf) 16 k nl) 17 = pf := by simp [ev1, ev2, ev3, ev4, ev5, ev6, ev7, ev8, ev9, ev10, ev11, ev12, ev13, ev14, ev15, ev16, ev17, ev18, evr0, evr1, evr2, evr3, evr4, evr5, evr6, evr7, evr8, evr9, evr10, evr11, evr12, evr13, evr14, evr15, evr16, evr17, evr18, evr19, evr20, evr21, evr22, evr23, evs0, evs1, evs2, evs3, evs4, evs5, evs6, evs7, evs8, evs9, evs10, evs11, evs12, evs13, evs14, evs15, evs16, evs17, evs18, evs19, evs20, evs21, evs22, evs23, mNote_I, mNote_J, mNote_R, mNote_c, noteS_I, noteS_J, noteS_R, noteS_c, updA, updB, appR, remR, mPut, mShut, shutS, unseal1, mUns, mBring]
    have a16 : sI (upI (upA (mShut (shutS σ k q w) k q w) 17 pf) 16 k nl) 16 = upd (sI σ 16) k nl := by simp [ev1, ev2, ev3, ev4, ev5, ev6, ev7, ev8, ev9, ev10, ev11, ev12, ev13, ev14, ev15, ev16, ev17, ev18, evr0, evr1, evr2, evr3, evr4, evr5, evr6, evr7, evr8, evr9, evr10, evr11, evr12, evr13, evr14, evr15, evr16, evr17, evr18, evr19, evr20, evr21, evr22, evr23, evs0, evs1, evs2, evs3, evs4, evs5, evs6, evs7, evs8, evs9, evs10, evs11, evs12, evs13, evs14, evs15, evs16, evs17, evs18, evs19, evs20, evs21, evs22, evs23, mNote_I, mNote_J, mNote_R, mNote_c, noteS_I, noteS_J, noteS_R, noteS_c, updA, updB, appR, remR, mPut, mShut, shutS, unseal1, mUns, mBring]
    have a11 : sI (upI (upA (mShut (shutS σ k q w) k q w) 17 pf) 16 k nl) 11 = upd (sI σ 11) k 1 := by simp [ev1, ev2, ev3, ev4, ev5, ev6, ev7, ev8, ev9, ev10, ev11, ev12, ev13, ev14, ev15, ev16, ev17, ev18, evr0, evr1, evr2, evr3, evr4, evr5, evr6, evr7, evr8, evr9, evr10, evr11, evr12, evr13, evr14, evr15, evr16, evr17, evr18, evr19, evr20, evr21, evr22, evr23, evs0, evs1, evs2, evs3, evs4, evs5, evs6, evs7, evs8, evs9, evs10, evs11, evs12, evs13, evs14, evs15, evs16, evs17, evs18, evs19, evs20, evs21, evs22, evs23, mNote_I, mNote_J, mNote_R, mNote_c, noteS_I, noteS_J, noteS_R, noteS_c, updA, updB, appR, remR, mPut, mShut, shutS, unseal1, mUns, mBring]
    have a12 : sI (upI (upA (mShut (shutS σ k q w) k q w) 17 pf) 16 k nl) 12 = upd (sI σ 12) k 0 := by simp [ev1, ev2, ev3, ev4, ev5, ev6, ev7, ev8, ev9, ev10, ev11, ev12, ev13, ev14, ev15, ev16, ev17, ev18, evr0, evr1, evr2, evr3, evr4, evr5, evr6, evr7, evr8, evr9, evr10, evr11, evr12, evr13, evr14, evr15, evr16, evr17, evr18, evr19, evr20, evr21, evr22, evr23, evs0, evs1, evs2, evs3, evs4, evs5, evs6, evs7, evs8, evs9, evs10, evs11, evs12, evs13, evs14, evs15, evs16, evs17, evs18, evs19, evs20, evs21, evs22, evs23, mNote_I, mNote_J, mNote_R, mNote_c, noteS_I, noteS_J, noteS_R, noteS_c, updA, updB, appR, remR, mPut, mShut, shutS, unseal1, mUns, mBring]
    have a13 : sJ (upI (upA (mShut (shutS σ k q w) k q w) 17 pf) 16 k nl) 13 = vp_updL (sJ σ 13) k q := by simp [ev1, ev2, ev3, ev4, ev5, ev6, ev7, ev8, ev9, ev10, ev11, ev12, ev13, ev14, ev15, ev16, ev17, ev18, evr0, evr1, evr2, evr3, evr4, evr5, evr6, evr7, evr8, evr9, evr10, evr11, evr12, evr13, evr14, evr15, evr16, evr17, evr18, evr19, evr20, evr21, evr22, evr23, evs0, evs1, evs2, evs3, evs4, evs5, evs6, evs7, evs8, evs9, evs10, evs11, evs12, evs13, evs14, evs15, evs16, evs17, evs18, evs19, evs20, evs21, evs22, evs23, mNote_I, mNote_J, mNote_R, mNote_c, noteS_I, noteS_J, noteS_R, noteS_c, updA, updB, appR, remR, mPut, mShut, shutS, unseal1, mUns, mBring]
    have a14 : sI (upI (upA (mShut (shutS σ k q w) k q w) 17 pf) 16 k nl) 14 = upd (sI σ 14) k w := by simp [ev1, ev2, ev3, ev4, ev5, ev6, ev7, ev8, ev9, ev10, ev11, ev12, ev13, ev14, ev15, ev16, ev17, ev18, evr0, evr1, evr2, evr3, evr4, evr5, evr6, evr7, evr8, evr9, evr10, evr11, evr12, evr13, evr14, evr15, evr16, evr17, evr18, evr19, evr20, evr21, evr22, evr23, evs0, evs1, evs2, evs3, evs4, evs5, evs6, evs7, evs8, evs9, evs10, evs11, evs12, evs13, evs14, evs15, evs16, evs17, evs18, evs19, evs20, evs21, evs22, evs23, mNote_I, mNote_J, mNote_R, mNote_c, noteS_I, noteS_J, noteS_R, noteS_c, updA, updB, appR, remR, mPut, mShut, shutS, unseal1, mUns, mBring]
    have a15 : sJ (upI (upA (mShut (shutS σ k q w) k q w) 17 pf) 16 k nl) 15 = sJ σ 15 := by simp [ev1, ev2, ev3, ev4, ev5, ev6, ev7, ev8, ev9, ev10, ev11, ev12, ev13, ev14, ev15, ev16, ev17, ev18, evr0, evr1, evr2, evr3, evr4, evr5, evr6, evr7, evr8, evr9, evr10, evr11, evr12, evr13, evr14, evr15, evr16, evr17, evr18, evr19, evr20, evr21, evr22, evr23, evs0, evs1, evs2, evs3, evs4, evs5, evs6, evs7, evs8, evs9, evs10, evs11, evs12, evs13, evs14, evs15, evs16, evs17, evs18, evs19, evs20, evs21, evs22, evs23, mNote_I, mNote_J, mNote_R, mNote_c, noteS_I, noteS_J, noteS_R, noteS_c, updA, updB, appR, remR, mPut, mShut, shutS, unseal1, mUns, mBring]
    have a18 : sI (upI (upA (mShut (shutS σ k q w) k q w) 17 pf) 16 k nl) 18 = sI σ 18 := by simp [ev1, ev2, ev3, ev4, ev5, ev6, ev7, ev8, ev9, ev10, ev11, ev12, ev13, ev14, ev15, ev16, ev17, ev18, evr0, evr1, evr2, evr3, evr4, evr5, evr6, evr7, evr8, evr9, evr10, evr11, evr12, evr13, evr14, evr15, evr16, evr17, evr18, evr19, evr20, evr21, evr22, evr23, evs0, evs1, evs2, evs3, evs4, evs5, evs6, evs7, evs8, evs9, evs10, evs11, evs12, evs13, evs14, evs15, evs16, evs17, evs18, evs19, evs20, evs21, evs22, evs23, mNote_I, mNote_J, mNote_R, mNote_c, noteS_I, noteS_J, noteS_R, noteS_c, updA, updB, appR, remR, mPut, mShut, shutS, unseal1, mUns, mBring]
    have a21 : sI (upI (upA (mShut (shutS σ k q w) k q w) 17 pf) 16 k nl) 21 = upd (sI σ 21) k 0 := by simp [ev1, ev2, ev3, ev4, ev5, ev6, ev7, ev8, ev9, ev10, ev11, ev12, ev13, ev14, ev15, ev16, ev17, ev18, evr0, evr1, evr2, evr3, evr4, evr5, evr6, evr7, evr8, evr9, evr10, evr11, evr12, evr13, evr14, evr15, evr16, evr17, evr18, evr19, evr20, evr21, evr22, evr23, evs0, evs1, evs2, evs3, evs4, evs5, evs6, evs7, evs8, evs9, evs10, evs11, evs12, evs13, evs14, evs15, evs16, evs17, evs18, evs19, evs20, evs21, evs22, evs23, mNote_I, mNote_J, mNote_R, mNote_c, noteS_I, noteS_J, noteS_R, noteS_c, updA, updB, appR, remR, mPut, mShut, shutS, unseal1, mUns, mBring]
    have a22 : sJ (upI (upA (mShut (shutS σ k q w) k q w) 17 pf) 16 k nl) 22 = sJ σ 22 := by simp [ev1, ev2, ev3, ev4, ev5, ev6, ev7, ev8, ev9, ev10, ev11, ev12, ev13, ev14, ev15, ev16, ev17, ev18, evr0, evr1, evr2, evr3, evr4, evr5, evr6, evr7, evr8, evr9, evr10, evr11, evr12, evr13, evr14, evr15, evr16, evr17, evr18, evr19, evr20, evr21, evr22, evr23, evs0, evs1, evs2, evs3, evs4, evs5, evs6, evs7, evs8, evs9, evs10, evs11, evs12, evs13, evs14, evs15, evs16, evs17, evs18, evs19, evs20, evs21, evs22, evs23, mNote_I, mNote_J, mNote_R, mNote_c, noteS_I, noteS_J, noteS_R, noteS_c, updA, updB, appR, remR, mPut, mShut, shutS, unseal1, mUns, mBring]
    have b1 : ∀ j, sI (upI (upA (mShut (shutS σ k q w) k q w) 17 pf) 16 k nl) (rb j) = if j = k then upd (upd (upd (sI σ (rb k)) 1 1) 2 1) 4 w else sI σ (rb j) := by
      intro j
      by_cases ej : j = k
      · rw [ej, if_pos rfl]
        simp [ev1, ev2, ev3, ev4, ev5, ev6, ev7, ev8, ev9, ev10, ev11, ev12, ev13, ev14, ev15, ev16, ev17, ev18, evr0, evr1, evr2, evr3, evr4, evr5, evr6, evr7, evr8, evr9, evr10, evr11, evr12, evr13, evr14, evr15, evr16, evr17, evr18, evr19, evr20, evr21, evr22, evr23, evs0, evs1, evs2, evs3, evs4, evs5, evs6, evs7, evs8, evs9, evs10, evs11, evs12, evs13, evs14, evs15, evs16, evs17, evs18, evs19, evs20, evs21, evs22, evs23, mNote_I, mNote_J, mNote_R, mNote_c, noteS_I, noteS_J, noteS_R, noteS_c, updA, updB, appR, remR, mPut, mShut, shutS, unseal1, mUns, mBring]
      · rw [if_neg ej]
        simp [ej, ev1, ev2, ev3, ev4, ev5, ev6, ev7, ev8, ev9, ev10, ev11, ev12, ev13, ev14, ev15, ev16, ev17, ev18, evr0, evr1, evr2, evr3, evr4, evr5, evr6, evr7, evr8, evr9, evr10, evr11, evr12, evr13, evr14, evr15, evr16, evr17, evr18, evr19, evr20, evr21, evr22, evr23, evs0, evs1, evs2, evs3, evs4, evs5, evs6, evs7, evs8, evs9, evs10, evs11, evs12, evs13, evs14, evs15, evs16, evs17, evs18, evs19, evs20, evs21, evs22, evs23, mNote_I, mNote_J, mNote_R, mNote_c, noteS_I, noteS_J, noteS_R, noteS_c, updA, updB, appR, remR, mPut, mShut, shutS, unseal1, mUns, mBring]
    have b3 : ∀ j, sJ (upI (upA (mShut (shutS σ k q w) k q w) 17 pf) 16 k nl) (rb j) = if j = k then vp_updL (sJ σ (rb k)) 3 q else sJ σ (rb j) := by intro j; simp [ev1, ev2, ev3, ev4, ev5, ev6, ev7, ev8, ev9, ev10, ev11, ev12, ev13, ev14, ev15, ev16, ev17, ev18, evr0, evr1, evr2, evr3, evr4, evr5, evr6, evr7, evr8, evr9, evr10, evr11, evr12, evr13, evr14, evr15, evr16, evr17, evr18, evr19, evr20, evr21, evr22, evr23, evs0, evs1, evs2, evs3, evs4, evs5, evs6, evs7, evs8, evs9, evs10, evs11, evs12, evs13, evs14, evs15, evs16, evs17, evs18, evs19, evs20, evs21, evs22, evs23, mNote_I, mNote_J, mNote_R, mNote_c, noteS_I, noteS_J, noteS_R, noteS_c, updA, updB, appR, remR, mPut, mShut, shutS, unseal1, mUns, mBring]
    have r1 : ∀ j, sR (upI (upA (mShut (shutS σ k q w) k q w) 17 pf) 16 k nl) (rc j 1) = if j = k then sR σ (rc k 0) else sR σ (rc j 1) := by intro j; simp [ev1, ev2, ev3, ev4, ev5, ev6, ev7, ev8, ev9, ev10, ev11, ev12, ev13, ev14, ev15, ev16, ev17, ev18, evr0, evr1, evr2, evr3, evr4, evr5, evr6, evr7, evr8, evr9, evr10, evr11, evr12, evr13, evr14, evr15, evr16, evr17, evr18, evr19, evr20, evr21, evr22, evr23, evs0, evs1, evs2, evs3, evs4, evs5, evs6, evs7, evs8, evs9, evs10, evs11, evs12, evs13, evs14, evs15, evs16, evs17, evs18, evs19, evs20, evs21, evs22, evs23, mNote_I, mNote_J, mNote_R, mNote_c, noteS_I, noteS_J, noteS_R, noteS_c, updA, updB, appR, remR, mPut, mShut, shutS, unseal1, mUns, mBring]
    have r2 : ∀ j, sR (upI (upA (mShut (shutS σ k q w) k q w) 17 pf) 16 k nl) (rc j 2) = sR σ (rc j 2) := by intro j; simp [ev1, ev2, ev3, ev4, ev5, ev6, ev7, ev8, ev9, ev10, ev11, ev12, ev13, ev14, ev15, ev16, ev17, ev18, evr0, evr1, evr2, evr3, evr4, evr5, evr6, evr7, evr8, evr9, evr10, evr11, evr12, evr13, evr14, evr15, evr16, evr17, evr18, evr19, evr20, evr21, evr22, evr23, evs0, evs1, evs2, evs3, evs4, evs5, evs6, evs7, evs8, evs9, evs10, evs11, evs12, evs13, evs14, evs15, evs16, evs17, evs18, evs19, evs20, evs21, evs22, evs23, mNote_I, mNote_J, mNote_R, mNote_c, noteS_I, noteS_J, noteS_R, noteS_c, updA, updB, appR, remR, mPut, mShut, shutS, unseal1, mUns, mBring]
    have r3 : ∀ j, sR (upI (upA (mShut (shutS σ k q w) k q w) 17 pf) 16 k nl) (rc j 3) = if j = k then [] else sR σ (rc j 3) := by intro j; simp [ev1, ev2, ev3, ev4, ev5, ev6, ev7, ev8, ev9, ev10, ev11, ev12, ev13, ev14, ev15, ev16, ev17, ev18, evr0, evr1, evr2, evr3, evr4, evr5, evr6, evr7, evr8, evr9, evr10, evr11, evr12, evr13, evr14, evr15, evr16, evr17, evr18, evr19, evr20, evr21, evr22, evr23, evs0, evs1, evs2, evs3, evs4, evs5, evs6, evs7, evs8, evs9, evs10, evs11, evs12, evs13, evs14, evs15, evs16, evs17, evs18, evs19, evs20, evs21, evs22, evs23, mNote_I, mNote_J, mNote_R, mNote_c, noteS_I, noteS_J, noteS_R, noteS_c, updA, updB, appR, remR, mPut, mShut, shutS, unseal1, mUns, mBring]
    have r4 : ∀ j, sR (upI (upA (mShut (shutS σ k q w) k q w) 17 pf) 16 k nl) (rc j 4) = sR σ (rc j 4) := by intro j; simp [ev1, ev2, ev3, ev4, ev5, ev6, ev7, ev8, ev9, ev10, ev11, ev12, ev13, ev14, ev15, ev16, ev17, ev18, evr0, evr1, evr2, evr3, evr4, evr5, evr6, evr7, evr8, evr9, evr10, evr11, evr12, evr13, evr14, evr15, evr16, evr17, evr18, evr19, evr20, evr21, evr22, evr23, evs0, evs1, evs2, evs3, evs4, evs5, evs6, evs7, evs8, evs9, evs10, evs11, evs12, evs13, evs14, evs15, evs16, evs17, evs18, evs19, evs20, evs21, evs22, evs23, mNote_I, mNote_J, mNote_R, mNote_c, noteS_I, noteS_J, noteS_R, noteS_c, updA, updB, appR, remR, mPut, mShut, shutS, unseal1, mUns, mBring]
    refine ⟨hM.cg, i1.cg (er := fun j => ?_), (i2.mono (Nat.le_succ N)).cg, i3.cg, ?_, ?_, ?_, i7.cg, ?_, ?_, (iN.mono (Nat.le_succ N)).cg⟩
    · rw [b1]
      by_cases ej : j = k
      · rw [if_pos ej, ej, upd_n _ _ (by decide), upd_n _ _ (by decide), upd_n _ _ (by decide)]
      · rw [if_neg ej]
    · intro j hj
      have hj : j < σ.1 := hj
      have q4 := i4 j hj
      unfold checkedB
      rw [a11, a12, a13, a14, b1, b3]
      by_cases ej : j = k
      · rw [if_pos ej, if_pos ej, ej, upd_s, upd_s, upd_s, upd_s, updL_s, updL_s, upd_n _ _ (by decide : 1 ≠ 4), upd_n _ _ (by decide : 1 ≠ 2), upd_s, upd_n _ _ (by decide : 2 ≠ 4), upd_s]
        exact ⟨rfl, rfl, rfl, by decide, fun _ => by decide⟩
      · rw [if_neg ej, if_neg ej, upd_n _ _ ej, upd_n _ _ ej, upd_n _ _ ej, updL_n _ _ ej]
        exact q4
    · intro j hj
      have hj : j < σ.1 := hj
      rw [a16, a17, r1]
      by_cases ej : j = k
      · rw [if_pos ej, ej, upd_s, ← hn, ← hl2]
        refine ⟨rfl, ll, by rw [hl2]; exact rk.nodup, fun i hi => ?_⟩
        rw [← hp]
        exact lstP_in σ k l hi
      · rw [if_neg ej, upd_n _ _ ej]
        have q5 := i5 j hj
        refine ⟨q5.1, q5.2.1, q5.2.2.1, fun i hi => ?_⟩
        rw [← hp, lstP_out σ ll (by omega) ej]
        exact q5.2.2.2 i hi
    · intro j hj hc
      have hj : j < σ.1 := hj
      rw [a12] at hc
      by_cases ej : j = k
      · rw [ej, upd_s] at hc
        exact absurd rfl hc
      · rw [upd_n _ _ ej] at hc
        rw [r4, r1, if_neg ej, i6 j hj hc]
        have q5 := i5 j hj
        refine (misL_pt (fun i hi => ?_) (fun i hi => ?_)).symm
        · rw [a17, ← hp]
          exact lstP_out σ ll (by omega) ej
        · rw [a18]
    · intro j hj hc
      have hj : j < σ.1 := hj
      rw [a12] at hc
      by_cases ej : j = k
      · rw [ej, upd_s] at hc
        exact absurd rfl hc
      · rw [upd_n _ _ ej] at hc
        rw [r2, a15, a13, updL_n _ _ ej]
        exact i8 j hj hc
    · intro j hj
      have hj : j < σ.1 := hj
      rw [a21, a22, r3]
      by_cases ej : j = k
      · rw [if_pos ej, ej, upd_s]
        exact ⟨rfl, Nat.zero_le _, fun i hi => absurd hi (Nat.not_lt_zero i)⟩
      · rw [if_neg ej, upd_n _ _ ej]
        exact i9 j hj
end STEP5
