/-! the two sides' answers: weight and move -/
theorem addS {x y : Int64} (h1 : -2000000000 ≤ x.toInt) (h2 : x.toInt ≤ 2000000000) (h3 : -2000000000 ≤ y.toInt) (h4 : y.toInt ≤ 2000000000) : (x + y).toInt = x.toInt + y.toInt := by
  rw [Int64.toInt_add, Int.bmod_def]
  have e2 : (2 : Int) ^ 64 = 18446744073709551616 := rfl
  split <;> omega
theorem subS {x y : Int64} (h1 : -2000000000 ≤ x.toInt) (h2 : x.toInt ≤ 2000000000) (h3 : -2000000000 ≤ y.toInt) (h4 : y.toInt ≤ 2000000000) : (x - y).toInt = x.toInt - y.toInt := by
  rw [Int64.toInt_sub, Int.bmod_def]
  have e2 : (2 : Int) ^ 64 = 18446744073709551616 := rfl
  split <;> omega
theorem itBd : ∀ r, r < 50 → 0 ≤ (5 + 10 * (nI r).toInt64).toInt ∧ (5 + 10 * (nI r).toInt64).toInt ≤ 500 := by decide +kernel
theorem bgBd : ∀ d, d ≤ 3 → 0 ≤ (100 * (nI d).toInt64 + 100).toInt ∧ (100 * (nI d).toInt64 + 100).toInt ≤ 500 := by
  intro d hd
  rcases (show d = 0 ∨ d = 1 ∨ d = 2 ∨ d = 3 by omega) with rfl | rfl | rfl | rfl <;> decide +kernel
theorem negSub (a b : Int64) : -(a - b) = b - a := Int64.neg_sub
section STEP2
variable {σ : ST} {N : Nat}
theorem own_bd (hM : MB σ) {t : Nat} (h : okT σ.1 t) : 0 ≤ (ownM σ t).toInt ∧ (ownM σ t).toInt ≤ 500 := by
  unfold ownM
  rcases h with ⟨h1, h2⟩ | ⟨h1, h2⟩
  · rw [if_pos (by omega)]
    exact itBd _ (Nat.mod_lt _ (by decide))
  · rw [if_neg (by omega)]
    obtain ⟨d, hd, e⟩ := hM.2.2.2.1 (t - 1001) (by omega)
    rw [e]
    exact bgBd d hd
theorem mws_bd (hM : MB σ) (h1 : I1 σ) {b : Nat} (hb : okT σ.1 b) : ∀ n, n ≤ 1061 → 0 ≤ (mws σ b n).toInt ∧ (mws σ b n).toInt ≤ 500 * (n : Int) + 500 := by
  intro n
  induction n with
  | zero =>
    intro _
    have := own_bd hM hb
    rw [mws]
    omega
  | succ n ih =>
    intro hn
    have ih := ih (by omega)
    rw [mws]
    by_cases c : 1 ≤ n ∧ lieB σ n (nI b) = true
    · rw [if_pos c]
      have o := own_bd hM (lie_okT h1 (by omega) c.2)
      rw [addS (by omega) (by omega) (by omega) (by omega)]
      omega
    · rw [if_neg c]
      omega
theorem dist_eq {q W : Int64} (h1 : 0 ≤ q.toInt) (h2 : q.toInt ≤ 1000000000) (h3 : 0 ≤ W.toInt) (h4 : W.toInt ≤ 1000000) : (if 0 < q - W then q - W else -(q - W)) = if W ≤ q then q - W else W - q := by
  have e := subS (x := q) (y := W) (by omega) (by omega) (by omega) (by omega)
  have e0 : (0 : Int64).toInt = 0 := rfl
  by_cases c : W ≤ q
  · rw [if_pos c]
    by_cases c2 : 0 < q - W
    · rw [if_pos c2]
    · rw [if_neg c2, negSub]
      rw [Int64.lt_iff_toInt_lt, e, e0] at c2
      rw [Int64.le_iff_toInt_le] at c
      have e3 : q = W := Int64.toInt_inj.mp (by omega)
      rw [e3]
  · rw [if_neg c]
    rw [Int64.le_iff_toInt_le] at c
    rw [if_neg (by rw [Int64.lt_iff_toInt_lt, e, e0]; omega), negSub]
theorem weight_ag (h : Inv N σ) (hN : N < 512) (b : Int32) (q : Int64) : Ag N σ (xWeight σ b q) (mWeightF (xWeight σ b q).2 b q) := by
  obtain ⟨hM, i1, i2, i3, i4, i5, i6, i7, i8, i9, iN⟩ := id h
  cases e : recOf σ b with
  | none =>
    have ex : xWeight σ b q = (-11, σ) := by unfold xWeight; rw [e]
    refine Ag.no h (-11) ex ?_
    rw [ex]
    unfold mWeightF
    rw [e]
  | some k =>
    obtain ⟨hk, rfl⟩ := recOf_eq h.n60 e
    have h60 := h.n60
    have l9 := i9 k hk
    have ew : weS σ k = (sR σ (rc k 3)).length := by unfold weS; rw [l9.1, nI_clamp (by omega)]
    have exM : ∀ σ', mEq σ σ' → mWeightF σ' (nI (1001 + k)) q = mWeight σ' k (weS σ k) q := fun σ' hh => by unfold mWeightF; rw [hh.rec, e]; show mWeight σ' k (weS σ' k) q = _; rw [hh.wes]
    by_cases q1 : q < 0
    · have ex : xWeight σ (nI (1001 + k)) q = (-12, σ) := by unfold xWeight; rw [e]; exact if_pos q1
      refine Ag.no h (-12) ex ?_
      rw [ex, exM σ (mEq.refl σ)]
      unfold mWeight
      rw [if_pos q1]
    · by_cases q2 : q ≤ 1000000000
      · have hW : wsum σ (nI (1001 + k)) σ.1 = mws σ (1001 + k) 1061 := wsum_mws hM i1 (fun j hj => i2.2 j hj) hk
        have bd := mws_bd hM i1 (b := 1001 + k) (Or.inr ⟨by omega, by omega⟩) 1061 (Nat.le_refl _)
        have q1' : 0 ≤ q.toInt := by
          have := Int64.not_lt.mp q1
          exact Int64.le_iff_toInt_le.mp this
        have q2' : q.toInt ≤ 1000000000 := Int64.le_iff_toInt_le.mp q2
        have ed := dist_eq (q := q) (W := mws σ (1001 + k) 1061) q1' q2' bd.1 (by omega)
        by_cases c : mws σ (1001 + k) 1061 / 50 < (if mws σ (1001 + k) 1061 ≤ q then q - mws σ (1001 + k) 1061 else mws σ (1001 + k) 1061 - q)
        · have ex : xWeight σ (nI (1001 + k)) q = (0, noteS (appR σ k 3 q.toInt32) (timeS σ)) := by
            unfold xWeight
            rw [e]
            show (if q < 0 then _ else _) = _
            rw [if_neg q1, if_neg (fun z => z q2), hW, ed, if_neg (fun z => z c)]
          have hm : mEq σ (noteS (appR σ k 3 q.toInt32) (timeS σ)) := (mEq.app σ k 3 _).trans (mEq.note _ _)
          have eM : mWeightF (noteS (appR σ k 3 q.toInt32) (timeS σ)) (nI (1001 + k)) q = (0, if weS σ k < 6 then mNote (upI (upJ (noteS (appR σ k 3 q.toInt32) (timeS σ)) 22 (6 * k + weS σ k) q) 21 k (nI (weS σ k + 1))) else mNote (noteS (appR σ k 3 q.toInt32) (timeS σ))) := by
            rw [exM _ hm]
            unfold mWeight
            rw [hm.mw, if_neg q1, if_neg (fun z => z q2), if_neg (fun z => z c)]
            split <;> rfl
          rw [ex, eM]
          refine ⟨hm, rfl, ?_⟩
          by_cases c6 : weS σ k < 6
          · rw [if_pos c6]
            have er : appR σ k 3 q.toInt32 = upR σ (rc k 3) (sR σ (rc k 3) ++ [q.toInt32]) := by
              unfold appR
              rw [if_pos (by show _ < 6; omega)]
            rw [er]
            show Inv (N + 1) (mNote (upI (upJ (noteS (upR σ (rc k 3) (sR σ (rc k 3) ++ [q.toInt32])) (timeS σ)) 22 (6 * k + weS σ k) q) 21 k (nI (weS σ k + 1))))
            refine ⟨hM.cg, i1.cg, (i2.mono (Nat.le_succ N)).cg, i3.cg, i4.cg, i5.cg, i6.cg, i7.cg, i8.cg, ?_, iN.noteG hN (by simp [ev1, ev2, ev3, ev4, ev5, ev6, ev7, ev8, ev9, ev10, ev11, ev12, ev13, ev14, ev15, ev16, ev17, ev18, evr0, evr1, evr2, evr3, evr4, evr5, evr6, evr7, evr8, evr9, evr10, evr11, evr12, evr13, evr14, evr15, evr16, evr17, evr18, evr19, evr20, evr21, evr22, evr23, evs0, evs1, evs2, evs3, evs4, evs5, evs6, evs7, evs8, evs9, evs10, evs11, evs12, evs13, evs14, evs15, evs16, evs17, evs18, evs19, evs20, evs21, evs22, evs23, mNote_I, mNote_J, mNote_R, mNote_c, noteS_I, noteS_J, noteS_R, noteS_c, updA, updB, appR, remR, mPut, mShut, shutS, unseal1, mUns, mBring]) (by simp [timeS, ev1, ev2, ev3, ev4, ev5, ev6, ev7, ev8, ev9, ev10, ev11, ev12, ev13, ev14, ev15, ev16, ev17, ev18, evr0, evr1, evr2, evr3, evr4, evr5, evr6, evr7, evr8, evr9, evr10, evr11, evr12, evr13, evr14, evr15, evr16, evr17, evr18, evr19, evr20, evr21, evr22, evr23, evs0, evs1, evs2, evs3, evs4, evs5, evs6, evs7, evs8, evs9, evs10, evs11, evs12, evs13, evs14, evs15, evs16, evs17, evs18, evs19, evs20, evs21, evs22, evs23, mNote_I, mNote_J, mNote_R, mNote_c, noteS_I, noteS_J, noteS_R, noteS_c, updA, updB, appR, remR, mPut, mShut, shutS, unseal1, mUns, mBring]) (by simp [ev1, ev2, ev3, ev4, ev5, ev6, ev7, ev8, ev9, ev10, ev11, ev12, ev13, ev14, ev15, ev16, ev17, ev18, evr0, evr1, evr2, evr3, evr4, evr5, evr6, evr7, evr8, evr9, evr10, evr11, evr12, evr13, evr14, evr15, evr16, evr17, evr18, evr19, evr20, evr21, evr22, evr23, evs0, evs1, evs2, evs3, evs4, evs5, evs6, evs7, evs8, evs9, evs10, evs11, evs12, evs13, evs14, evs15, evs16, evs17, evs18, evs19, evs20, evs21, evs22, evs23, mNote_I, mNote_J, mNote_R, mNote_c, noteS_I, noteS_J, noteS_R, noteS_c, updA, updB, appR, remR, mPut, mShut, shutS, unseal1, mUns, mBring]) (by simp [ev1, ev2, ev3, ev4, ev5, ev6, ev7, ev8, ev9, ev10, ev11, ev12, ev13, ev14, ev15, ev16, ev17, ev18, evr0, evr1, evr2, evr3, evr4, evr5, evr6, evr7, evr8, evr9, evr10, evr11, evr12, evr13, evr14, evr15, evr16, evr17, evr18, evr19, evr20, evr21, evr22, evr23, evs0, evs1, evs2, evs3, evs4, evs5, evs6, evs7, evs8, evs9, evs10, evs11, evs12, evs13, evs14, evs15, evs16, evs17, evs18, evs19, evs20, evs21, evs22, evs23, mNote_I, mNote_J, mNote_R, mNote_c, noteS_I, noteS_J, noteS_R, noteS_c, updA, updB, appR, remR, mPut, mShut, shutS, unseal1, mUns, mBring]) (by simp [ev1, ev2, ev3, ev4, ev5, ev6, ev7, ev8, ev9, ev10, ev11, ev12, ev13, ev14, ev15, ev16, ev17, ev18, evr0, evr1, evr2, evr3, evr4, evr5, evr6, evr7, evr8, evr9, evr10, evr11, evr12, evr13, evr14, evr15, evr16, evr17, evr18, evr19, evr20, evr21, evr22, evr23, evs0, evs1, evs2, evs3, evs4, evs5, evs6, evs7, evs8, evs9, evs10, evs11, evs12, evs13, evs14, evs15, evs16, evs17, evs18, evs19, evs20, evs21, evs22, evs23, mNote_I, mNote_J, mNote_R, mNote_c, noteS_I, noteS_J, noteS_R, noteS_c, updA, updB, appR, remR, mPut, mShut, shutS, unseal1, mUns, mBring]) (by simp [ev1, ev2, ev3, ev4, ev5, ev6, ev7, ev8, ev9, ev10, ev11, ev12, ev13, ev14, ev15, ev16, ev17, ev18, evr0, evr1, evr2, evr3, evr4, evr5, evr6, evr7, evr8, evr9, evr10, evr11, evr12, evr13, evr14, evr15, evr16, evr17, evr18, evr19, evr20, evr21, evr22, evr23, evs0, evs1, evs2, evs3, evs4, evs5, evs6, evs7, evs8, evs9, evs10, evs11, evs12, evs13, evs14, evs15, evs16, evs17, evs18, evs19, evs20, evs21, evs22, evs23, mNote_I, mNote_J, mNote_R, mNote_c, noteS_I, noteS_J, noteS_R, noteS_c, updA, updB, appR, remR, mPut, mShut, shutS, unseal1, mUns, mBring])⟩
            have g21 : sI (mNote (upI (upJ (noteS (upR σ (rc k 3) (sR σ (rc k 3) ++ [q.toInt32])) (timeS σ)) 22 (6 * k + weS σ k) q) 21 k (nI (weS σ k + 1)))) 21 = upd (sI σ 21) k (nI (weS σ k + 1)) := by simp [ev1, ev2, ev3, ev4, ev5, ev6, ev7, ev8, ev9, ev10, ev11, ev12, ev13, ev14, ev15, ev16, ev17, ev18, evr0, evr1, evr2, evr3, evr4, evr5, evr6, evr7, evr8, evr9, evr10, evr11, evr12, evr13, evr14, evr15, evr16, evr17, evr18, evr19, evr20, evr21, evr22, evr23, evs0, evs1, evs2, evs3, evs4, evs5, evs6, evs7, evs8, evs9, evs10, evs11, evs12, evs13, evs14, evs15, evs16, evs17, evs18, evs19, evs20, evs21, evs22, evs23, mNote_I, mNote_J, mNote_R, mNote_c, noteS_I, noteS_J, noteS_R, noteS_c, updA, updB, appR, remR, mPut, mShut, shutS, unseal1, mUns, mBring]
            have g22 : sJ (mNote (upI (upJ (noteS (upR σ (rc k 3) (sR σ (rc k 3) ++ [q.toInt32])) (timeS σ)) 22 (6 * k + weS σ k) q) 21 k (nI (weS σ k + 1)))) 22 = vp_updL (sJ σ 22) (6 * k + weS σ k) q := by simp [ev1, ev2, ev3, ev4, ev5, ev6, ev7, ev8, ev9, ev10, ev11, ev12, ev13, ev14, ev15, ev16, ev17, ev18, evr0, evr1, evr2, evr3, evr4, evr5, evr6, evr7, evr8, evr9, evr10, evr11, evr12, evr13, evr14, evr15, evr16, evr17, evr18, evr19, evr20, evr21, evr22, evr23, evs0, evs1, evs2, evs3, evs4, evs5, evs6, evs7, evs8, evs9, evs10, evs11, evs12, evs13, evs14, evs15, evs16, evs17, evs18, evs19, evs20, evs21, evs22, evs23, mNote_I, mNote_J, mNote_R, mNote_c, noteS_I, noteS_J, noteS_R, noteS_c, updA, updB, appR, remR, mPut, mShut, shutS, unseal1, mUns, mBring]
            have gR : ∀ j, sR (mNote (upI (upJ (noteS (upR σ (rc k 3) (sR σ (rc k 3) ++ [q.toInt32])) (timeS σ)) 22 (6 * k + weS σ k) q) 21 k (nI (weS σ k + 1)))) (rc j 3) = if j = k then sR σ (rc k 3) ++ [q.toInt32] else sR σ (rc j 3) := by intro j; simp [ev1, ev2, ev3, ev4, ev5, ev6, ev7, ev8, ev9, ev10, ev11, ev12, ev13, ev14, ev15, ev16, ev17, ev18, evr0, evr1, evr2, evr3, evr4, evr5, evr6, evr7, evr8, evr9, evr10, evr11, evr12, evr13, evr14, evr15, evr16, evr17, evr18, evr19, evr20, evr21, evr22, evr23, evs0, evs1, evs2, evs3, evs4, evs5, evs6, evs7, evs8, evs9, evs10, evs11, evs12, evs13, evs14, evs15, evs16, evs17, evs18, evs19, evs20, evs21, evs22, evs23, mNote_I, mNote_J, mNote_R, mNote_c, noteS_I, noteS_J, noteS_R, noteS_c, updA, updB, appR, remR, mPut, mShut, shutS, unseal1, mUns, mBring]
            intro j hj
            have hj : j < σ.1 := hj
            rw [g21, g22, gR]
            by_cases ej : j = k
            · subst ej
              rw [if_pos rfl, upd_s, List.length_append, List.length_singleton, ew]
              refine ⟨rfl, by omega, fun i hi => ?_⟩
              by_cases ei : i = (sR σ (rc j 3)).length
              · rw [ei, updL_s, List.getD_eq_getElem?_getD, List.getElem?_append_right (Nat.le_refl _), Nat.sub_self]
                rfl
              · rw [updL_n _ _ (by omega), l9.2.2 i (by omega), List.getD_eq_getElem?_getD, List.getD_eq_getElem?_getD, List.getElem?_append_left (by omega)]
            · have l9j := i9 j hj
              rw [if_neg ej, upd_n _ _ ej]
              refine ⟨l9j.1, l9j.2.1, fun i hi => ?_⟩
              rw [updL_n _ _ (by omega)]
              exact l9j.2.2 i hi
          · rw [if_neg c6]
            have er : appR σ k 3 q.toInt32 = σ := by
              unfold appR
              rw [if_neg (by show ¬ _ < 6; omega), upR_self]
            rw [er]
            exact ⟨hM.cg, i1.cg, (i2.mono (Nat.le_succ N)).cg, i3.cg, i4.cg, i5.cg, i6.cg, i7.cg, i8.cg, i9.cg, iN.note hN⟩
        · have ex : xWeight σ (nI (1001 + k)) q = (1, σ) := by
            unfold xWeight
            rw [e]
            show (if q < 0 then _ else _) = _
            rw [if_neg q1, if_neg (fun z => z q2), hW, ed, if_pos c]
          refine Ag.no h 1 ex ?_
          rw [ex, exM σ (mEq.refl σ)]
          unfold mWeight
          rw [if_neg q1, if_neg (fun z => z q2), if_pos c]
      · have ex : xWeight σ (nI (1001 + k)) q = (-12, σ) := by
          unfold xWeight
          rw [e]
          show (if q < 0 then _ else _) = _
          rw [if_neg q1, if_pos q2]
        refine Ag.no h (-12) ex ?_
        rw [ex, exM σ (mEq.refl σ)]
        unfold mWeight
        rw [if_neg q1, if_pos q2]
theorem setOwn_nI {t : Nat} (ht : t < 1061) (w : Int32) : setOwnF σ (nI t) w = upI σ 3 t w := by
  unfold setOwnF
  rw [if_neg (nI_pos (by omega)), if_neg (nI_ge ht (by omega)), nI_clamp (by omega)]
theorem setHold_nI {t : Nat} (ht : t < 1061) (w : Int32) : setHoldF σ (nI t) w = upI σ 2 t w := by
  unfold setHoldF
  rw [if_neg (nI_pos (by omega)), if_neg (nI_ge ht (by omega)), nI_clamp (by omega)]
/-- the places, when what is tn with all in it comes to w -/
theorem I3.bring {σ' : ST} (hM : MB σ') (h1 : I1 σ') {tn : Nat} {w : Int32} (htn : okT σ'.1 tn) (g1 : ∀ t, t < 1061 → sI σ' 7 t = 0 → sI σ' 3 t = if t = tn then w else sI σ 9 t) (g9 : sI σ' 9 = sI σ 9) (g2 : ∀ t k, t < 1061 → t ≠ tn → k < σ'.1 → sI σ' 7 t = nI (1001 + k) → sI σ 9 t = sI σ 9 (1001 + k)) (g3 : ∀ k, k < σ'.1 → sI σ' 7 tn = nI (1001 + k) → w = sI σ 9 (1001 + k)) : I3 (mBring σ' tn w) := by
  have h60 := hM.2.1
  have e7 : sI (mBring σ' tn w) 7 = sI σ' 7 := by simp [ev1, ev2, ev3, ev4, ev5, ev6, ev7, ev8, ev9, ev10, ev11, ev12, ev13, ev14, ev15, ev16, ev17, ev18, evr0, evr1, evr2, evr3, evr4, evr5, evr6, evr7, evr8, evr9, evr10, evr11, evr12, evr13, evr14, evr15, evr16, evr17, evr18, evr19, evr20, evr21, evr22, evr23, evs0, evs1, evs2, evs3, evs4, evs5, evs6, evs7, evs8, evs9, evs10, evs11, evs12, evs13, evs14, evs15, evs16, evs17, evs18, evs19, evs20, evs21, evs22, evs23, mNote_I, mNote_J, mNote_R, mNote_c, noteS_I, noteS_J, noteS_R, noteS_c, updA, updB, appR, remR, mPut, mShut, shutS, unseal1, mUns, mBring]
  have e3 : sI (mBring σ' tn w) 3 = sI σ' 3 := by simp [ev1, ev2, ev3, ev4, ev5, ev6, ev7, ev8, ev9, ev10, ev11, ev12, ev13, ev14, ev15, ev16, ev17, ev18, evr0, evr1, evr2, evr3, evr4, evr5, evr6, evr7, evr8, evr9, evr10, evr11, evr12, evr13, evr14, evr15, evr16, evr17, evr18, evr19, evr20, evr21, evr22, evr23, evs0, evs1, evs2, evs3, evs4, evs5, evs6, evs7, evs8, evs9, evs10, evs11, evs12, evs13, evs14, evs15, evs16, evs17, evs18, evs19, evs20, evs21, evs22, evs23, mNote_I, mNote_J, mNote_R, mNote_c, noteS_I, noteS_J, noteS_R, noteS_c, updA, updB, appR, remR, mPut, mShut, shutS, unseal1, mUns, mBring]
  have e9 : sI (mBring σ' tn w) 9 = brP σ' tn w 1061 := by simp [ev1, ev2, ev3, ev4, ev5, ev6, ev7, ev8, ev9, ev10, ev11, ev12, ev13, ev14, ev15, ev16, ev17, ev18, evr0, evr1, evr2, evr3, evr4, evr5, evr6, evr7, evr8, evr9, evr10, evr11, evr12, evr13, evr14, evr15, evr16, evr17, evr18, evr19, evr20, evr21, evr22, evr23, evs0, evs1, evs2, evs3, evs4, evs5, evs6, evs7, evs8, evs9, evs10, evs11, evs12, evs13, evs14, evs15, evs16, evs17, evs18, evs19, evs20, evs21, evs22, evs23, mNote_I, mNote_J, mNote_R, mNote_c, noteS_I, noteS_J, noteS_R, noteS_c, updA, updB, appR, remR, mPut, mShut, shutS, unseal1, mUns, mBring]
  have br : ∀ t, t < 1061 → brP σ' tn w 1061 t = if t = tn ∨ lieB σ' t (nI tn) = true then w else sI σ 9 t := by
    intro t ht
    unfold brP brC
    rw [g9]
    by_cases c : t = tn ∨ lieB σ' t (nI tn) = true
    · rw [if_pos c, if_pos]
      have ok : okT σ'.1 t := by
        rcases c with c | c
        · rw [c]; exact htn
        · exact lie_okT h1 ht c
      refine ⟨by unfold okT at ok; omega, ht, ?_⟩
      rw [okT_thing h60 ok, Bool.true_and]
      rcases c with c | c
      · rw [decide_eq_true c]; rfl
      · rw [c, Bool.or_true]
    · rw [if_neg c, if_neg]
      rintro ⟨-, -, z⟩
      rw [Bool.and_eq_true, Bool.or_eq_true] at z
      rcases z.2 with z | z
      · exact c (Or.inl (of_decide_eq_true z))
      · exact c (Or.inr z)
  have hlie : ∀ t k, t < 1061 → k < σ'.1 → sI σ' 7 t = nI (1001 + k) → (lieB σ' t (nI tn) = true ↔ 1001 + k = tn ∨ lieB σ' (1001 + k) (nI tn) = true) := by
    intro t k ht hk e
    have htn0 : ¬ nI tn = 0 := by
      rw [nI_eq0 (by unfold okT at htn; omega)]
      unfold okT at htn
      omega
    rw [lie_with hM h1 ht htn0, lie_with hM h1 (by omega) htn0, e]
    unfold withinB
    rw [withF, if_neg (nI1001_ne (by omega)), holdF_nI h1 (by omega)]
    have e61 : withF σ' (nI tn) 60 (sI σ' 7 (1001 + k)) = withF σ' (nI tn) 61 (sI σ' 7 (1001 + k)) := by
      rw [with_mem hM h1 htn0 4 60 _ (by omega) (hM.start (by omega)), with_mem hM h1 htn0 4 61 _ (by omega) (hM.start (by omega))]
    by_cases c : 1001 + k = tn
    · rw [if_pos (by rw [c])]
      exact ⟨fun _ => Or.inl c, fun _ => rfl⟩
    · rw [if_neg (fun z => c ((nI_eq (by omega) (by unfold okT at htn; omega)).mp z)), e61]
      exact ⟨fun z => Or.inr z, fun z => z.resolve_left c⟩
  unfold I3
  rw [e7, e3, e9]
  refine ⟨fun t ht h0 => ?_, fun t k ht hk e => ?_⟩
  · rw [br t ht, g1 t ht h0]
    by_cases c : t = tn
    · rw [if_pos c, if_pos (Or.inl c)]
    · rw [if_neg c, if_neg]
      rintro (z | z)
      · exact c z
      · exact lie_hold z h0
  · have hk : k < σ'.1 := hk
    rw [br t ht, br (1001 + k) (by omega)]
    have hl := hlie t k ht hk e
    by_cases c : t = tn
    · subst c
      rw [if_pos (Or.inl rfl)]
      by_cases c2 : 1001 + k = t ∨ lieB σ' (1001 + k) (nI t) = true
      · rw [if_pos c2]
      · rw [if_neg c2]
        exact g3 k hk e
    · by_cases c2 : lieB σ' t (nI tn) = true
      · rw [if_pos (Or.inr c2), if_pos (hl.mp c2)]
      · rw [if_neg (fun z => z.elim c c2), if_neg (fun z => c2 (hl.mpr z))]
        exact g2 t k ht c hk e
theorem move_ag (h : Inv N σ) (b w : Int32) : Ag N σ (xMove σ b w) (mMove (xMove σ b w).2 b w) := by
  obtain ⟨hM, i1, i2, i3, i4, i5, i6, i7, i8, i9, iN⟩ := id h
  have h60 := h.n60
  cases e : recOf σ b with
  | none =>
    have ex : xMove σ b w = (-11, σ) := by unfold xMove; rw [e]
    refine Ag.no h (-11) ex ?_
    rw [ex]
    unfold mMove
    rw [e]
  | some k =>
    obtain ⟨hk, rfl⟩ := recOf_eq h60 e
    have exX : xMove σ (nI (1001 + k)) w = if w < 0 then (-12, σ) else if ¬ w ≤ 9 then (-12, σ) else if sI σ (rb k) 1 = 0 then (-13, σ) else if ¬ holdF σ (nI (1001 + k)) = 0 then (-13, σ) else (csum (setOwnF σ (nI (1001 + k)) w) (nI (1001 + k)) σ.1, setOwnF σ (nI (1001 + k)) w) := by unfold xMove; rw [e]
    have exM : ∀ σ', mEq σ σ' → mMove σ' (nI (1001 + k)) w = if w < 0 then (-12, σ') else if ¬ w ≤ 9 then (-12, σ') else if sI σ 11 k = 0 then (-13, σ') else if ¬ sI σ 7 (1001 + k) = 0 then (-13, σ') else (nI (brN σ (1001 + k) 1061), mBring σ' (1001 + k) w) := fun σ' hh => by
      unfold mMove
      rw [hh.rec, e]
      show (if w < 0 then _ else _) = _
      rw [hh.I 11, hh.I 7, hh.brn]
    have e1 : sI σ (rb k) 1 = sI σ 11 k := (i4 k hk).1
    rw [e1, holdF_nI i1 (by omega), setOwn_nI (by omega)] at exX
    by_cases c1 : w < 0
    · rw [if_pos c1] at exX
      refine Ag.no h (-12) exX ?_
      rw [exX, exM σ (mEq.refl σ), if_pos c1]
    rw [if_neg c1] at exX
    by_cases c2 : w ≤ 9
    rotate_left
    · rw [if_pos c2] at exX
      refine Ag.no h (-12) exX ?_
      rw [exX, exM σ (mEq.refl σ), if_neg c1, if_pos c2]
    rw [if_neg (fun z => z c2)] at exX
    by_cases c3 : sI σ 11 k = 0
    · rw [if_pos c3] at exX
      refine Ag.no h (-13) exX ?_
      rw [exX, exM σ (mEq.refl σ), if_neg c1, if_neg (fun z => z c2), if_pos c3]
    rw [if_neg c3] at exX
    by_cases c4 : sI σ 7 (1001 + k) = 0
    rotate_left
    · rw [if_pos c4] at exX
      refine Ag.no h (-13) exX ?_
      rw [exX, exM σ (mEq.refl σ), if_neg c1, if_neg (fun z => z c2), if_neg c3, if_pos c4]
    rw [if_neg (fun z => z c4)] at exX
    have hm : mEq σ (upI σ 3 (1001 + k) w) := mEq.upI σ _ _ (Or.inl (by decide))
    rw [exX]
    show Ag N σ (csum (upI σ 3 (1001 + k) w) (nI (1001 + k)) σ.1, upI σ 3 (1001 + k) w) (mMove (upI σ 3 (1001 + k) w) (nI (1001 + k)) w)
    rw [exM _ hm, if_neg c1, if_neg (fun z => z c2), if_neg c3, if_neg (fun z => z c4)]
    have j1 : I1 (upI σ 3 (1001 + k) w) := i1.cg
    have jM : MB (upI σ 3 (1001 + k) w) := hm.mb hM
    refine ⟨hm, ?_, ?_⟩
    · have q := csum_brN (σ := upI σ 3 (1001 + k) w) jM j1 (fun j hj => hm.row (i2.2 j hj)) hk
      rw [hm.brn] at q
      exact q
    · show Inv (N + 1) (mBring (upI σ 3 (1001 + k) w) (1001 + k) w)
      refine ⟨hM.cg, i1.cg, (i2.mono (Nat.le_succ N)).cg, ?_, i4.cg, i5.cg, i6.cg, i7.cg, i8.cg, i9.cg, (iN.mono (Nat.le_succ N)).cg⟩
      have e7 : sI (upI σ 3 (1001 + k) w) 7 = sI σ 7 := by simp [ev1, ev2, ev3, ev4, ev5, ev6, ev7, ev8, ev9, ev10, ev11, ev12, ev13, ev14, ev15, ev16, ev17, ev18, evr0, evr1, evr2, evr3, evr4, evr5, evr6, evr7, evr8, evr9, evr10, evr11, evr12, evr13, evr14, evr15, evr16, evr17, evr18, evr19, evr20, evr21, evr22, evr23, evs0, evs1, evs2, evs3, evs4, evs5, evs6, evs7, evs8, evs9, evs10, evs11, evs12, evs13, evs14, evs15, evs16, evs17, evs18, evs19, evs20, evs21, evs22, evs23, mNote_I, mNote_J, mNote_R, mNote_c, noteS_I, noteS_J, noteS_R, noteS_c, updA, updB, appR, remR, mPut, mShut, shutS, unseal1, mUns, mBring]
      have e3 : sI (upI σ 3 (1001 + k) w) 3 = upd (sI σ 3) (1001 + k) w := by simp [ev1, ev2, ev3, ev4, ev5, ev6, ev7, ev8, ev9, ev10, ev11, ev12, ev13, ev14, ev15, ev16, ev17, ev18, evr0, evr1, evr2, evr3, evr4, evr5, evr6, evr7, evr8, evr9, evr10, evr11, evr12, evr13, evr14, evr15, evr16, evr17, evr18, evr19, evr20, evr21, evr22, evr23, evs0, evs1, evs2, evs3, evs4, evs5, evs6, evs7, evs8, evs9, evs10, evs11, evs12, evs13, evs14, evs15, evs16, evs17, evs18, evs19, evs20, evs21, evs22, evs23, mNote_I, mNote_J, mNote_R, mNote_c, noteS_I, noteS_J, noteS_R, noteS_c, updA, updB, appR, remR, mPut, mShut, shutS, unseal1, mUns, mBring]
      have e9 : sI (upI σ 3 (1001 + k) w) 9 = sI σ 9 := by simp [ev1, ev2, ev3, ev4, ev5, ev6, ev7, ev8, ev9, ev10, ev11, ev12, ev13, ev14, ev15, ev16, ev17, ev18, evr0, evr1, evr2, evr3, evr4, evr5, evr6, evr7, evr8, evr9, evr10, evr11, evr12, evr13, evr14, evr15, evr16, evr17, evr18, evr19, evr20, evr21, evr22, evr23, evs0, evs1, evs2, evs3, evs4, evs5, evs6, evs7, evs8, evs9, evs10, evs11, evs12, evs13, evs14, evs15, evs16, evs17, evs18, evs19, evs20, evs21, evs22, evs23, mNote_I, mNote_J, mNote_R, mNote_c, noteS_I, noteS_J, noteS_R, noteS_c, updA, updB, appR, remR, mPut, mShut, shutS, unseal1, mUns, mBring]
      refine I3.bring (σ := σ) (σ' := upI σ 3 (1001 + k) w) jM j1 (Or.inr ⟨by omega, by show _ < 1001 + σ.1; omega⟩) ?_ e9 ?_ ?_
      · intro t ht h0
        rw [e7] at h0
        rw [e3]
        by_cases ct : t = 1001 + k
        · rw [ct, upd_s, if_pos rfl]
        · rw [upd_n _ _ ct, if_neg ct]
          exact i3.1 t ht h0
      · intro t j ht _ hj ee
        rw [e7] at ee
        exact i3.2 t j ht hj ee
      · intro j hj ee
        rw [e7, c4] at ee
        exact absurd ee.symm (nI1001_ne (by have : j < σ.1 := hj; omega))
end STEP2
