/-! the two sides' answers: found -/
section FAG
variable {σ : ST} {N : Nat}
theorem found_ag (h : Inv N σ) (hN : N < 512) (b x : Int32) : Ag N σ (xFound σ b x) (mFoundF (xFound σ b x).2 b x) := by
  obtain ⟨hM, i1, i2, i3, i4, i5, i6, i7, i8, i9, iN⟩ := id h
  have h60 := h.n60
  cases e : recOf σ b with
  | none =>
    have ex : xFound σ b x = (-11, σ) := by unfold xFound; rw [e]
    refine Ag.no h (-11) ex ?_
    rw [ex]
    unfold mFoundF
    rw [e]
  | some k =>
    obtain ⟨hk, rfl⟩ := recOf_eq h60 e
    by_cases c0 : thingB σ x = false
    · have ex : xFound σ (nI (1001 + k)) x = (-11, σ) := by unfold xFound; rw [e]; exact if_pos c0
      refine Ag.no h (-11) ex ?_
      rw [ex]
      unfold mFoundF
      rw [e]
      exact if_pos c0
    have c0' : thingB σ x = true := by
      cases e9 : thingB σ x with
      | true => rfl
      | false => exact absurd e9 c0
    obtain ⟨t, ok, ht, ht1, rfl⟩ := thing_okT h60 c0'
    have ekb : mkF σ (nI (1001 + k)) = sI σ 10 k := by unfold mkF; rw [e]
    have elen := row_cnt (i2.2 k hk)
    have rl := (i2.2 k hk).1
    have l5 := i5 k hk
    have l7 := i7 k hk
    have ea : lnS σ k = (sR σ (rc k 1)).length := by unfold lnS; rw [l5.1, nI_clamp (by omega)]
    have eb : exS σ k = (sR σ (rc k 5)).length := by unfold exS; rw [l7.1, nI_clamp (by omega)]
    have exX : xFound σ (nI (1001 + k)) (nI t) = if checkedB σ k = false then (-13, σ) else if (!decide (mkF σ (nI (1001 + k)) ≤ mkF σ (nI t))) = false then (-13, σ) else if nI t ∈ sR σ (rc k 1) then (1, remR σ k 4 (nI t)) else if nI t ∈ sR σ (rc k 5) then (0, σ) else if fullB σ k 5 = true then (-14, σ) else if sI σ 7 t = nI (1001 + k) then (0, feS σ k (nI t)) else if fullB σ k 0 = true then (-14, σ) else (0, feS (putInS (takeOutS σ (nI t)) k (nI (1001 + k)) (nI t)) k (nI t)) := by
      unfold xFound foundExtraF
      rw [e]
      show (if thingB σ (nI t) = false then _ else _) = _
      rw [if_neg c0, lesser_mk i1 h60 hk, holdF_nI i1 ht]
    have exM : ∀ τ, mEq σ τ → mFoundF τ (nI (1001 + k)) (nI t) = if sI σ 12 k = 0 then (-13, τ) else if nI t = nI (1001 + k) then (-13, τ) else if lieB σ (1001 + k) (nI t) = true then (-13, τ) else if mkF σ (nI (1001 + k)) ≤ mkF σ (nI t) then (-13, τ) else if ¬ lpF σ k (nI t) (sR σ (rc k 1)).length < 0 then (1, upI τ 18 (12 * k + (lpF σ k (nI t) (sR σ (rc k 1)).length).toNatClampNeg) 1) else if exF σ k (nI t) (sR σ (rc k 5)).length = true then (0, τ) else if ¬ (sR σ (rc k 5)).length < 12 then (-14, τ) else if sI σ 7 t = nI (1001 + k) then (0, mEx τ k (sR σ (rc k 5)).length (nI t)) else if cntN σ (nI (1001 + k)) 1061 = 12 then (-14, τ) else (0, mEx (mBring (mPut τ (nI (1001 + k)) t) t (sI σ 9 (1001 + k))) k (sR σ (rc k 5)).length (nI t)) := by
      intro τ hh
      unfold mFoundF mFound
      rw [hh.rec, e]
      show (if thingB τ (nI t) = false then _ else _) = _
      rw [hh.thing, if_neg c0, hh.lns, hh.exs, ea, eb, nI_clamp (by omega), hh.I 12, hh.lie, hh.mk, hh.mk, hh.lp, hh.ex, hh.I 7, hh.cnt, hh.I 9]
    by_cases c1 : sI σ 12 k = 0
    · rw [if_pos ((checked_ne h hk).mpr c1)] at exX
      refine Ag.no h (-13) exX ?_
      rw [exX, exM σ (mEq.refl σ), if_pos c1]
    rw [if_neg (fun z => c1 ((checked_ne h hk).mp z))] at exX
    by_cases c4 : mkF σ (nI (1001 + k)) ≤ mkF σ (nI t)
    · rw [if_pos (by rw [decide_eq_true c4]; rfl)] at exX
      refine Ag.no h (-13) exX ?_
      rw [exX, exM σ (mEq.refl σ), if_neg c1]
      by_cases c5 : nI t = nI (1001 + k)
      · rw [if_pos c5]
      · rw [if_neg c5]
        by_cases c6 : lieB σ (1001 + k) (nI t) = true
        · rw [if_pos c6]
        · rw [if_neg c6, if_pos c4]
    rw [if_neg (by rw [decide_eq_false c4]; decide)] at exX
    have c5 : ¬ nI t = nI (1001 + k) := fun z => c4 (by rw [z]; exact Int32.le_refl _)
    have c6 : ¬ lieB σ (1001 + k) (nI t) = true := by
      intro z
      obtain ⟨j, hj, ej, hlt⟩ := lie_kind hM hk z
      apply c4
      rw [ekb, ej]
      unfold mkF
      rw [recOf_mk h60 hj]
      exact Int32.le_of_lt hlt
    have hless : mkF σ (nI t) < sI σ 10 k := by rw [← ekb]; exact Int32.not_le.mp c4
    have m7 := lpF_mem (σ := σ) (k := k) (t := nI t) l5.2.1 l5.2.2.2
    by_cases c7 : nI t ∈ sR σ (rc k 1)
    · rw [if_pos c7] at exX
      have hm := mEq.rem σ k 4 (nI t)
      rw [exX]
      show Ag N σ (1, remR σ k 4 (nI t)) (mFoundF (remR σ k 4 (nI t)) (nI (1001 + k)) (nI t))
      rw [exM _ hm, if_neg c1, if_neg c5, if_neg c6, if_neg c4, if_pos (m7.mpr c7)]
      refine ⟨hm, rfl, ?_⟩
      rcases lpF_spec (σ := σ) (k := k) (t := nI t) (l := sR σ (rc k 1)) _ (Nat.le_refl _) (by omega) l5.2.2.2 with ⟨g1, -⟩ | ⟨j, g1, g2, g3⟩
      · exact absurd g1 (m7.mpr c7)
      · have q := found_inv_a h hk g1
        rw [g3] at q
        rw [g2, nI_clamp (by omega)]
        exact q
    rw [if_neg c7] at exX
    have c7' : ¬ ¬ lpF σ k (nI t) (sR σ (rc k 1)).length < 0 := fun z => c7 (m7.mp z)
    have m8 : exF σ k (nI t) (sR σ (rc k 5)).length = true ↔ nI t ∈ sR σ (rc k 5) := by
      rw [exF_mem _ (Nat.le_refl _) l7.2.2, row_mem]
    by_cases c8 : nI t ∈ sR σ (rc k 5)
    · rw [if_pos c8] at exX
      refine Ag.no h 0 exX ?_
      rw [exX, exM σ (mEq.refl σ), if_neg c1, if_neg c5, if_neg c6, if_neg c4, if_neg c7', if_pos (m8.mpr c8)]
    rw [if_neg c8] at exX
    by_cases c9 : (sR σ (rc k 5)).length < 12
    rotate_left
    · have hf : fullB σ k 5 = true := decide_eq_true (show 12 ≤ (sR σ (rc k 5)).length by omega)
      rw [if_pos hf] at exX
      refine Ag.no h (-14) exX ?_
      rw [exX, exM σ (mEq.refl σ), if_neg c1, if_neg c5, if_neg c6, if_neg c4, if_neg c7', if_neg (fun z => c8 (m8.mp z)), if_pos c9]
    have hf : ¬ fullB σ k 5 = true := fun z => by
      have z : 12 ≤ (sR σ (rc k 5)).length := of_decide_eq_true z
      omega
    rw [if_neg hf] at exX
    by_cases c10 : sI σ 7 t = nI (1001 + k)
    · rw [if_pos c10] at exX
      have hm := mEq.fe σ k (nI t)
      rw [exX]
      show Ag N σ (0, feS σ k (nI t)) (mFoundF (feS σ k (nI t)) (nI (1001 + k)) (nI t))
      rw [exM _ hm, if_neg c1, if_neg c5, if_neg c6, if_neg c4, if_neg c7', if_neg (fun z => c8 (m8.mp z)), if_neg (fun z => z c9), if_pos c10]
      exact ⟨hm, rfl, found_inv_b hM i1 (i2.mono (Nat.le_succ N)) i3 i4 i5 i6 i7 i8 i9 iN hN hk (nI t) c9⟩
    rw [if_neg c10] at exX
    by_cases c11 : (sR σ (rc k 0)).length < 12
    rotate_left
    · have hf0 : fullB σ k 0 = true := decide_eq_true (show 12 ≤ (sR σ (rc k 0)).length by omega)
      rw [if_pos hf0] at exX
      refine Ag.no h (-14) exX ?_
      rw [exX, exM σ (mEq.refl σ), if_neg c1, if_neg c5, if_neg c6, if_neg c4, if_neg c7', if_neg (fun z => c8 (m8.mp z)), if_neg (fun z => z c9), if_neg c10, if_pos (by rw [elen]; omega)]
    have hf0 : ¬ fullB σ k 0 = true := fun z => by
      have z : 12 ≤ (sR σ (rc k 0)).length := of_decide_eq_true z
      omega
    rw [if_neg hf0] at exX
    have hm := ((mEq.takeOut σ (nI t)).trans (mEq.putIn _ k (nI (1001 + k)) (nI t))).trans (mEq.fe _ k (nI t))
    rw [exX]
    obtain ⟨P, eP, p0, pI, pJ, p2, p3, pR, pr⟩ := moved_P h hk ht c11 c10
    rw [eP] at hm ⊢
    show Ag N σ (0, feS P k (nI t)) (mFoundF (feS P k (nI t)) (nI (1001 + k)) (nI t))
    rw [exM _ hm, if_neg c1, if_neg c5, if_neg c6, if_neg c4, if_neg c7', if_neg (fun z => c8 (m8.mp z)), if_neg (fun z => z c9), if_neg c10, if_neg (by rw [elen]; omega), move_order]
    refine ⟨hm, rfl, ?_⟩
    obtain ⟨q0, q1, q2, q3, q4, q5, q6, q7, q8, q9, qN⟩ := moved_inv h hN hk ok ht1 ht c11 c10 hless p0 pI pJ p2 p3 pR pr
    have s5 : sR (mBring (mPut P (nI (1001 + k)) t) t (sI σ 9 (1001 + k))) (rc k 5) = sR σ (rc k 5) := pr k 5 (by decide) (by decide)
    have hkS : k < (mBring (mPut P (nI (1001 + k)) t) t (sI σ 9 (1001 + k))).1 := by
      show k < P.1
      rw [p0]
      exact hk
    have q := found_inv_b q0 q1 q2 q3 q4 q5 q6 q7 q8 q9 qN hN hkS (nI t) (by rw [s5]; exact c9)
    rw [s5] at q
    exact q
end FAG
