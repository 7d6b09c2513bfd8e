/-! found: what is brought in from elsewhere, the class's side -/
section FMV
variable {σ : ST} {N : Nat}
theorem takeOut_form (h : Inv N σ) {t : Nat} (ht : t < 1061) : (sI σ 7 t = 0 ∧ takeOutS σ (nI t) = σ) ∨ ∃ j, j < σ.1 ∧ sI σ 7 t = nI (1001 + j) ∧ takeOutS σ (nI t) = upI (upR (upI σ 3 t (sI σ 9 t)) (rc j 0) ((sR σ (rc j 0)).filter (fun y => decide (y ≠ nI t)))) 2 t 0 := by
  obtain ⟨hM, i1, i2, i3, -⟩ := id h
  have h60 := h.n60
  rcases hM.2.2.1 t ht with z | ⟨j, hj, z⟩
  · refine Or.inl ⟨z, ?_⟩
    unfold takeOutS
    rw [holdF_nI i1 ht, z, recOf_le (by decide)]
  · refine Or.inr ⟨j, hj, z, ?_⟩
    unfold takeOutS
    rw [holdF_nI i1 ht, z, recOf_mk h60 hj, place_nI hM i1 i3 ht]
    show setHoldF (remR (setOwnF σ (nI t) (sI σ 9 t)) j 0 (nI t)) (nI t) 0 = _
    rw [setOwn_nI ht, setHold_nI ht]
    exact id rfl
theorem moved_P (h : Inv N σ) {k t : Nat} (hk : k < σ.1) (ht : t < 1061) (h12 : (sR σ (rc k 0)).length < 12) (hold : ¬ sI σ 7 t = nI (1001 + k)) : ∃ P, putInS (takeOutS σ (nI t)) k (nI (1001 + k)) (nI t) = P ∧ P.1 = σ.1 ∧ (∀ c, c ≠ 2 → c ≠ 3 → sI P c = sI σ c) ∧ sJ P = sJ σ ∧ (∀ u, sI P 2 u = if u = t then nI (1001 + k) else sI σ 2 u) ∧ (∀ u, u ≠ t → sI P 3 u = sI σ 3 u) ∧ (∀ j, sR P (rc j 0) = if j = k then sR σ (rc k 0) ++ [nI t] else if sI σ 7 t = nI (1001 + j) ∧ j < 60 then (sR σ (rc j 0)).filter (fun y => decide (y ≠ nI t)) else sR σ (rc j 0)) ∧ ∀ j i, i < 6 → i ≠ 0 → sR P (rc j i) = sR σ (rc j i) := by
  have h60 := h.n60
  refine ⟨_, rfl, ?_⟩
  have hp : ∀ τ, sR τ (rc k 0) = sR σ (rc k 0) → putInS τ k (nI (1001 + k)) (nI t) = upI (upR τ (rc k 0) (sR σ (rc k 0) ++ [nI t])) 2 t (nI (1001 + k)) := by
    intro τ e
    unfold putInS
    rw [setHold_nI ht]
    unfold appR
    rw [e, if_pos (by show _ < 12; omega)]
  rcases takeOut_form h ht with ⟨z, e⟩ | ⟨j0, hj0, z, e⟩
  · rw [e, hp σ rfl]
    refine ⟨id rfl, fun c c2 c3 => ?_, id rfl, fun u => ?_, fun u hu => ?_, fun j => ?_, fun j i hi hi0 => ?_⟩
    · rw [ev1, if_neg c2, ev5]
    · rw [ev1, if_pos rfl, ev5, updA]
    · rw [ev1, if_neg (by decide), ev5]
    · rw [ev8, ev3]
      by_cases ej : j = k
      · rw [if_pos (by rw [ej]), if_pos ej]
      · rw [if_neg (fun q => ej (rc_inj (by decide) (by decide) q).1), if_neg ej, if_neg (fun q => nI1001_ne q.2 (q.1.symm.trans z))]
    · rw [ev8, ev3, if_neg (fun q => hi0 (rc_inj hi (by decide) q).2)]
  · have jk : j0 ≠ k := fun q => hold (by rw [z, q])
    have e0 : sR (takeOutS σ (nI t)) (rc k 0) = sR σ (rc k 0) := by
      rw [e, ev8, ev3, if_neg (fun q => jk (rc_inj (by decide) (by decide) q).1.symm), ev8]
    rw [hp _ e0, e]
    refine ⟨id rfl, fun c c2 c3 => ?_, id rfl, fun u => ?_, fun u hu => ?_, fun j => ?_, fun j i hi hi0 => ?_⟩
    · rw [ev1, if_neg c2, ev5, ev1, if_neg c2, ev5, ev1, if_neg c3]
    · rw [ev1, if_pos rfl, updA]
      split
      · rfl
      · rename_i hu
        rw [ev5, ev1, if_pos rfl, upd_n _ _ hu, ev5, ev1, if_neg (by decide)]
    · rw [ev1, if_neg (by decide), ev5, ev1, if_neg (by decide), ev5, ev1, if_pos rfl, upd_n _ _ hu]
    · rw [ev8, ev3]
      by_cases ej : j = k
      · rw [if_pos (by rw [ej]), if_pos ej]
      · rw [if_neg (fun q => ej (rc_inj (by decide) (by decide) q).1), if_neg ej, ev8, ev3]
        by_cases ej0 : j = j0
        · rw [if_pos (by rw [ej0]), if_pos ⟨by rw [z, ej0], by omega⟩, ej0]
        · rw [if_neg (fun q => ej0 (rc_inj (by decide) (by decide) q).1), if_neg, ev8]
          rintro ⟨q1, q2⟩
          have := (nI_eq (by omega) (by omega)).mp (z.symm.trans q1)
          omega
    · rw [ev8, ev3, if_neg (fun q => hi0 (rc_inj hi (by decide) q).2), ev8, ev3, if_neg (fun q => hi0 (rc_inj hi (by decide) q).2), ev8]
end FMV
