/-! the two sides' answers: the methods that only read -/
section READ
variable {σ : ST} {N : Nat}
theorem inside_eq (h : Inv N σ) (t : Int32) : xInside σ t = mInside σ t := by
  unfold xInside mInside
  by_cases e : thingB σ t = true
  · rw [if_pos e, if_pos e]
    obtain ⟨n, -, h2, -, rfl⟩ := thing_okT h.n60 e
    rw [holdF_nI h.2.1 h2, nI_clamp (by omega)]
  · rw [if_neg e, if_neg e]
theorem place_eq (h : Inv N σ) (t : Int32) : xPlace σ t = mPlace σ t := by
  unfold xPlace mPlace
  by_cases e : thingB σ t = true
  · rw [if_pos e, if_pos e]
    obtain ⟨n, -, h2, -, rfl⟩ := thing_okT h.n60 e
    rw [place_nI h.1 h.2.1 h.2.2.2.1 h2, nI_clamp (by omega)]
  · rw [if_neg e, if_neg e]
theorem getD_len {l : List Int32} {i : Nat} (h : l.length ≤ i) : l.getD i 0 = 0 := by
  rw [List.getD_eq_getElem?_getD, List.getElem?_eq_none h]
  rfl
theorem document_eq (h : Inv N σ) (b i : Int32) : xDocument σ b i = mDocument σ b i := by
  unfold xDocument mDocument
  cases e : recOf σ b with
  | none => rfl
  | some k =>
    obtain ⟨hk, rfl⟩ := recOf_eq h.n60 e
    have a := h.2.2.2.2.2.1 k hk
    have ea : lnS σ k = (sR σ (rc k 1)).length := by unfold lnS; rw [a.1, nI_clamp (by omega)]
    show rowAt (sR σ (rc k 1)) i = if i < 0 then 0 else if nI (lnS σ k) ≤ i then 0 else sI σ 17 (12 * k + i.toNatClampNeg)
    rw [ea]
    by_cases h0 : i < 0
    · rw [if_pos h0]; unfold rowAt; rw [if_pos h0]
    · obtain ⟨j, hj, rfl⟩ := nI_of h0
      have hle := nI_leI (a := (sR σ (rc k 1)).length) (b := j) (by omega) hj
      rw [if_neg h0, rowAt_nI _ hj, nI_clamp hj]
      by_cases hl : (sR σ (rc k 1)).length ≤ j
      · rw [if_pos (hle.mpr hl), getD_len hl]
      · rw [if_neg (fun q => hl (hle.mp q)), a.2.2.2 j (by omega)]
theorem dF_nI {k : Nat} {what : Int32} {f d r : Nat} (hr : r < 2 ^ 31) (hl : (sR σ (rc k (d + 2))).length < 2 ^ 31) : differF σ k what (f + 1) d (nI r) = if r < (sR σ (rc k (d + 2))).length then (if what = 0 then nI d else (sR σ (rc k (d + 2))).getD r 0) else differF σ k what f (d + 1) (nI (r - (sR σ (rc k (d + 2))).length)) := by
  rw [differF, if_neg (nI_pos hr), rowAt_nI _ hr]
  by_cases h : r < (sR σ (rc k (d + 2))).length
  · rw [if_pos h, if_pos ((nI_ltI hr hl).mpr h)]
  · rw [if_neg h, if_neg (fun q => h ((nI_ltI hr hl).mp q)), pk_sub (by omega)]
theorem toI3264 (x : Int32) : x.toInt64.toInt32 = x := by simp
theorem what01 (w : Int32) : (¬ w = 0 ∧ ¬ w = 1) ↔ (w < 0 ∨ ¬ w ≤ 1) := by
  rw [Int32.lt_iff_toInt_lt, Int32.le_iff_toInt_le]
  have e0 : (0 : Int32).toInt = 0 := rfl
  have e1 : (1 : Int32).toInt = 1 := rfl
  have a0 : w = 0 ↔ w.toInt = 0 := ⟨fun h => by rw [h]; rfl, fun h => Int32.toInt_inj.mp h⟩
  have a1 : w = 1 ↔ w.toInt = 1 := ⟨fun h => by rw [h]; rfl, fun h => Int32.toInt_inj.mp h⟩
  rw [a0, a1]
  omega
theorem checked_ne (h : Inv N σ) {k : Nat} (hk : k < σ.1) : checkedB σ k = false ↔ sI σ 12 k = 0 := by
  rw [(h.2.2.2.2.1 k hk).2.2.2.1]
  cases checkedB σ k <;> simp [bI]
set_option maxHeartbeats 1000000 in
theorem differ_eq (h : Inv N σ) (b i what : Int32) : xDiffer σ b i what = mDiffer σ b i what := by
  unfold xDiffer mDiffer
  cases e : recOf σ b with
  | none => rfl
  | some k =>
    obtain ⟨hk, rfl⟩ := recOf_eq h.n60 e
    obtain ⟨-, -, -, -, h4, h5, h6, h7, h8, h9, -⟩ := id h
    show (if ¬ what = 0 ∧ ¬ what = 1 then (-12 : Int32) else if checkedB σ k = false then -13 else differF σ k what 4 0 i) = if what < 0 then -12 else if ¬ what ≤ 1 then -12 else if sI σ 12 k = 0 then -13 else if i < 0 then -1 else mdF σ k (lnS σ k) (exS σ k) (weS σ k) i.toNatClampNeg what
    by_cases hw : ¬ what = 0 ∧ ¬ what = 1
    · rw [if_pos hw]
      rcases (what01 what).mp hw with q | q
      · rw [if_pos q]
      · by_cases q2 : what < 0
        · rw [if_pos q2]
        · rw [if_neg q2, if_pos q]
    · rw [if_neg hw, if_neg (fun q => hw ((what01 what).mpr (Or.inl q))), if_neg (fun q => hw ((what01 what).mpr (Or.inr q)))]
      by_cases hc : sI σ 12 k = 0
      · rw [if_pos hc, if_pos ((checked_ne h hk).mpr hc)]
      · rw [if_neg hc, if_neg (fun q => hc ((checked_ne h hk).mp q))]
        by_cases h0 : i < 0
        · rw [if_pos h0, differF, if_pos h0]
        · obtain ⟨j, hj, rfl⟩ := nI_of h0
          rw [if_neg h0, nI_clamp hj]
          have l5 := h5 k hk
          have l7 := h7 k hk
          have l9 := h9 k hk
          have m6 := h6 k hk hc
          have m8 := h8 k hk hc
          have ea : lnS σ k = (sR σ (rc k 1)).length := by unfold lnS; rw [l5.1, nI_clamp (by omega)]
          have eb : exS σ k = (sR σ (rc k 5)).length := by unfold exS; rw [l7.1, nI_clamp (by omega)]
          have ec : weS σ k = (sR σ (rc k 3)).length := by unfold weS; rw [l9.1, nI_clamp (by omega)]
          have lm := misL_len σ k (sR σ (rc k 1)).length
          rw [ea, eb, ec]
          have tail : ∀ r, r < 2 ^ 31 → differF σ k what 3 1 (nI r) = mdW σ k (sR σ (rc k 1)).length (sR σ (rc k 5)).length (sR σ (rc k 3)).length r what := by
            intro r hr
            rw [dF_nI hr (by show (sR σ (rc k 3)).length < _; omega), dF_nI (by omega) (by show (sR σ (rc k 4)).length < _; rw [m6]; omega), dF_nI (by omega) (by show (sR σ (rc k 5)).length < _; omega)]
            show (if r < (sR σ (rc k 3)).length then (if what = 0 then nI 1 else (sR σ (rc k 3)).getD r 0) else if r - (sR σ (rc k 3)).length < (sR σ (rc k 4)).length then (if what = 0 then nI 2 else (sR σ (rc k 4)).getD (r - (sR σ (rc k 3)).length) 0) else if r - (sR σ (rc k 3)).length - (sR σ (rc k 4)).length < (sR σ (rc k 5)).length then (if what = 0 then nI 3 else (sR σ (rc k 5)).getD (r - (sR σ (rc k 3)).length - (sR σ (rc k 4)).length) 0) else -1) = _
            rw [m6]
            unfold mdW mdT pickF
            by_cases c1 : r < (sR σ (rc k 3)).length
            · rw [if_pos c1, if_pos c1, l9.2.2 r c1]; rfl
            · rw [if_neg c1, if_neg c1]
              by_cases c2 : r - (sR σ (rc k 3)).length < (misL σ k (sR σ (rc k 1)).length).length
              · rw [if_pos c2, if_pos c2, toI3264]; rfl
              · rw [if_neg c2, if_neg c2]
                by_cases c3 : r - (sR σ (rc k 3)).length - (misL σ k (sR σ (rc k 1)).length).length < (sR σ (rc k 5)).length
                · rw [if_pos c3, if_pos c3, toI3264, l7.2.2 _ c3]; rfl
                · rw [if_neg c3, if_neg c3]
          rw [dF_nI hj (by show (sR σ (rc k 2)).length < _; rw [m8]; split <;> simp)]
          show (if j < (sR σ (rc k 2)).length then (if what = 0 then nI 0 else (sR σ (rc k 2)).getD j 0) else differF σ k what 3 1 (nI (j - (sR σ (rc k 2)).length))) = _
          rw [tail _ (by omega), m8]
          unfold mdF
          by_cases hs : sJ σ 15 k = sJ σ 13 k
          · rw [if_pos hs, if_pos hs, if_neg (by simp)]
            rfl
          · rw [if_neg hs, if_neg hs]
            by_cases hj0 : j = 0
            · subst hj0
              rw [if_pos rfl, if_pos (by simp)]
              rfl
            · rw [if_neg hj0, if_neg (by simp; omega)]
              rfl
end READ
