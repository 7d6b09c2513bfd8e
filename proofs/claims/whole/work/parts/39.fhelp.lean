/-! found: the list, the extras, what is missing -/
section FHELP
variable {σ σ' : ST}
theorem lpF_spec {k : Nat} {t : Int32} {l : List Int32} : ∀ n, n ≤ l.length → n < 2 ^ 31 → (∀ i, i < n → sI σ 17 (12 * k + i) = l.getD i 0) → (lpF σ k t n < 0 ∧ ∀ i, i < n → ¬ l.getD i 0 = t) ∨ ∃ j, j < n ∧ lpF σ k t n = nI j ∧ l.getD j 0 = t := by
  intro n
  induction n with
  | zero => exact fun _ _ _ => Or.inl ⟨by show (-1 : Int32) < 0; decide, fun i hi => absurd hi (Nat.not_lt_zero i)⟩
  | succ n ih =>
    intro hn hb h
    rw [lpF, h n (by omega)]
    by_cases c : l.getD n 0 = t
    · rw [if_pos c]
      exact Or.inr ⟨n, by omega, rfl, c⟩
    · rw [if_neg c]
      rcases ih (by omega) (by omega) (fun i hi => h i (by omega)) with ⟨h1, h2⟩ | ⟨j, h1, h2, h3⟩
      · refine Or.inl ⟨h1, fun i hi => ?_⟩
        by_cases e : i = n
        · rw [e]; exact c
        · exact h2 i (by omega)
      · exact Or.inr ⟨j, by omega, h2, h3⟩
theorem lpF_mem {k : Nat} {t : Int32} {l : List Int32} (hl : l.length ≤ 12) (h : ∀ i, i < l.length → sI σ 17 (12 * k + i) = l.getD i 0) : ¬ lpF σ k t l.length < 0 ↔ t ∈ l := by
  rcases lpF_spec (σ := σ) (k := k) (t := t) (l := l) l.length (Nat.le_refl _) (by omega) h with ⟨h1, h2⟩ | ⟨j, h1, h2, h3⟩
  · constructor
    · exact fun z => absurd h1 z
    · intro z
      obtain ⟨i, hi, e⟩ := row_mem.mp z
      exact absurd e (h2 i hi)
  · constructor
    · exact fun _ => row_mem.mpr ⟨j, h1, h3⟩
    · intro _
      rw [h2]
      exact nI_pos (by omega)
theorem exF_mem {k : Nat} {t : Int32} {l : List Int32} : ∀ n, n ≤ l.length → (∀ i, i < n → sI σ 20 (12 * k + i) = l.getD i 0) → (exF σ k t n = true ↔ ∃ i, i < n ∧ l.getD i 0 = t) := by
  intro n
  induction n with
  | zero => exact fun _ _ => ⟨fun z => absurd z (by show ¬ false = true; decide), fun ⟨i, hi, _⟩ => absurd hi (Nat.not_lt_zero i)⟩
  | succ n ih =>
    intro hn h
    rw [exF, Bool.or_eq_true, ih (by omega) (fun i hi => h i (by omega)), h n (by omega), decide_eq_true_eq]
    constructor
    · rintro (⟨i, hi, e⟩ | e)
      · exact ⟨i, by omega, e⟩
      · exact ⟨n, by omega, e⟩
    · rintro ⟨i, hi, e⟩
      by_cases c : i = n
      · rw [c] at e; exact Or.inr e
      · exact Or.inl ⟨i, by omega, e⟩
theorem getD_inj {l : List Int32} (hd : l.Nodup) {i j : Nat} (hi : i < l.length) (hj : j < l.length) (e : l.getD i 0 = l.getD j 0) : i = j := by
  rw [List.getD_eq_getElem?_getD, List.getD_eq_getElem?_getD, List.getElem?_eq_getElem hi, List.getElem?_eq_getElem hj] at e
  have e : l[i] = l[j] := e
  rcases Nat.lt_trichotomy i j with z | z | z
  · exact absurd e (List.pairwise_iff_getElem.mp hd i j hi hj z)
  · exact z
  · exact absurd e.symm (List.pairwise_iff_getElem.mp hd j i hj hi z)
/-- what is missing, when the thing at place j of the list is seen -/
theorem misL_seen {k j : Nat} {l : List Int32} (hd : l.Nodup) (hj : j < l.length) (h17 : ∀ i, i < l.length → sI σ 17 (12 * k + i) = l.getD i 0) (g17 : sI σ' 17 = sI σ 17) (g18 : sI σ' 18 = upd (sI σ 18) (12 * k + j) 1) : ∀ n, n ≤ l.length → misL σ' k n = (misL σ k n).filter (fun y => decide (y ≠ l.getD j 0)) := by
  intro n
  induction n with
  | zero => intro _; rfl
  | succ n ih =>
    intro hn
    rw [misL, misL, ih (by omega), g17, g18, h17 n (by omega)]
    by_cases e : n = j
    · rw [e, upd_s, if_neg (by decide)]
      split
      · rw [List.filter_append]
        have e2 : [l.getD j 0].filter (fun y => decide (y ≠ l.getD j 0)) = [] := by simp
        rw [e2, List.append_nil]
      · rfl
    · rw [upd_n _ _ (by omega)]
      split
      · rw [List.filter_append]
        have e3 : ¬ l.getD n 0 = l.getD j 0 := fun z => e (getD_inj hd (by omega) hj z)
        have e2 : [l.getD n 0].filter (fun y => decide (y ≠ l.getD j 0)) = [l.getD n 0] := List.filter_eq_self.mpr (fun a ha => decide_eq_true (by rw [List.mem_singleton.mp ha]; exact e3))
        rw [e2]
      · rfl
end FHELP
