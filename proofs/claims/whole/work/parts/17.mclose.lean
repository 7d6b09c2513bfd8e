/-- the row l is what lies in b, in the order of 'since' -/
def RowM (σ : ST) (b : Int32) (l : List Int32) : Prop := l.length ≤ 12 ∧ (∀ x ∈ l, ∃ t, 1 ≤ t ∧ t < 1061 ∧ x = nI t ∧ sI σ 7 t = b ∧ 0 < sI σ 8 t) ∧ (∀ t, 1 ≤ t → t < 1061 → sI σ 7 t = b → nI t ∈ l) ∧ l.Pairwise (fun x y => sI σ 8 x.toNatClampNeg < sI σ 8 y.toNatClampNeg)
def aft (σ : ST) (l : List Int32) : Nat → Int32
  | 0 => 0
  | n + 1 => sI σ 8 (l.getD n 0).toNatClampNeg
theorem nxF_spec (σ : ST) (b a : Int32) : ∀ i, i ≤ 1061 → (nxF σ b a i = 0 ∧ ∀ j, 1 ≤ j → j < i → sI σ 7 j = b → ¬ a < sI σ 8 j) ∨ (∃ j, 1 ≤ j ∧ j < i ∧ nxF σ b a i = nI j ∧ sI σ 7 j = b ∧ a < sI σ 8 j ∧ ∀ j2, 1 ≤ j2 → j2 < i → sI σ 7 j2 = b → a < sI σ 8 j2 → ¬ sI σ 8 j2 < sI σ 8 j) := by
  intro i
  induction i with
  | zero => intro _; exact Or.inl ⟨rfl, fun j h1 h2 => absurd h2 (by omega)⟩
  | succ i ih =>
    intro hi
    by_cases hc : 1 ≤ i ∧ sI σ 7 i = b ∧ a < sI σ 8 i ∧ (nxF σ b a i = 0 ∨ sI σ 8 i < sI σ 8 (nxF σ b a i).toNatClampNeg)
    · refine Or.inr ⟨i, hc.1, by omega, by rw [nxF, if_pos hc], hc.2.1, hc.2.2.1, fun j2 h1 h2 h3 h4 h5 => ?_⟩
      by_cases hj : j2 = i
      · subst hj; exact Int32.lt_irrefl h5
      · rcases ih (by omega) with ⟨e0, hn⟩ | ⟨j, g1, g2, g3, g4, g5, g6⟩
        · exact hn j2 h1 (by omega) h3 h4
        · rcases hc.2.2.2 with e | e
          · rw [g3] at e
            exact absurd ((nI_eq0 (by omega)).mp e) (by omega)
          · rw [g3, nI_clamp (by omega)] at e
            exact g6 j2 h1 (by omega) h3 h4 (Int32.lt_trans h5 e)
    · have e1 : nxF σ b a (i + 1) = nxF σ b a i := by rw [nxF, if_neg hc]
      rcases ih (by omega) with ⟨e0, hn⟩ | ⟨j, g1, g2, g3, g4, g5, g6⟩
      · refine Or.inl ⟨by rw [e1, e0], fun j h1 h2 h3 h4 => ?_⟩
        by_cases hj : j = i
        · subst hj; exact hc ⟨h1, h3, h4, Or.inl e0⟩
        · exact hn j h1 (by omega) h3 h4
      · refine Or.inr ⟨j, g1, by omega, by rw [e1, g3], g4, g5, fun j2 h1 h2 h3 h4 h5 => ?_⟩
        by_cases hj : j2 = i
        · subst hj
          exact hc ⟨h1, h3, h4, Or.inr (by rw [g3, nI_clamp (by omega)]; exact h5)⟩
        · exact g6 j2 h1 (by omega) h3 h4 h5
theorem RowM.lt {σ : ST} {b : Int32} {l : List Int32} (h : RowM σ b l) {n m : Nat} (hnm : n < m) (hm : m < l.length) : sI σ 8 (l.getD n 0).toNatClampNeg < sI σ 8 (l.getD m 0).toNatClampNeg := by
  have h1 := List.pairwise_iff_getElem.mp h.2.2.2 n m (by omega) hm hnm
  rw [List.getD_eq_getElem?_getD, List.getD_eq_getElem?_getD, List.getElem?_eq_getElem hm, List.getElem?_eq_getElem (show n < l.length by omega)]
  exact h1
theorem RowM.mem {σ : ST} {b : Int32} {l : List Int32} (h : RowM σ b l) {n : Nat} (hn : n < l.length) : ∃ t, 1 ≤ t ∧ t < 1061 ∧ l.getD n 0 = nI t ∧ sI σ 7 t = b ∧ 0 < sI σ 8 t :=
  h.2.1 _ (row_mem.mpr ⟨n, hn, rfl⟩)
theorem RowM.aft {σ : ST} {b : Int32} {l : List Int32} (h : RowM σ b l) {n m : Nat} (hn : n ≤ l.length) (hm : m < l.length) : aft σ l n < sI σ 8 (l.getD m 0).toNatClampNeg ↔ n ≤ m := by
  cases n with
  | zero =>
    obtain ⟨t, -, h2, h3, -, h5⟩ := h.mem hm
    rw [h3, nI_clamp (by omega)]
    exact ⟨fun _ => Nat.zero_le _, fun _ => h5⟩
  | succ n =>
    show sI σ 8 (l.getD n 0).toNatClampNeg < _ ↔ _
    constructor
    · intro q
      rcases Nat.lt_or_ge n m with z | z
      · exact z
      · exfalso
        by_cases e : m = n
        · subst e; exact Int32.lt_irrefl q
        · exact Int32.lt_irrefl (Int32.lt_trans q (h.lt (by omega) (by omega)))
    · intro q
      exact h.lt (by omega) hm
theorem nx_row {σ : ST} {b : Int32} {l : List Int32} (h : RowM σ b l) {n : Nat} (hn : n ≤ l.length) : nxF σ b (aft σ l n) 1061 = l.getD n 0 := by
  rcases nxF_spec σ b (aft σ l n) 1061 (Nat.le_refl _) with ⟨e0, hno⟩ | ⟨j, g1, g2, g3, g4, g5, g6⟩
  · rcases Nat.lt_or_ge n l.length with z | z
    · obtain ⟨t, h1, h2, h3, h4, -⟩ := h.mem z
      have h5 := (h.aft hn z).mpr (Nat.le_refl _)
      rw [h3, nI_clamp (by omega)] at h5
      exact absurd h5 (hno t h1 h2 h4)
    · rw [e0, List.getD_eq_getElem?_getD, List.getElem?_eq_none z]
      rfl
  · obtain ⟨m, hm, em⟩ := row_mem.mp (h.2.2.1 j g1 g2 g4)
    have g5' : aft σ l n < sI σ 8 (l.getD m 0).toNatClampNeg := by rw [em, nI_clamp (by omega)]; exact g5
    have hnm := (h.aft hn hm).mp g5'
    by_cases e : n = m
    · subst e
      rw [g3, em]
    · exfalso
      have hz : n < l.length := by omega
      obtain ⟨t, h1, h2, h3, h4, -⟩ := h.mem hz
      have h5 := (h.aft hn hz).mpr (Nat.le_refl _)
      rw [h3, nI_clamp (by omega)] at h5
      have h6 := h.lt (n := n) (m := m) (by omega) hm
      rw [h3, em, nI_clamp (by omega), nI_clamp (by omega)] at h6
      exact g6 t h1 h2 h4 h5 h6
theorem RowM.zero {σ : ST} {b : Int32} {l : List Int32} (h : RowM σ b l) {n : Nat} (hn : n ≤ l.length) (e : l.getD n 0 = 0) : n = l.length := by
  rcases Nat.lt_or_ge n l.length with z | z
  · obtain ⟨t, h1, h2, h3, -⟩ := h.mem z
    rw [h3, nI_eq0 (by omega)] at e
    omega
  · omega
theorem lstP_nil (σ : ST) (k : Nat) : lstP σ k [] = sI σ 17 := by
  funext x
  unfold lstP
  rw [if_neg (by rw [List.length_nil]; omega)]
theorem lstP_s (σ : ST) (k : Nat) {l : List Int32} {n : Nat} (hn : n < l.length) : upd (lstP σ k (l.take n)) (12 * k + n) (l.getD n 0) = lstP σ k (l.take (n + 1)) := by
  funext x
  have e1 : (l.take n).length = n := by rw [List.length_take]; omega
  have e2 : (l.take (n + 1)).length = n + 1 := by rw [List.length_take]; omega
  have e3 : ∀ {m i : Nat}, i < m → (l.take m).getD i 0 = l.getD i 0 := fun h => by
    rw [List.getD_eq_getElem?_getD, List.getD_eq_getElem?_getD, List.getElem?_take_of_lt h]
  unfold upd lstP
  rw [e1, e2]
  by_cases hx : x = 12 * k + n
  · rw [if_pos hx, if_pos (by omega), e3 (by omega), hx, show 12 * k + n - 12 * k = n by omega]
  · rw [if_neg hx]
    show (if 12 * k ≤ x ∧ x < 12 * k + n then (l.take n).getD (x - 12 * k) 0 else sI σ 17 x) = _
    by_cases hc : 12 * k ≤ x ∧ x < 12 * k + n
    · rw [if_pos hc, if_pos (by omega), e3 (by omega), e3 (by omega)]
    · rw [if_neg hc, if_neg (by omega)]
