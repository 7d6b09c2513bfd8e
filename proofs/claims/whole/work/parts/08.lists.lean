/-! reading a state after a write; lists -/
theorem sI_upI (σ : ST) (co i : Nat) (x : Int32) (c j : Nat) : sI (upI σ co i x) c j = if c = co ∧ j = i then x else sI σ c j := by
  simp only [sI, upI, va_up, upd]
  by_cases h : c = co
  · subst h
    by_cases h2 : j = i <;> simp [h2, upd]
  · simp [h]
theorem sI_upJ (σ : ST) (co i : Nat) (x : Int64) (c j : Nat) : sI (upJ σ co i x) c j = sI σ c j := rfl
theorem sI_upR (σ : ST) (co : Nat) (x : List Int32) (c j : Nat) : sI (upR σ co x) c j = sI σ c j := rfl
theorem sJ_upI (σ : ST) (co i : Nat) (x : Int32) (c j : Nat) : sJ (upI σ co i x) c j = sJ σ c j := rfl
theorem sJ_upR (σ : ST) (co : Nat) (x : List Int32) (c j : Nat) : sJ (upR σ co x) c j = sJ σ c j := rfl
theorem sJ_upJ (σ : ST) (co i : Nat) (x : Int64) (c j : Nat) : sJ (upJ σ co i x) c j = if c = co ∧ j = i then x else sJ σ c j := by
  simp only [sJ, upJ, va_up, vp_updL]
  by_cases h : c = co
  · subst h
    by_cases h2 : j = i <;> simp [h2, vp_updL]
  · simp [h]
theorem sR_upI (σ : ST) (co i : Nat) (x : Int32) (c : Nat) : sR (upI σ co i x) c = sR σ c := rfl
theorem sR_upJ (σ : ST) (co i : Nat) (x : Int64) (c : Nat) : sR (upJ σ co i x) c = sR σ c := rfl
theorem sR_upR (σ : ST) (co : Nat) (x : List Int32) (c : Nat) : sR (upR σ co x) c = if c = co then x else sR σ c := by
  by_cases h : c = co
  · subst h; simp [sR_upR_self]
  · simp [h, sR_upR_ne]
theorem upI_self (σ : ST) (co i : Nat) : upI σ co i (sI σ co i) = σ := by
  unfold upI sI
  have h : va_up σ.2.1 co (upd (σ.2.1 co) i (σ.2.1 co i)) = σ.2.1 := by
    funext q z
    by_cases hq : q = co
    · subst hq
      rw [va_up_self]
      by_cases hz : z = i <;> simp [upd, hz]
    · rw [va_up_ne _ _ hq]
  rw [h]
theorem upI_upI (σ : ST) (co i : Nat) (x y : Int32) : upI (upI σ co i x) co i y = upI σ co i y := by
  simp only [upI, va_up_self]
  have h : va_up (va_up σ.2.1 co (upd (σ.2.1 co) i x)) co (upd (upd (σ.2.1 co) i x) i y) = va_up σ.2.1 co (upd (σ.2.1 co) i y) := by
    funext q z
    by_cases hq : q = co
    · subst hq
      rw [va_up_self, va_up_self]
      by_cases hz : z = i <;> simp [upd, hz]
    · rw [va_up_ne _ _ hq, va_up_ne _ _ hq, va_up_ne _ _ hq]
  rw [h]
theorem row_mem {l : List Int32} {x : Int32} : x ∈ l ↔ ∃ a, a < l.length ∧ l.getD a 0 = x := by
  constructor
  · intro h
    obtain ⟨a, ha, rfl⟩ := List.mem_iff_getElem.mp h
    exact ⟨a, ha, by rw [List.getD_eq_getElem?_getD, List.getElem?_eq_getElem ha]; rfl⟩
  · rintro ⟨a, ha, rfl⟩
    rw [List.getD_eq_getElem?_getD, List.getElem?_eq_getElem ha]
    exact List.getElem_mem ha
theorem getD_some {l : List Int32} {a : Nat} (h : a < l.length) : l[a]? = some (l.getD a 0) := by
  rw [List.getD_eq_getElem?_getD, List.getElem?_eq_getElem h]
  rfl
theorem take_succ_getD {l : List Int32} {i : Nat} (h : i < l.length) : l.take (i + 1) = l.take i ++ [l.getD i 0] := by
  rw [List.take_succ, getD_some h]
  rfl
/-- removing: one step of the walk through the row, the number is another one -/
theorem rem_ne {o r : List Int32} {i kept : Nat} {x : Int32} (hr : r.length = o.length) (hi : i < o.length) (hk : kept ≤ i) (h1 : r.take kept = (o.take i).filter (fun y => decide (y ≠ x))) (h2 : r.drop i = o.drop i) (hx : o.getD i 0 ≠ x) :
    (r.set kept (o.getD i 0)).take (kept + 1) = (o.take (i + 1)).filter (fun y => decide (y ≠ x)) ∧ (r.set kept (o.getD i 0)).drop (i + 1) = o.drop (i + 1) := by
  refine ⟨?_, ?_⟩
  · rw [take_succ_getD hi, List.filter_append, ← h1, List.take_succ, List.getElem?_set_self (by omega), List.take_set_of_le (Nat.le_refl _), List.filter_cons_of_pos (p := fun y => decide (y ≠ x)) (decide_eq_true hx)]
    rfl
  · rw [List.drop_set_of_lt (by omega), ← List.drop_drop, ← List.drop_drop, h2]
theorem rem_eq {o r : List Int32} {i kept : Nat} {x : Int32} (hi : i < o.length) (h1 : r.take kept = (o.take i).filter (fun y => decide (y ≠ x))) (h2 : r.drop i = o.drop i) (hx : o.getD i 0 = x) :
    r.take kept = (o.take (i + 1)).filter (fun y => decide (y ≠ x)) ∧ r.drop (i + 1) = o.drop (i + 1) := by
  refine ⟨?_, ?_⟩
  · rw [take_succ_getD hi, List.filter_append, ← h1, List.filter_cons_of_neg (p := fun y => decide (y ≠ x)) (by rw [hx]; simp), List.filter_nil, List.append_nil]
  · rw [← List.drop_drop, ← List.drop_drop, h2]
theorem drop_getD {o r : List Int32} {i : Nat} (h2 : r.drop i = o.drop i) : r.getD i 0 = o.getD i 0 := by
  have h := congrArg (fun l => l[0]?) h2
  simp only [List.getElem?_drop, Nat.add_zero] at h
  rw [List.getD_eq_getElem?_getD, List.getD_eq_getElem?_getD, h]
def tellF (σ : ST) (n : Nat) (now : Int64) : Nat → Nat → Nat
  | 0, i => i
  | f + 1, i => if i < n ∧ sJ σ 5 i ≤ now then tellF σ n now f (i + 1) else i
theorem tellF_ge (σ : ST) (n : Nat) (now : Int64) : ∀ f i, i ≤ tellF σ n now f i := by
  intro f
  induction f with
  | zero => intro i; exact Nat.le_refl _
  | succ f ih =>
    intro i
    simp only [tellF]
    split
    · exact Nat.le_trans (Nat.le_succ _) (ih (i + 1))
    · exact Nat.le_refl _
theorem tellF_le (σ : ST) (n : Nat) (now : Int64) : ∀ f i, i ≤ n → tellF σ n now f i ≤ n := by
  intro f
  induction f with
  | zero => intro i h; exact h
  | succ f ih =>
    intro i h
    simp only [tellF]
    split
    · exact ih (i + 1) (by omega)
    · exact h
