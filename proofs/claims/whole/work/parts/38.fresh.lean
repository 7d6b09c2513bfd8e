/-! the start, and freshness through the model's steps -/
theorem inv0 : Inv 0 st0 := by
  refine ⟨⟨rfl, Nat.zero_le _, fun _ _ => Or.inl rfl, fun k hk => absurd hk (Nat.not_lt_zero k), fun j k hj => absurd hj (Nat.not_lt_zero j)⟩, ⟨fun _ _ => rfl, fun _ _ _ => rfl, fun k hk => absurd hk (Nat.not_lt_zero k)⟩, ⟨⟨0, Nat.le_refl _, rfl, fun _ _ => ⟨0, Nat.le_refl _, rfl⟩⟩, fun k hk => absurd hk (Nat.not_lt_zero k)⟩, ⟨fun _ _ _ => rfl, fun t k _ hk => absurd hk (Nat.not_lt_zero k)⟩, fun k hk => absurd hk (Nat.not_lt_zero k), fun k hk => absurd hk (Nat.not_lt_zero k), fun k hk => absurd hk (Nat.not_lt_zero k), fun k hk => absurd hk (Nat.not_lt_zero k), fun k hk => absurd hk (Nat.not_lt_zero k), fun k hk => absurd hk (Nat.not_lt_zero k), ?_⟩
  exact ⟨0, 0, Nat.le_refl _, Nat.le_refl _, rfl, rfl, rfl, rfl, by decide, by decide, by decide, fun i hi => absurd hi (Nat.not_lt_zero i), fun i j _ hj => absurd hj (Nat.not_lt_zero j), fun i hi => absurd hi (Nat.not_lt_zero i)⟩
theorem fr0 : IFr st0 := fun _ _ => ⟨rfl, rfl, rfl, rfl, rfl, rfl, rfl⟩
section FRESH
variable {σ σ' : ST}
theorem mEq.fr (h : mEq σ σ') (hf : IFr σ) : IFr σ' := by
  unfold IFr at *
  rw [h.1, h.I 11, h.I 12, h.J 13, h.I 14, h.I 16, h.I 19, h.I 21]
  exact hf
theorem fr_upI (hf : IFr σ) {c i : Nat} {x : Int32} (h : (c ≠ 11 ∧ c ≠ 12 ∧ c ≠ 14 ∧ c ≠ 16 ∧ c ≠ 19 ∧ c ≠ 21) ∨ i < σ.1) : IFr (upI σ c i x) := by
  intro k hk
  have hk : σ.1 ≤ k := hk
  have g : ∀ d, (d = 11 ∨ d = 12 ∨ d = 14 ∨ d = 16 ∨ d = 19 ∨ d = 21) → sI (upI σ c i x) d k = sI σ d k := by
    intro d hd
    rw [ev1]
    by_cases e : d = c
    · rw [if_pos e, e, upd_n _ _ (by omega)]
    · rw [if_neg e]
  rw [g 11 (by decide), g 12 (by decide), g 14 (by decide), g 16 (by decide), g 19 (by decide), g 21 (by decide), ev6]
  exact hf k hk
theorem fr_upJ (hf : IFr σ) {c i : Nat} {x : Int64} (h : c ≠ 13 ∨ i < σ.1) : IFr (upJ σ c i x) := by
  intro k hk
  have hk : σ.1 ≤ k := hk
  have g : sJ (upJ σ c i x) 13 k = sJ σ 13 k := by
    rw [ev2]
    by_cases e : 13 = c
    · rw [if_pos e, ← e, updL_n _ _ (by omega)]
    · rw [if_neg e]
  rw [g, ev4]
  exact hf k hk
theorem fr_upA (hf : IFr σ) {c : Nat} {f : Nat → Int32} (h : c ≠ 11 ∧ c ≠ 12 ∧ c ≠ 14 ∧ c ≠ 16 ∧ c ≠ 19 ∧ c ≠ 21) : IFr (upA σ c f) := by
  intro k hk
  have hk : σ.1 ≤ k := hk
  rw [ev10, ev10, ev10, ev10, ev10, ev10, ev11, if_neg (by omega), if_neg (by omega), if_neg (by omega), if_neg (by omega), if_neg (by omega), if_neg (by omega)]
  exact hf k hk
theorem fr_note (hf : IFr σ) : IFr (mNote σ) := fr_upI (fr_upJ hf (Or.inl (by decide))) (Or.inl (by decide))
theorem fr_put (hf : IFr σ) (b : Int32) (t : Nat) : IFr (mPut σ b t) := fr_upI (fr_upI (fr_upI hf (Or.inl (by decide))) (Or.inl (by decide))) (Or.inl (by decide))
theorem fr_bring (hf : IFr σ) (t : Nat) (w : Int32) : IFr (mBring σ t w) := fr_upA hf (by decide)
theorem fr_shut (hf : IFr σ) {k : Nat} (hk : k < σ.1) (q : Int64) (w : Int32) : IFr (mShut σ k q w) := fr_upI (fr_upI (fr_upJ (fr_upI (fr_upI hf (Or.inr hk)) (Or.inr hk)) (Or.inr hk)) (Or.inr hk)) (Or.inr hk)
theorem fr_uns (hf : IFr σ) {k : Nat} (hk : k < σ.1) (q : Int64) : IFr (mUns σ k q) := fr_upA (fr_upI (fr_upJ (fr_upI (fr_upI hf (Or.inr hk)) (Or.inr hk)) (Or.inl (by decide))) (Or.inr hk)) (by decide)
theorem fr_ex (hf : IFr σ) {k : Nat} (hk : k < σ.1) (e : Nat) (t : Int32) : IFr (mEx σ k e t) := fr_note (fr_upI (fr_upI hf (Or.inl (by decide))) (Or.inr hk))
theorem fr_tick (hf : IFr σ) (n : Nat) (t : Int64) : IFr (mTick σ n t).2 := by
  unfold mTick
  split
  · exact hf
  · split
    · exact hf
    · exact fr_upJ (fr_upJ hf (Or.inl (by decide))) (Or.inl (by decide))
theorem fr_take (hf : IFr σ) (t : Int32) : IFr (mTake σ t).2 := by
  unfold mTake
  split
  · exact hf
  · split
    · exact hf
    · split
      · exact hf
      · exact fr_upI hf (Or.inl (by decide))
theorem fr_into (hf : IFr σ) (b t : Int32) : IFr (mInto σ b t).2 := by
  unfold mInto
  cases e : recOf σ b with
  | none => exact hf
  | some k =>
    dsimp only
    repeat' split
    all_goals first | exact hf | exact fr_put hf _ _
theorem fr_close (hf : IFr σ) (l : List Int32) (b : Int32) (q : Int64) (w : Int32) : IFr (mClose σ l b q w).2 := by
  unfold mClose
  cases e : recOf σ b with
  | none => exact hf
  | some k =>
    have hk := recOf_lt e
    dsimp only
    repeat' split
    all_goals first | exact hf | exact fr_upI (fr_upA (fr_shut hf hk _ _) (by decide)) (Or.inr hk)
theorem fr_open (hf : IFr σ) (b : Int32) (q : Int64) (a c : Int32) : IFr (mOpen σ b q a c).2 := by
  unfold mOpen
  cases e : recOf σ b with
  | none => exact hf
  | some k =>
    have hk := recOf_lt e
    dsimp only
    repeat' split
    all_goals first | exact hf | exact fr_uns hf hk _ | exact fr_note (fr_uns hf hk _)
theorem fr_found (hf : IFr σ) (b t : Int32) : IFr (mFoundF σ b t).2 := by
  unfold mFoundF mFound
  cases e : recOf σ b with
  | none => exact hf
  | some k =>
    have hk := recOf_lt e
    dsimp only
    repeat' split
    all_goals first | exact hf | exact fr_upI hf (Or.inl (by decide)) | exact fr_ex hf hk _ _ | exact fr_ex (fr_bring (fr_put hf _ _) _ _) hk _ _
theorem fr_weight (hf : IFr σ) (b : Int32) (q : Int64) : IFr (mWeightF σ b q).2 := by
  unfold mWeightF mWeight
  cases e : recOf σ b with
  | none => exact hf
  | some k =>
    have hk := recOf_lt e
    dsimp only
    repeat' split
    all_goals first | exact hf | exact fr_note hf | exact fr_note (fr_upI (fr_upJ hf (Or.inl (by decide))) (Or.inr hk))
theorem fr_move (hf : IFr σ) (b w : Int32) : IFr (mMove σ b w).2 := by
  unfold mMove
  cases e : recOf σ b with
  | none => exact hf
  | some k =>
    dsimp only
    repeat' split
    all_goals first | exact hf | exact fr_bring hf _ _
end FRESH
