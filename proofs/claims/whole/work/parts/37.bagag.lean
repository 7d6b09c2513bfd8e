/-! the two sides' answers: bag; the start -/
section STEP8
variable {σ : ST} {N : Nat}
/-- what is not yet in use is as it was at the start -/
def IFr (σ : ST) : Prop := ∀ k, σ.1 ≤ k → sI σ 11 k = 0 ∧ sI σ 12 k = 0 ∧ sJ σ 13 k = 0 ∧ sI σ 14 k = 0 ∧ sI σ 16 k = 0 ∧ sI σ 19 k = 0 ∧ sI σ 21 k = 0
theorem newI (σ : ST) (p : Int32) (c : Nat) : sI (newR σ p) c = if c = rb σ.1 then (fun i => if i = 0 then p else 0) else sI σ c := by
  by_cases h : c = rb σ.1
  · rw [if_pos h, h]
    exact va_up_self _ _ _
  · rw [if_neg h]
    exact va_up_ne _ _ h
theorem newJ (σ : ST) (p : Int32) (c : Nat) : sJ (newR σ p) c = if c = rb σ.1 then (fun _ => 0) else sJ σ c := by
  by_cases h : c = rb σ.1
  · rw [if_pos h, h]
    exact va_up_self _ _ _
  · rw [if_neg h]
    exact va_up_ne _ _ h
theorem newRr (σ : ST) (p : Int32) (c : Nat) : sR (newR σ p) c = if rb σ.1 ≤ c then [] else sR σ c := id rfl
def bgS (σ : ST) (p : Int32) : ST := upI (upI (newR σ p) 10 σ.1 p) 6 5 (nI (σ.1 + 1))
theorem kind_nI {p : Int32} (h : ¬ (p < 0 ∨ 3 < p)) : ∃ d, d ≤ 3 ∧ p = nI d := by
  obtain ⟨d, hd, e⟩ := nI_of2 (M := 3) (n := 3) rfl (fun z => h (Or.inl z)) (Int32.not_lt.mp (fun z => h (Or.inr z)))
  exact ⟨d, hd, e⟩
theorem bag_inv (h : Inv N σ) (hf : IFr σ) (h60 : σ.1 < 60) {p : Int32} (hp : ¬ (p < 0 ∨ 3 < p)) : Inv (N + 1) (bgS σ p) ∧ IFr (bgS σ p) := by
  obtain ⟨hM, i1, i2, i3, i4, i5, i6, i7, i8, i9, iN⟩ := id h
  have e0 : (bgS σ p).1 = σ.1 + 1 := id rfl
  have aI : ∀ c, c < 24 → c ≠ 6 → c ≠ 10 → sI (bgS σ p) c = sI σ c := by
    intro c h1 h2 h3
    unfold bgS
    rw [ev1, if_neg h2, ev1, if_neg h3, newI, if_neg (by unfold rb; omega)]
  have aJ : ∀ c, c < 24 → sJ (bgS σ p) c = sJ σ c := by
    intro c h1
    unfold bgS
    rw [ev6, ev6, newJ, if_neg (by unfold rb; omega)]
  have a10 : sI (bgS σ p) 10 = upd (sI σ 10) σ.1 p := by
    unfold bgS
    rw [ev1, if_neg (by decide), ev1, if_pos rfl, newI, if_neg (by unfold rb; omega)]
  have a6 : sI (bgS σ p) 6 = upd (sI σ 6) 5 (nI (σ.1 + 1)) := by
    unfold bgS
    rw [ev1, if_pos rfl, ev1, if_neg (by decide), newI, if_neg (by unfold rb; omega)]
  have ab : ∀ j, sI (bgS σ p) (rb j) = if j = σ.1 then (fun i => if i = 0 then p else 0) else sI σ (rb j) := by
    intro j
    unfold bgS
    rw [ev1, if_neg (by unfold rb; omega), ev1, if_neg (by unfold rb; omega), newI]
    by_cases ej : j = σ.1
    · rw [if_pos (by rw [ej]), if_pos ej]
    · rw [if_neg (fun z => ej (by unfold rb at z; omega)), if_neg ej]
  have aj : ∀ j, sJ (bgS σ p) (rb j) = if j = σ.1 then (fun _ => 0) else sJ σ (rb j) := by
    intro j
    unfold bgS
    rw [ev6, ev6, newJ]
    by_cases ej : j = σ.1
    · rw [if_pos (by rw [ej]), if_pos ej]
    · rw [if_neg (fun z => ej (by unfold rb at z; omega)), if_neg ej]
  have r0 : ∀ j i, j < σ.1 → i < 6 → sR (bgS σ p) (rc j i) = sR σ (rc j i) := by
    intro j i hj hi
    unfold bgS
    rw [ev8, ev8, newRr, if_neg (by unfold rb rc; omega)]
  have r1 : ∀ i, sR (bgS σ p) (rc σ.1 i) = [] := by
    intro i
    unfold bgS
    rw [ev8, ev8, newRr, if_pos (by unfold rb rc; omega)]
  have s7 := aI 7 (by decide) (by decide) (by decide)
  have s8 := aI 8 (by decide) (by decide) (by decide)
  have s2 := aI 2 (by decide) (by decide) (by decide)
  have s3 := aI 3 (by decide) (by decide) (by decide)
  have s9 := aI 9 (by decide) (by decide) (by decide)
  have s11 := aI 11 (by decide) (by decide) (by decide)
  have s12 := aI 12 (by decide) (by decide) (by decide)
  have s14 := aI 14 (by decide) (by decide) (by decide)
  have s16 := aI 16 (by decide) (by decide) (by decide)
  have s17 := aI 17 (by decide) (by decide) (by decide)
  have s18 := aI 18 (by decide) (by decide) (by decide)
  have s19 := aI 19 (by decide) (by decide) (by decide)
  have s20 := aI 20 (by decide) (by decide) (by decide)
  have s21 := aI 21 (by decide) (by decide) (by decide)
  have s4 := aI 4 (by decide) (by decide) (by decide)
  have t13 := aJ 13 (by decide)
  have t15 := aJ 15 (by decide)
  have t22 := aJ 22 (by decide)
  have fr := hf σ.1 (Nat.le_refl _)
  have hold : ∀ t k, t < 1061 → sI σ 7 t = nI (1001 + k) → k < 61 → k < σ.1 := by
    intro t k ht ek hk
    rcases hM.2.2.1 t ht with z | ⟨j, hj, z⟩
    · rw [z] at ek
      have := (nI_eq0 (by omega)).mp ek.symm
      omega
    · have := (nI_eq (by omega) (by omega)).mp (ek.symm.trans z)
      omega
  obtain ⟨d, hd, ed⟩ := kind_nI hp
  have row : ∀ (b : Int32) (l : List Int32), RowM σ b l → RowM (bgS σ p) b l := by
    intro b l hr
    unfold RowM at *
    rw [s7, s8]
    exact hr
  refine ⟨⟨?_, ⟨?_, ?_, ?_⟩, ⟨?_, ?_⟩, ⟨?_, ?_⟩, ?_, ?_, ?_, ?_, ?_, ?_, ?_⟩, ?_⟩
  · unfold MB
    rw [e0, a6, s7, a10]
    refine ⟨upd_s _ _ _, by omega, fun t ht => ?_, fun k hk => ?_, fun j k hj hk ee => ?_⟩
    · rcases hM.2.2.1 t ht with z | ⟨j, hj, z⟩
      · exact Or.inl z
      · exact Or.inr ⟨j, by omega, z⟩
    · by_cases ek : k = σ.1
      · rw [ek, upd_s]
        exact ⟨d, hd, ed⟩
      · rw [upd_n _ _ ek]
        exact hM.2.2.2.1 k (by omega)
    · have hk2 := hold _ k (by omega) ee (by omega)
      have hj2 : j < σ.1 := by
        rcases Nat.lt_or_ge j σ.1 with z | z
        · exact z
        · have e9 := i1.2.1 (1001 + j) (by omega) (by unfold okT; omega)
          rw [e9] at ee
          exact absurd ee.symm (nI1001_ne (by omega))
      rw [upd_n _ _ (by omega), upd_n _ _ (by omega)]
      exact hM.2.2.2.2 j k hj2 hk2 ee
  · rw [s2, s7]
    exact i1.1
  · intro t ht hok
    rw [s7]
    exact i1.2.1 t ht (fun z => hok (by rw [e0]; unfold okT at *; omega))
  · intro k hk
    rw [ab, a10]
    by_cases ek : k = σ.1
    · rw [if_pos ek, ek, upd_s]
      rfl
    · rw [if_neg ek, upd_n _ _ ek]
      exact i1.2.2 k (by omega)
  · obtain ⟨m, m1, m2, m3⟩ := i2.1
    rw [a6, s8, upd_n _ _ (by decide)]
    exact ⟨m, by omega, m2, m3⟩
  · intro k hk
    rw [e0] at hk
    by_cases ek : k = σ.1
    · rw [ek, r1]
      refine ⟨Nat.zero_le _, fun x hx => absurd hx List.not_mem_nil, fun t ht1 ht ee => ?_, List.Pairwise.nil⟩
      rw [s7] at ee
      have := hold t σ.1 ht ee (by omega)
      omega
    · rw [r0 k 0 (by omega) (by decide)]
      exact row _ _ (i2.2 k (by omega))
  · rw [s3, s7, s9]
    exact i3.1
  · intro t k ht hk ee
    rw [e0] at hk
    rw [s7] at ee
    rw [s9]
    exact i3.2 t k ht (hold t k ht ee (by omega)) ee
  · intro k hk
    rw [e0] at hk
    unfold checkedB
    rw [ab, aj, s11, s12, t13, s14]
    by_cases ek : k = σ.1
    · rw [if_pos ek, if_pos ek, ek, fr.1, fr.2.1, fr.2.2.1, fr.2.2.2.1]
      exact ⟨rfl, rfl, rfl, by simp [bI], fun z => absurd rfl z⟩
    · rw [if_neg ek, if_neg ek]
      exact i4 k (by omega)
  · intro k hk
    rw [e0] at hk
    rw [s16, s17]
    by_cases ek : k = σ.1
    · rw [ek, r1, fr.2.2.2.2.1]
      exact ⟨rfl, Nat.zero_le _, List.nodup_nil, fun i hi => absurd hi (Nat.not_lt_zero i)⟩
    · rw [r0 k 1 (by omega) (by decide)]
      exact i5 k (by omega)
  · intro k hk hc
    rw [e0] at hk
    rw [s12] at hc
    by_cases ek : k = σ.1
    · rw [ek] at hc
      exact absurd fr.2.1 hc
    · rw [r0 k 1 (by omega) (by decide), r0 k 4 (by omega) (by decide), misL_cg s17 s18]
      exact i6 k (by omega) hc
  · intro k hk
    rw [e0] at hk
    rw [s19, s20]
    by_cases ek : k = σ.1
    · rw [ek, r1, fr.2.2.2.2.2.1]
      exact ⟨rfl, Nat.zero_le _, fun i hi => absurd hi (Nat.not_lt_zero i)⟩
    · rw [r0 k 5 (by omega) (by decide)]
      exact i7 k (by omega)
  · intro k hk hc
    rw [e0] at hk
    rw [s12] at hc
    by_cases ek : k = σ.1
    · rw [ek] at hc
      exact absurd fr.2.1 hc
    · rw [r0 k 2 (by omega) (by decide), t13, t15]
      exact i8 k (by omega) hc
  · intro k hk
    rw [e0] at hk
    rw [s21, t22]
    by_cases ek : k = σ.1
    · rw [ek, r1, fr.2.2.2.2.2.2]
      exact ⟨rfl, Nat.zero_le _, fun i hi => absurd hi (Nat.not_lt_zero i)⟩
    · rw [r0 k 3 (by omega) (by decide)]
      exact i9 k (by omega)
  · exact (iN.mono (Nat.le_succ N)).cg s4 (aJ 5 (by decide)) (by rw [aJ 0 (by decide)]) (aJ 23 (by decide)) (by rw [aJ 6 (by decide)]) (by rw [aJ 6 (by decide)]) (by rw [a6, upd_n _ _ (by decide)])
  · intro k hk
    rw [e0] at hk
    rw [s11, s12, t13, s14, s16, s19, s21]
    exact hf k (by omega)
theorem bag_ag (h : Inv N σ) (hf : IFr σ) (p : Int32) : (xBag σ p).1 = (mBag (xBag σ p).2 σ.1 p).1 ∧ sI (xBag σ p).2 6 5 = nI σ.1 ∧ Inv (N + 1) (mBag (xBag σ p).2 σ.1 p).2 ∧ IFr (mBag (xBag σ p).2 σ.1 p).2 := by
  have hM := h.1
  have hm1 := h.mono (Nat.le_succ N)
  by_cases c : p < 0 ∨ 3 < p
  · have ex : xBag σ p = (-12, σ) := by unfold xBag; rw [if_pos c]
    have em : mBag σ σ.1 p = (-12, σ) := by
      unfold mBag
      by_cases c1 : p < 0
      · rw [if_pos c1]
      · rw [if_neg c1, if_pos (Int32.not_le.mpr (c.resolve_left c1))]
    rw [ex, em]
    exact ⟨rfl, hM.1, hm1, hf⟩
  · have c1 : ¬ p < 0 := fun z => c (Or.inl z)
    have c2 : p ≤ 3 := Int32.not_lt.mp (fun z => c (Or.inr z))
    by_cases c6 : σ.1 < 60
    · have ex : xBag σ p = (1000 + nI (σ.1 + 1), newR σ p) := by unfold xBag; rw [if_neg c, if_pos c6]
      have em : mBag (newR σ p) σ.1 p = (nI (1001 + σ.1), bgS σ p) := by
        unfold mBag
        rw [if_neg c1, if_neg (fun z => z c2), if_neg (by omega)]
        rfl
      rw [ex]
      show _ = (mBag (newR σ p) σ.1 p).1 ∧ sI (newR σ p) 6 5 = nI σ.1 ∧ Inv (N + 1) (mBag (newR σ p) σ.1 p).2 ∧ IFr (mBag (newR σ p) σ.1 p).2
      rw [em]
      refine ⟨?_, ?_, bag_inv h hf c6 c⟩
      · show (1000 : Int32) + nI (σ.1 + 1) = nI (1001 + σ.1)
        rw [show (1000 : Int32) = nI 1000 from rfl, nI_add, show 1000 + (σ.1 + 1) = 1001 + σ.1 by omega]
      · rw [newI, if_neg (by unfold rb; omega)]
        exact hM.1
    · have ex : xBag σ p = (-14, σ) := by unfold xBag; rw [if_neg c, if_neg c6]
      have em : mBag σ σ.1 p = (-14, σ) := by
        unfold mBag
        have := hM.2.1
        rw [if_neg c1, if_neg (fun z => z c2), if_pos (by omega)]
      rw [ex]
      show _ = (mBag σ σ.1 p).1 ∧ sI σ 6 5 = nI σ.1 ∧ Inv (N + 1) (mBag σ σ.1 p).2 ∧ IFr (mBag σ σ.1 p).2
      rw [em]
      exact ⟨rfl, hM.1, hm1, hf⟩
end STEP8
