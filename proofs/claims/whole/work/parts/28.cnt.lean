/-! what lies within a receptacle: the two ways of counting agree -/
section CNT
variable {σ : ST}
theorem anc_kind (hM : MB σ) : ∀ (f k : Nat) (x : Int32), k < σ.1 → x ∈ ancR σ f (nI (1001 + k)) → ∃ j, j < σ.1 ∧ x = nI (1001 + j) ∧ sI σ 10 k ≤ sI σ 10 j := by
  have h60 := hM.2.1
  intro f
  induction f with
  | zero => intro k x _ h; exact absurd h List.not_mem_nil
  | succ f ih =>
    intro k x hk h
    rw [ancR, if_neg (nI1001_ne (by omega)), nI_clamp (by omega), List.mem_cons] at h
    rcases h with rfl | h
    · exact ⟨k, hk, rfl, Int32.le_refl _⟩
    · rcases hM.2.2.1 (1001 + k) (by omega) with e | ⟨i, hi, e⟩
      · rw [e, ancR_0] at h
        exact absurd h List.not_mem_nil
      · rw [e] at h
        obtain ⟨j, hj, e2, h2⟩ := ih i x hi h
        exact ⟨j, hj, e2, Int32.le_trans (Int32.le_of_lt (hM.2.2.2.2 k i hk hi e)) h2⟩
theorem lie_kind (hM : MB σ) {k : Nat} {x : Int32} (hk : k < σ.1) (h : lieB σ (1001 + k) x = true) : ∃ j, j < σ.1 ∧ x = nI (1001 + j) ∧ sI σ 10 k < sI σ 10 j := by
  have h60 := hM.2.1
  unfold lieB at h
  have h := of_decide_eq_true h
  rcases hM.2.2.1 (1001 + k) (by omega) with e | ⟨i, hi, e⟩
  · rw [e, ancR_0] at h
    exact absurd h List.not_mem_nil
  · rw [e] at h
    obtain ⟨j, hj, e2, h2⟩ := anc_kind hM 4 i x hi h
    exact ⟨j, hj, e2, Int32.lt_of_lt_of_le (hM.2.2.2.2 k i hk hi e) h2⟩
theorem lie_self (hM : MB σ) {k : Nat} (hk : k < σ.1) : lieB σ (1001 + k) (nI (1001 + k)) = false := by
  have h60 := hM.2.1
  cases e : lieB σ (1001 + k) (nI (1001 + k)) with
  | false => rfl
  | true =>
    obtain ⟨j, hj, e2, h2⟩ := lie_kind hM hk e
    have e3 := (nI_eq (by omega) (by omega)).mp e2
    have e4 : k = j := by omega
    subst e4
    exact absurd h2 (Int32.lt_irrefl)
theorem lie_hold {t : Nat} {b : Int32} (h : lieB σ t b = true) : ¬ sI σ 7 t = 0 := by
  intro e
  unfold lieB at h
  rw [e, ancR_0] at h
  exact absurd (of_decide_eq_true h) List.not_mem_nil
theorem lie_okT (h1 : I1 σ) {t : Nat} (ht : t < 1061) {b : Int32} (h : lieB σ t b = true) : okT σ.1 t := by
  by_cases e : okT σ.1 t
  · exact e
  · exact absurd (h1.2.1 t ht e) (lie_hold h)
theorem lie_with (hM : MB σ) (h1 : I1 σ) {t : Nat} (ht : t < 1061) {b : Int32} (hb : ¬ b = 0) : lieB σ t b = withinB σ (sI σ 7 t) b := by
  unfold lieB withinB
  exact (with_mem hM h1 hb 4 61 _ (by omega) (hM.start ht)).symm
def rowsM (σ : ST) : Prop := ∀ k, k < σ.1 → RowM σ (nI (1001 + k)) (sR σ (rc k 0))
theorem sum_rows {G : Type} {ad : G → G → G} {z : G} (hm : cmL ad z) (w : Nat → G) (hM : MB σ) (h1 : I1 σ) (hr : rowsM σ) {b : Int32} (hb : ¬ b = 0) : suN ad z (fun k => suL ad z w (sR σ (rc k 0))) (fun k => withinB σ (nI (1001 + k)) b) σ.1 = suN ad z w (fun i => decide (1 ≤ i) && lieB σ i b) 1061 := by
  have h60 := hM.2.1
  have e1 : suN ad z (fun k => suL ad z w (sR σ (rc k 0))) (fun k => withinB σ (nI (1001 + k)) b) σ.1 = suN ad z (fun k => suN ad z w (fun i => decide (1 ≤ i ∧ sI σ 7 i = nI (1001 + k))) 1061) (fun k => withinB σ (nI (1001 + k)) b) σ.1 := by
    refine suN_congr ad z σ.1 (fun _ _ => rfl) (fun k hk _ => ?_)
    have h := hr k hk
    refine (suL_of (ad := ad) (z := z) hm (n := 1061) (by decide) _ _ h.nodup (fun x hx => ?_) (fun t ht => ?_)).symm
    · obtain ⟨t, g1, g2, g3, -⟩ := h.2.1 x hx
      exact ⟨t, g2, g3⟩
    · rw [decide_eq_true_eq]
      constructor
      · rintro ⟨g1, g2⟩
        exact h.2.2.1 t g1 ht g2
      · intro hm
        obtain ⟨u, g1, g2, g3, g4, -⟩ := h.2.1 _ hm
        have e := (nI_eq (by omega) (by omega)).mp g3
        subst e
        exact ⟨g1, g4⟩
  have e2 : suN ad z (fun k => suN ad z w (fun i => decide (1 ≤ i ∧ sI σ 7 i = nI (1001 + k))) 1061) (fun k => withinB σ (nI (1001 + k)) b) σ.1 = suN ad z (fun k => suN ad z w (fun i => decide (k < 60 ∧ 1 ≤ i ∧ sI σ 7 i = nI (1001 + k))) 1061) (fun k => withinB σ (nI (1001 + k)) b) σ.1 := by
    refine suN_congr ad z σ.1 (fun _ _ => rfl) (fun k hk _ => ?_)
    refine suN_congr ad z 1061 (fun i _ => ?_) (fun _ _ _ => rfl)
    exact decide_eq_decide.mpr ⟨fun q => ⟨by omega, q⟩, fun q => q.2⟩
  have e3 := suN_swap (ad := ad) (z := z) hm (w := w) (n := 1061) (Q := fun k => withinB σ (nI (1001 + k)) b) (R := fun i k => decide (k < 60 ∧ 1 ≤ i ∧ sI σ 7 i = nI (1001 + k))) (fun i j k _ hj hk => by
    have hj := of_decide_eq_true hj
    have hk := of_decide_eq_true hk
    have e := (nI_eq (by omega) (by omega)).mp (hj.2.2.symm.trans hk.2.2)
    omega) σ.1
  rw [e1, e2, e3]
  refine suN_congr ad z 1061 (fun i hi => ?_) (fun _ _ _ => rfl)
  rw [lie_with hM h1 hi hb]
  rcases hM.2.2.1 i hi with e | ⟨k, hk, e⟩
  · have f1 : withinB σ (sI σ 7 i) b = false := by rw [e]; unfold withinB; rw [withF, if_pos rfl]
    rw [f1, Bool.and_false]
    rw [List.any_eq_false]
    intro k hk h
    rw [Bool.and_eq_true] at h
    have hk := List.mem_range.mp hk
    have h2 := of_decide_eq_true h.2
    exact nI1001_ne h2.1 (h2.2.2.symm.trans e)
  · rw [e]
    by_cases hi1 : 1 ≤ i
    · rw [decide_eq_true hi1, Bool.true_and]
      cases hw : withinB σ (nI (1001 + k)) b with
      | true => exact List.any_eq_true.mpr ⟨k, List.mem_range.mpr hk, by rw [hw, Bool.true_and]; exact decide_eq_true ⟨by omega, hi1, rfl⟩⟩
      | false =>
        rw [List.any_eq_false]
        intro j hj h
        rw [Bool.and_eq_true] at h
        have h2 := of_decide_eq_true h.2
        have e5 := (nI_eq (by omega) (by omega)).mp h2.2.2.symm
        have e6 : j = k := by omega
        subst e6
        rw [hw] at h
        exact absurd h.1 (by decide)
    · rw [decide_eq_false hi1, Bool.false_and]
      rw [List.any_eq_false]
      intro j hj h
      rw [Bool.and_eq_true] at h
      exact hi1 (of_decide_eq_true h.2).2.1
theorem csum_su (σ : ST) (b : Int32) : ∀ K, csum σ b K = nI (1 + suN (fun a b : Nat => a + b) 0 (fun k => (sR σ (rc k 0)).length) (fun k => withinB σ (nI (1001 + k)) b) K) := by
  intro K
  induction K with
  | zero => rfl
  | succ K ih =>
    rw [csum, suN, ih, show (1001 : Int32) + nI K = nI (1001 + K) from nI_add 1001 K]
    by_cases h : withinB σ (nI (1001 + K)) b = true
    · rw [if_pos h, if_pos h, nI_add, Nat.add_assoc]
    · rw [if_neg h, if_neg h]
theorem brN_su (σ : ST) (tn : Nat) : ∀ K, brN σ tn K = suN (fun a b : Nat => a + b) 0 (fun _ => 1) (fun i => decide (1 ≤ i) && brC σ tn i) K := by
  intro K
  induction K with
  | zero => rfl
  | succ K ih =>
    rw [brN, suN, ih]
    by_cases h : 1 ≤ K ∧ brC σ tn K = true
    · rw [if_pos h, if_pos (by rw [decide_eq_true h.1, h.2]; rfl)]
    · rw [if_neg h, if_neg (fun q => h (by rw [Bool.and_eq_true] at q; exact ⟨of_decide_eq_true q.1, q.2⟩))]
theorem brC_lie (hM : MB σ) (h1 : I1 σ) {k x : Nat} (hk : k < σ.1) (hx : x < 1061) : brC σ (1001 + k) x = (decide (x = 1001 + k) || lieB σ x (nI (1001 + k))) := by
  unfold brC
  cases e : (decide (x = 1001 + k) || lieB σ x (nI (1001 + k))) with
  | false => rw [Bool.and_false]
  | true =>
    rw [Bool.and_true]
    rw [Bool.or_eq_true] at e
    rcases e with e | e
    · have e := of_decide_eq_true e
      subst e
      exact okT_thing hM.2.1 (Or.inr ⟨by omega, by omega⟩)
    · exact okT_thing hM.2.1 (lie_okT h1 hx e)
/-- all that lies in it, and itself -/
theorem csum_brN (hM : MB σ) (h1 : I1 σ) (hr : rowsM σ) {k : Nat} (hk : k < σ.1) : csum σ (nI (1001 + k)) σ.1 = nI (brN σ (1001 + k) 1061) := by
  have h60 := hM.2.1
  rw [csum_su, brN_su]
  have e1 : suN (fun a b : Nat => a + b) 0 (fun j => (sR σ (rc j 0)).length) (fun j => withinB σ (nI (1001 + j)) (nI (1001 + k))) σ.1 = suN (fun a b : Nat => a + b) 0 (fun j => suL (fun a b : Nat => a + b) 0 (fun _ => 1) (sR σ (rc j 0))) (fun j => withinB σ (nI (1001 + j)) (nI (1001 + k))) σ.1 :=
    suN_congr _ _ σ.1 (fun _ _ => rfl) (fun j _ _ => (suL_len _).symm)
  rw [e1, sum_rows natL _ hM h1 hr (nI1001_ne (by omega))]
  have hb : brC σ (1001 + k) (1001 + k) = true := by rw [brC_lie hM h1 hk (by omega), decide_eq_true rfl, Bool.true_or]
  rw [suN_take (ad := fun a b : Nat => a + b) (z := 0) natL (P := fun i => decide (1 ≤ i) && brC σ (1001 + k) i) (t := 1001 + k) (by rw [hb, decide_eq_true (by omega)]; rfl) 1061 (by omega)]
  congr 2
  refine suN_congr _ _ 1061 (fun i hi => ?_) (fun _ _ _ => rfl)
  rw [brC_lie hM h1 hk hi]
  by_cases e : i = 1001 + k
  · subst e
    rw [lie_self hM hk, decide_eq_true rfl]
    simp
  · rw [decide_eq_false e, Bool.false_or]
    simp
theorem longL : cmL (fun a b : Int64 => a + b) 0 := ⟨Int64.add_comm, Int64.add_assoc, Int64.zero_add⟩
def itW (t : Nat) : Int64 := if 1 ≤ t ∧ t ≤ 999 then (5 + 10 * (nI t - nI t / 50 * 50)).toInt64 else 0
theorem itW_own : ∀ t, t < 1000 → (5 + 10 * (nI t - nI t / 50 * 50)).toInt64 = 5 + 10 * (nI (t % 50)).toInt64 := by decide +kernel
theorem suL_snoc {w : Nat → Int64} (x : Int32) : ∀ l : List Int32, suL (fun a b : Int64 => a + b) 0 w (l ++ [x]) = suL (fun a b : Int64 => a + b) 0 w l + w x.toNatClampNeg := by
  intro l
  induction l with
  | nil => show w x.toNatClampNeg + 0 = 0 + _; rw [Int64.add_zero, Int64.zero_add]
  | cons y l ih => rw [List.cons_append, suL, ih, suL, Int64.add_assoc]
theorem items_su {l : List Int32} (hl : ∀ x ∈ l, ∃ t, t < 1061 ∧ x = nI t) : ∀ i, i ≤ l.length → itemsW l i = suL (fun a b : Int64 => a + b) 0 itW (l.take i) := by
  intro i
  induction i with
  | zero => intro _; rfl
  | succ i ih =>
    intro hi
    have e1 : l.take (i + 1) = l.take i ++ [l.getD i 0] := by
      rw [List.take_add_one, List.getD_eq_getElem?_getD, List.getElem?_eq_getElem (by omega)]
      rfl
    obtain ⟨t, ht, et⟩ := hl (l.getD i 0) (row_mem.mpr ⟨i, by omega, rfl⟩)
    rw [e1, suL_snoc, itemsW, ih (by omega), et, nI_clamp (by omega)]
    unfold itW
    by_cases c : 1 ≤ t ∧ t ≤ 999
    · rw [if_pos c, if_pos (itemB_iff.mpr (by rw [nI_toInt (by omega)]; omega))]
    · rw [if_neg c, if_neg (fun q => c (by have q := itemB_iff.mp q; rw [nI_toInt (by omega)] at q; omega)), Int64.add_zero]
theorem wsum_su (σ : ST) (b : Int32) : ∀ K, wsum σ b K = suN (fun a b : Int64 => a + b) 0 (fun i => (100 * (sI σ (rb i) 0).toInt64 + 100) + itemsW (sR σ (rc i 0)) (sR σ (rc i 0)).length) (fun k => withinB σ (nI (1001 + k)) b) K := by
  intro K
  induction K with
  | zero => rfl
  | succ K ih =>
    rw [wsum, suN, ih, show (1001 : Int32) + nI K = nI (1001 + K) from nI_add 1001 K]
theorem mws_su (σ : ST) (b : Nat) : ∀ K, mws σ b K = ownM σ b + suN (fun a b : Int64 => a + b) 0 (ownM σ) (fun i => decide (1 ≤ i) && lieB σ i (nI b)) K := by
  intro K
  induction K with
  | zero => show _ = _ + (0 : Int64); rw [Int64.add_zero]; rfl
  | succ K ih =>
    rw [mws, suN, ih]
    by_cases h : 1 ≤ K ∧ lieB σ K (nI b) = true
    · rw [if_pos h, if_pos (by rw [decide_eq_true h.1, h.2]; rfl), Int64.add_assoc]
    · rw [if_neg h, if_neg (fun q => h (by rw [Bool.and_eq_true] at q; exact ⟨of_decide_eq_true q.1, q.2⟩))]
theorem wsum_mws (hM : MB σ) (h1 : I1 σ) (hr : rowsM σ) {k : Nat} (hk : k < σ.1) : wsum σ (nI (1001 + k)) σ.1 = mws σ (1001 + k) 1061 := by
  have h60 := hM.2.1
  rw [wsum_su, mws_su, suN_add (ad := fun a b : Int64 => a + b) (z := 0) longL]
  have e1 : suN (fun a b : Int64 => a + b) 0 (fun i => itemsW (sR σ (rc i 0)) (sR σ (rc i 0)).length) (fun j => withinB σ (nI (1001 + j)) (nI (1001 + k))) σ.1 = suN (fun a b : Int64 => a + b) 0 itW (fun i => decide (1 ≤ i) && lieB σ i (nI (1001 + k))) 1061 := by
    rw [← sum_rows longL itW hM h1 hr (nI1001_ne (by omega))]
    refine suN_congr _ _ σ.1 (fun _ _ => rfl) (fun j hj _ => ?_)
    rw [items_su (fun x hx => ?_) _ (Nat.le_refl _), List.take_length]
    obtain ⟨t, g1, g2, g3, -⟩ := (hr j hj).2.1 x hx
    exact ⟨t, g2, g3⟩
  have hno : ∀ i, i < 1061 → lieB σ i (nI (1001 + k)) = true → okT σ.1 i := fun i hi h => lie_okT h1 hi h
  have e2 : ∀ w : Nat → Int64, suN (fun a b : Int64 => a + b) 0 w (fun i => decide (1 ≤ i) && lieB σ i (nI (1001 + k))) 1061 = suN (fun a b : Int64 => a + b) 0 w (fun i => decide (1 ≤ i) && lieB σ i (nI (1001 + k))) 1001 + suN (fun a b : Int64 => a + b) 0 (fun i => w (1001 + i)) (fun i => lieB σ (1001 + i) (nI (1001 + k))) 60 := by
    intro w
    rw [show 1061 = 1001 + 60 from rfl, suN_shift (ad := fun a b : Int64 => a + b) (z := 0) longL]
    refine congrArg (HAdd.hAdd _) ?_
    refine suN_congr _ _ 60 (fun i _ => ?_) (fun _ _ _ => rfl)
    rw [decide_eq_true (by omega), Bool.true_and]
  have e3 : suN (fun a b : Int64 => a + b) 0 itW (fun i => decide (1 ≤ i) && lieB σ i (nI (1001 + k))) 1061 = suN (fun a b : Int64 => a + b) 0 (ownM σ) (fun i => decide (1 ≤ i) && lieB σ i (nI (1001 + k))) 1001 := by
    rw [e2 itW, suN_zero (ad := fun a b : Int64 => a + b) (z := 0) longL 60 (fun i _ _ => by unfold itW; rw [if_neg (by omega)]), Int64.add_zero]
    refine suN_congr _ _ 1001 (fun _ _ => rfl) (fun i hi h => ?_)
    rw [Bool.and_eq_true] at h
    have h2 := hno i (by omega) h.2
    unfold okT at h2
    unfold itW ownM
    rw [if_pos (by omega), if_pos (by omega), itW_own i (by omega)]
  have e4 : suN (fun a b : Int64 => a + b) 0 (fun i => 100 * (sI σ (rb i) 0).toInt64 + 100) (fun j => withinB σ (nI (1001 + j)) (nI (1001 + k))) σ.1 = ownM σ (1001 + k) + suN (fun a b : Int64 => a + b) 0 (fun i => ownM σ (1001 + i)) (fun i => lieB σ (1001 + i) (nI (1001 + k))) 60 := by
    have f1 : suN (fun a b : Int64 => a + b) 0 (fun i => 100 * (sI σ (rb i) 0).toInt64 + 100) (fun j => withinB σ (nI (1001 + j)) (nI (1001 + k))) σ.1 = suN (fun a b : Int64 => a + b) 0 (fun i => ownM σ (1001 + i)) (fun j => decide (j = k) || lieB σ (1001 + j) (nI (1001 + k))) σ.1 := by
      refine suN_congr _ _ σ.1 (fun j hj => within_bag hM h1 hj hk) (fun j hj _ => ?_)
      unfold ownM
      rw [if_neg (by omega), show 1001 + j - 1001 = j by omega, h1.2.2 j hj]
    have f2 : suN (fun a b : Int64 => a + b) 0 (fun i => ownM σ (1001 + i)) (fun j => decide (j = k) || lieB σ (1001 + j) (nI (1001 + k))) 60 = suN (fun a b : Int64 => a + b) 0 (fun i => ownM σ (1001 + i)) (fun j => decide (j = k) || lieB σ (1001 + j) (nI (1001 + k))) σ.1 := by
      obtain ⟨d, hd⟩ : ∃ d, 60 = σ.1 + d := ⟨60 - σ.1, by omega⟩
      rw [hd, suN_shift (ad := fun a b : Int64 => a + b) (z := 0) longL, suN_none _ _ d (fun i hi => ?_), Int64.add_zero]
      have g1 : decide (σ.1 + i = k) = false := decide_eq_false (by omega)
      rw [g1, Bool.false_or]
      cases e : lieB σ (1001 + (σ.1 + i)) (nI (1001 + k)) with
      | false => rfl
      | true =>
        have h2 := hno _ (by omega) e
        unfold okT at h2
        omega
    rw [f1, ← f2, suN_take (ad := fun a b : Int64 => a + b) (z := 0) longL (P := fun j => decide (j = k) || lieB σ (1001 + j) (nI (1001 + k))) (t := k) (by rw [decide_eq_true rfl, Bool.true_or]) 60 (by omega)]
    congr 1
    refine suN_congr _ _ 60 (fun j hj => ?_) (fun _ _ _ => rfl)
    by_cases e : j = k
    · subst e
      rw [lie_self hM hk, decide_eq_true rfl]
      rfl
    · rw [decide_eq_false e, Bool.false_or]
      simp
  rw [e1, e3, e4, e2 (ownM σ), Int64.add_assoc]
  exact congrArg (fun q => ownM σ (1001 + k) + q) (Int64.add_comm _ _)
end CNT
