def lnS (σ : ST) (k : Nat) : Nat := (sI σ 16 k).toNatClampNeg
def exS (σ : ST) (k : Nat) : Nat := (sI σ 19 k).toNatClampNeg
def weS (σ : ST) (k : Nat) : Nat := (sI σ 21 k).toNatClampNeg
def ML (σ : ST) : Prop := ∀ k, k < σ.1 → sI σ 16 k = nI (lnS σ k) ∧ lnS σ k ≤ 12 ∧ sI σ 19 k = nI (exS σ k) ∧ exS σ k ≤ 12 ∧ sI σ 21 k = nI (weS σ k) ∧ weS σ k ≤ 6
theorem sealB_f1 {q : Int64} (h : q < 1) : sealB q = false := by
  unfold sealB; rw [decide_eq_false (Int64.not_le.mpr h)]; rfl
theorem sealB_f2 {q : Int64} (h : 1000000000 < q) : sealB q = false := by
  unfold sealB; rw [decide_eq_false (Int64.not_le.mpr h)]; simp
theorem sealB_t {q : Int64} (h : ¬ q < 1) (h2 : ¬ 1000000000 < q) : sealB q = true := by
  unfold sealB; rw [decide_eq_true (Int64.not_lt.mp h), decide_eq_true (Int64.not_lt.mp h2)]; rfl
theorem personB_f1 {w : Int32} (h : w < 0) : personB w = false := by
  unfold personB; rw [decide_eq_false (Int32.not_le.mpr h)]; rfl
theorem personB_f2 {w : Int32} (h : ¬ w ≤ 49) : personB w = false := by
  unfold personB; rw [decide_eq_false h]; simp
theorem personB_t {w : Int32} (h : ¬ w < 0) (h2 : w ≤ 49) : personB w = true := by
  unfold personB; rw [decide_eq_true (Int32.not_lt.mp h), decide_eq_true h2]; rfl
theorem orP_f1 {c : Int32} (h : c < -1) : orPerson c = false := by
  have h1 : ¬ c = -1 := fun e => by rw [e] at h; exact absurd h (by decide)
  have h2 : c < 0 := by
    rw [Int32.lt_iff_toInt_lt] at h ⊢
    have e1 : (-1 : Int32).toInt = -1 := rfl
    have e0 : (0 : Int32).toInt = 0 := rfl
    omega
  unfold orPerson; rw [decide_eq_false h1, personB_f1 h2]; rfl
theorem orP_f2 {c : Int32} (h : ¬ c ≤ 49) : orPerson c = false := by
  have h1 : ¬ c = -1 := fun e => by rw [e] at h; exact h (by decide)
  unfold orPerson; rw [decide_eq_false h1, personB_f2 h]; rfl
theorem orP_t {c : Int32} (h : ¬ c < -1) (h2 : c ≤ 49) : orPerson c = true := by
  unfold orPerson
  by_cases h1 : c = -1
  · rw [decide_eq_true h1]; rfl
  · rw [decide_eq_false h1, personB_t ?_ h2]
    · rfl
    · intro h3
      rw [Int32.lt_iff_toInt_lt] at h h3
      have e1 : (-1 : Int32).toInt = -1 := rfl
      have e0 : (0 : Int32).toInt = 0 := rfl
      have h4 : ¬ c.toInt = (-1 : Int32).toInt := fun e => h1 (Int32.toInt_inj.mp e)
      omega
def clrP (σ : ST) (k i : Nat) : Nat → Int32 := fun x => if 12 * k ≤ x ∧ x < 12 * k + i then 0 else sI σ 18 x
theorem clrP_0 (σ : ST) (k : Nat) : clrP σ k 0 = sI σ 18 := by
  funext x; unfold clrP; rw [if_neg (by omega)]
theorem clrP_s (σ : ST) (k i : Nat) : clrP σ k (i + 1) = upd (clrP σ k i) (12 * k + i) 0 := by
  funext x
  unfold clrP upd
  by_cases hx : x = 12 * k + i
  · rw [if_pos (by omega), if_pos hx]
  · rw [if_neg hx]
    show (if 12 * k ≤ x ∧ x < 12 * k + (i + 1) then 0 else sI σ 18 x) = (if 12 * k ≤ x ∧ x < 12 * k + i then 0 else sI σ 18 x)
    by_cases hc : 12 * k ≤ x ∧ x < 12 * k + i
    · rw [if_pos hc, if_pos (by omega)]
    · rw [if_neg hc, if_neg (by omega)]
def unsB (σ : ST) (k : Nat) (q : Int64) : ST := upI (upJ (upI (upI σ 11 k 0) 12 k 1) 15 k q) 19 k 0
def mBag (σ : ST) (c : Nat) (w : Int32) : Int32 × ST := if w < 0 then (-12, σ) else if ¬ w ≤ 3 then (-12, σ) else if c = 60 then (-14, σ) else (nI (1001 + c), upI (upI σ 10 c w) 6 5 (nI (c + 1)))
def mInside (σ : ST) (t : Int32) : Int32 := if thingB σ t = true then sI σ 7 t.toNatClampNeg else -11
def mPlace (σ : ST) (t : Int32) : Int32 := if thingB σ t = true then sI σ 9 t.toNatClampNeg else -11
def mDocument (σ : ST) (b i : Int32) : Int32 := match recOf σ b with
  | none => -11
  | some k => if i < 0 then 0 else if nI (lnS σ k) ≤ i then 0 else sI σ 17 (12 * k + i.toNatClampNeg)
def mMove (σ : ST) (b w : Int32) : Int32 × ST := match recOf σ b with
  | none => (-11, σ)
  | some k => if w < 0 then (-12, σ) else if ¬ w ≤ 9 then (-12, σ) else if sI σ 11 k = 0 then (-13, σ) else if ¬ sI σ 7 (1001 + k) = 0 then (-13, σ) else (nI (brN σ (1001 + k) 1061), mBring σ (1001 + k) w)
def mDiffer (σ : ST) (b i what : Int32) : Int32 := match recOf σ b with
  | none => -11
  | some k => if what < 0 then -12 else if ¬ what ≤ 1 then -12 else if sI σ 12 k = 0 then -13 else if i < 0 then -1 else mdF σ k (lnS σ k) (exS σ k) (weS σ k) i.toNatClampNeg what
def mFoundF (σ : ST) (b t : Int32) : Int32 × ST := match recOf σ b with
  | none => (-11, σ)
  | some k => if thingB σ t = false then (-11, σ) else mFound σ k (lnS σ k) (exS σ k) b t
def mWeightF (σ : ST) (b : Int32) (q : Int64) : Int32 × ST := match recOf σ b with
  | none => (-11, σ)
  | some k => mWeight σ k (weS σ k) q
theorem sI_mPut7 (σ : ST) (b : Int32) (t x : Nat) : sI (mPut σ b t) 7 x = if x = t then b else sI σ 7 x := by
  have h : sI (mPut σ b t) 7 x = sI (upI σ 7 t b) 7 x := rfl
  rw [h, sI_upI]
  simp
theorem MB.put {σ : ST} (h : MB σ) {tn k : Nat} (hk : k < σ.1) (hlt : mkF σ (nI tn) < sI σ 10 k) : MB (mPut σ (nI (1001 + k)) tn) := by
  have h60 := h.2.1
  refine ⟨h.1, h.2.1, fun t ht => ?_, h.2.2.2.1, fun i j hi hj e => ?_⟩
  · rw [sI_mPut7]
    split
    · exact Or.inr ⟨k, hk, rfl⟩
    · exact h.2.2.1 t ht
  · rw [sI_mPut7] at e
    split at e
    · have h1 : 1001 + k = 1001 + j := (nI_eq (by omega) (by have : (mPut σ (nI (1001 + k)) tn).1 = σ.1 := rfl; omega)).mp e
      have h2 : k = j := by omega
      subst h2
      have h3 : mkF σ (nI tn) = sI σ 10 i := by
        unfold mkF
        have hi2 : i < σ.1 := hi
        rw [← ‹1001 + i = tn›, recOf_nI (by omega), if_pos hi2]
      rw [h3] at hlt
      exact hlt
    · exact h.2.2.2.2 i j hi hj e
theorem lpF_nn {σ : ST} {k : Nat} {t : Int32} {i : Nat} (h : ¬ lpF σ k t i < 0) : ∃ j, j < i ∧ lpF σ k t i = nI j := by
  induction i with
  | zero => exact absurd (show lpF σ k t 0 < 0 by show (-1 : Int32) < 0; decide) h
  | succ i ih =>
    rw [lpF] at h ⊢
    split
    · exact ⟨i, by omega, rfl⟩
    · rw [if_neg (by assumption)] at h
      obtain ⟨j, hj, e⟩ := ih h
      exact ⟨j, by omega, e⟩
