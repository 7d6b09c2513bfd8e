/-! sums over numbers, in any commutative sum -/
section SUMS
variable {G : Type} (ad : G → G → G) (z : G)
def suN (w : Nat → G) (P : Nat → Bool) : Nat → G
  | 0 => z
  | i + 1 => if P i = true then ad (suN w P i) (w i) else suN w P i
def suL (w : Nat → G) : List Int32 → G
  | [] => z
  | x :: l => ad (w x.toNatClampNeg) (suL w l)
theorem suN_congr {w w2 : Nat → G} {P P2 : Nat → Bool} : ∀ n : Nat, (∀ i, i < n → P i = P2 i) → (∀ i, i < n → P i = true → w i = w2 i) → suN ad z w P n = suN ad z w2 P2 n := by
  intro n
  induction n with
  | zero => intro _ _; rfl
  | succ n ih =>
    intro h1 h2
    rw [suN, suN, ← h1 n (by omega), ih (fun i hi => h1 i (by omega)) (fun i hi => h2 i (by omega))]
    by_cases h : P n = true
    · rw [if_pos h, if_pos h, h2 n (by omega) h]
    · rw [if_neg h, if_neg h]
theorem suN_none {w : Nat → G} {P : Nat → Bool} : ∀ n : Nat, (∀ i, i < n → P i = false) → suN ad z w P n = z := by
  intro n
  induction n with
  | zero => intro _; rfl
  | succ n ih =>
    intro h
    rw [suN, if_neg (by rw [h n (by omega)]; decide), ih (fun i hi => h i (by omega))]
def cmL : Prop := (∀ a b, ad a b = ad b a) ∧ (∀ a b c, ad (ad a b) c = ad a (ad b c)) ∧ ∀ a, ad z a = a
theorem suN_take (hm : cmL ad z) {w : Nat → G} {P : Nat → Bool} {t : Nat} (hP : P t = true) : ∀ n : Nat, t < n → suN ad z w P n = ad (w t) (suN ad z w (fun i => P i && !decide (i = t)) n) := by
  obtain ⟨hc, ha, h0⟩ := hm
  intro n
  induction n with
  | zero => intro h; exact absurd h (Nat.not_lt_zero _)
  | succ n ih =>
    intro h
    by_cases e : n = t
    · subst e
      rw [suN, suN, if_pos hP, if_neg (by simp), hc (suN ad z w P n)]
      rw [suN_congr ad z (P := P) (P2 := fun i => P i && !decide (i = n)) n (fun i hi => by rw [decide_eq_false (by omega)]; simp) (fun _ _ _ => rfl)]
    · rw [suN, suN, ih (by omega)]
      have e2 : (P n && !decide (n = t)) = P n := by rw [decide_eq_false e]; simp
      rw [e2]
      by_cases h2 : P n = true
      · rw [if_pos h2, if_pos h2, ha]
      · rw [if_neg h2, if_neg h2]
theorem suL_of (hm : cmL ad z) {w : Nat → G} {n : Nat} (hn : n < 2 ^ 31) : ∀ (l : List Int32) (P : Nat → Bool), l.Nodup → (∀ x ∈ l, ∃ t, t < n ∧ x = nI t) → (∀ t, t < n → (P t = true ↔ nI t ∈ l)) → suN ad z w P n = suL ad z w l := by
  obtain ⟨hc, ha, h0⟩ := hm
  intro l
  induction l with
  | nil =>
    intro P _ _ h
    rw [suN_none ad z n (fun i hi => by
      cases e : P i with
      | false => rfl
      | true => exact absurd ((h i hi).mp e) List.not_mem_nil)]
    rfl
  | cons x l ih =>
    intro P hd hx h
    obtain ⟨t, ht, rfl⟩ := hx x List.mem_cons_self
    rw [suN_take ad z ⟨hc, ha, h0⟩ (P := P) (t := t) ((h t ht).mpr List.mem_cons_self) n ht]
    rw [suL, nI_clamp (by omega)]
    have hd2 := List.nodup_cons.mp hd
    rw [ih (fun i => P i && !decide (i = t)) hd2.2 (fun y hy => hx y (List.mem_cons_of_mem _ hy)) (fun u hu => ?_)]
    rw [Bool.and_eq_true, h u hu, List.mem_cons]
    constructor
    · rintro ⟨h1, h2⟩
      rcases h1 with h1 | h1
      · have e := (nI_eq (by omega) (by omega)).mp h1
        rw [decide_eq_true e] at h2
        exact absurd h2 (by decide)
      · exact h1
    · intro h1
      refine ⟨Or.inr h1, ?_⟩
      by_cases e : u = t
      · subst e; exact absurd h1 hd2.1
      · rw [decide_eq_false e]; rfl
theorem suN_or (hm : cmL ad z) {w : Nat → G} {P P2 : Nat → Bool} : ∀ n : Nat, (∀ i, i < n → ¬ (P i = true ∧ P2 i = true)) → suN ad z w (fun i => P i || P2 i) n = ad (suN ad z w P n) (suN ad z w P2 n) := by
  obtain ⟨hc, ha, h0⟩ := hm
  intro n
  induction n with
  | zero => intro _; exact (h0 z).symm
  | succ n ih =>
    intro h
    have ih := ih (fun i hi => h i (by omega))
    have hn := h n (by omega)
    rw [suN, suN, suN, ih]
    cases e1 : P n <;> cases e2 : P2 n
    · simp
    · simp [ha]
    · simp only [Bool.or_false, if_true, Bool.false_eq_true, if_false]
      rw [ha, ha, hc (suN ad z w P2 n)]
    · exact absurd ⟨e1, e2⟩ hn
/-- the sums of the classes make the sum of all -/
theorem suN_swap (hm : cmL ad z) {w : Nat → G} {n : Nat} {Q : Nat → Bool} {R : Nat → Nat → Bool} (hR : ∀ i j k, i < n → R i j = true → R i k = true → j = k) : ∀ K : Nat, suN ad z (fun k => suN ad z w (fun i => R i k) n) Q K = suN ad z w (fun i => (List.range K).any (fun k => Q k && R i k)) n := by
  obtain ⟨hc, ha, h0⟩ := hm
  intro K
  induction K with
  | zero => exact (suN_none ad z n (fun i _ => by simp)).symm
  | succ K ih =>
    rw [suN, ih]
    by_cases h : Q K = true
    · rw [if_pos h, ← suN_or ad z ⟨hc, ha, h0⟩]
      · refine suN_congr ad z n (fun i _ => ?_) (fun _ _ _ => rfl)
        rw [List.range_succ, List.any_append]
        simp [h]
      · rintro i hi ⟨h1, h2⟩
        obtain ⟨k, hk, h3⟩ := List.any_eq_true.mp h1
        rw [Bool.and_eq_true] at h3
        have e := hR i k K hi h3.2 h2
        have := List.mem_range.mp hk
        omega
    · rw [if_neg h]
      refine suN_congr ad z n (fun i _ => ?_) (fun _ _ _ => rfl)
      rw [List.range_succ, List.any_append]
      have h2 : Q K = false := by cases e : Q K with
        | false => rfl
        | true => exact absurd e h
      simp [h2]
theorem suN_add (hm : cmL ad z) {w w2 : Nat → G} {P : Nat → Bool} : ∀ n : Nat, suN ad z (fun i => ad (w i) (w2 i)) P n = ad (suN ad z w P n) (suN ad z w2 P n) := by
  obtain ⟨hc, ha, h0⟩ := hm
  intro n
  induction n with
  | zero => exact (h0 z).symm
  | succ n ih =>
    rw [suN, suN, suN, ih]
    by_cases h : P n = true
    · rw [if_pos h, if_pos h, if_pos h, ha, ha]
      congr 1
      rw [← ha, ← ha, hc (suN ad z w2 P n) (w n)]
    · rw [if_neg h, if_neg h, if_neg h]
theorem suN_shift (hm : cmL ad z) {w : Nat → G} {P : Nat → Bool} {m : Nat} : ∀ n : Nat, suN ad z w P (m + n) = ad (suN ad z w P m) (suN ad z (fun i => w (m + i)) (fun i => P (m + i)) n) := by
  obtain ⟨hc, ha, h0⟩ := hm
  intro n
  induction n with
  | zero =>
    show suN ad z w P m = ad (suN ad z w P m) z
    rw [hc, h0]
  | succ n ih =>
    rw [← Nat.add_assoc, suN, suN, ih]
    by_cases h : P (m + n) = true
    · rw [if_pos h, if_pos h, ha]
    · rw [if_neg h, if_neg h]
theorem suN_zero (hm : cmL ad z) {w : Nat → G} {P : Nat → Bool} : ∀ n : Nat, (∀ i, i < n → P i = true → w i = z) → suN ad z w P n = z := by
  obtain ⟨hc, ha, h0⟩ := hm
  intro n
  induction n with
  | zero => intro _; rfl
  | succ n ih =>
    intro h
    rw [suN, ih (fun i hi => h i (by omega))]
    by_cases h2 : P n = true
    · rw [if_pos h2, h n (by omega) h2, h0]
    · rw [if_neg h2]
end SUMS
