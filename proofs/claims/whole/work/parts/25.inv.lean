/-! what the two sides have in common, and what is read off it -/
theorem sIf_upI (σ : ST) (co i : Nat) (x : Int32) (c : Nat) : sI (upI σ co i x) c = if c = co then upd (sI σ co) i x else sI σ c := by
  by_cases h : c = co
  · subst h; simp [sI, upI, va_up_self]
  · simp [sI, upI, va_up_ne _ _ h, h]
theorem sJf_upJ (σ : ST) (co i : Nat) (x : Int64) (c : Nat) : sJ (upJ σ co i x) c = if c = co then vp_updL (sJ σ co) i x else sJ σ c := by
  by_cases h : c = co
  · subst h; simp [sJ, upJ, va_up_self]
  · simp [sJ, upJ, va_up_ne _ _ h, h]
theorem sRf_upR (σ : ST) (co : Nat) (r : List Int32) (c : Nat) : sR (upR σ co r) c = if c = co then r else sR σ c := by
  by_cases h : c = co
  · subst h; simp [sR, upR, va_up_self]
  · simp [sR, upR, va_up_ne _ _ h, h]
def okT (n t : Nat) : Prop := (1 ≤ t ∧ t ≤ 999) ∨ (1001 ≤ t ∧ t < 1001 + n)
def I1 (σ : ST) : Prop := (∀ t, t < 1061 → sI σ 2 t = sI σ 7 t) ∧ (∀ t, t < 1061 → ¬ okT σ.1 t → sI σ 7 t = 0) ∧ ∀ k, k < σ.1 → sI σ (rb k) 0 = sI σ 10 k
def I2 (N : Nat) (σ : ST) : Prop := (∃ m, m ≤ N ∧ sI σ 6 4 = nI m ∧ ∀ t, t < 1061 → ∃ s, s ≤ m ∧ sI σ 8 t = nI s) ∧ ∀ k, k < σ.1 → RowM σ (nI (1001 + k)) (sR σ (rc k 0))
def I3 (σ : ST) : Prop := (∀ t, t < 1061 → sI σ 7 t = 0 → sI σ 3 t = sI σ 9 t) ∧ ∀ t k, t < 1061 → k < σ.1 → sI σ 7 t = nI (1001 + k) → sI σ 9 t = sI σ 9 (1001 + k)
def I4 (σ : ST) : Prop := ∀ k, k < σ.1 → sI σ (rb k) 1 = sI σ 11 k ∧ sI σ (rb k) 4 = sI σ 14 k ∧ sJ σ (rb k) 3 = sJ σ 13 k ∧ sI σ 12 k = bI (checkedB σ k) ∧ (¬ sI σ 11 k = 0 → ¬ sI σ (rb k) 2 = 0)
def I5 (σ : ST) : Prop := ∀ k, k < σ.1 → sI σ 16 k = nI (sR σ (rc k 1)).length ∧ (sR σ (rc k 1)).length ≤ 12 ∧ (sR σ (rc k 1)).Nodup ∧ ∀ i, i < (sR σ (rc k 1)).length → sI σ 17 (12 * k + i) = (sR σ (rc k 1)).getD i 0
def I6 (σ : ST) : Prop := ∀ k, k < σ.1 → ¬ sI σ 12 k = 0 → sR σ (rc k 4) = misL σ k (sR σ (rc k 1)).length
def I7 (σ : ST) : Prop := ∀ k, k < σ.1 → sI σ 19 k = nI (sR σ (rc k 5)).length ∧ (sR σ (rc k 5)).length ≤ 12 ∧ ∀ i, i < (sR σ (rc k 5)).length → sI σ 20 (12 * k + i) = (sR σ (rc k 5)).getD i 0
def I8 (σ : ST) : Prop := ∀ k, k < σ.1 → ¬ sI σ 12 k = 0 → sR σ (rc k 2) = if sJ σ 15 k = sJ σ 13 k then [] else [(sJ σ 15 k).toInt32]
def I9 (σ : ST) : Prop := ∀ k, k < σ.1 → sI σ 21 k = nI (sR σ (rc k 3)).length ∧ (sR σ (rc k 3)).length ≤ 6 ∧ ∀ i, i < (sR σ (rc k 3)).length → (sJ σ 22 (6 * k + i)).toInt32 = (sR σ (rc k 3)).getD i 0
def IN (N : Nat) (σ : ST) : Prop := ∃ c a : Nat, c ≤ N ∧ a ≤ c ∧ sI σ 4 1 = nI c ∧ sI σ 6 21 = nI c ∧ sI σ 4 2 = nI a ∧ sJ σ 0 5 = sJ σ 6 19 ∧ 0 ≤ (sJ σ 6 19).toInt ∧ (sJ σ 6 19).toInt ≤ 1000000000000 ∧ sJ σ 6 20 ≤ sJ σ 6 19 ∧ (∀ i, i < c → sJ σ 5 i = sJ σ 23 i ∧ (sJ σ 23 i).toInt ≤ (sJ σ 6 19).toInt + 100) ∧ (∀ i j, i < j → j < c → sJ σ 23 i ≤ sJ σ 23 j) ∧ ∀ i, i < c → (i < a ↔ sJ σ 23 i ≤ sJ σ 6 20)
def Inv (N : Nat) (σ : ST) : Prop := MB σ ∧ I1 σ ∧ I2 N σ ∧ I3 σ ∧ I4 σ ∧ I5 σ ∧ I6 σ ∧ I7 σ ∧ I8 σ ∧ I9 σ ∧ IN N σ
theorem okT_thing {σ : ST} (h60 : σ.1 ≤ 60) {t : Nat} (h : okT σ.1 t) : thingB σ (nI t) = true := by
  rcases h with ⟨h1, h2⟩ | ⟨h1, h2⟩
  · unfold thingB
    rw [(itemB_iff (t := nI t)).mpr (by rw [nI_toInt (by omega)]; omega)]
    rfl
  · obtain ⟨k, rfl⟩ : ∃ k, t = 1001 + k := ⟨t - 1001, by omega⟩
    unfold thingB
    rw [recOf_nI (by omega), if_pos (by omega)]
    simp
theorem thing_okT {σ : ST} (h60 : σ.1 ≤ 60) {x : Int32} (h : thingB σ x = true) : ∃ t, okT σ.1 t ∧ t < 1061 ∧ 1 ≤ t ∧ x = nI t := by
  unfold thingB at h
  rw [Bool.or_eq_true] at h
  rcases h with h | h
  · obtain ⟨h1, h2⟩ := itemB_iff.mp h
    have h0 : ¬ x < 0 := by
      rw [Int32.lt_iff_toInt_lt]
      have e2 : (0 : Int32).toInt = 0 := rfl
      omega
    obtain ⟨j, hj, rfl⟩ := nI_of h0
    rw [nI_toInt hj] at h1 h2
    exact ⟨j, Or.inl ⟨by omega, by omega⟩, by omega, by omega, rfl⟩
  · obtain ⟨k, -, hk, rfl⟩ := recOf_isSome h
    exact ⟨1001 + k, Or.inr ⟨by omega, by omega⟩, by omega, by omega, rfl⟩
theorem recOf_eq {σ : ST} (h60 : σ.1 ≤ 60) {b : Int32} {k : Nat} (h : recOf σ b = some k) : k < σ.1 ∧ b = nI (1001 + k) := by
  obtain ⟨k', h1, h2, h3⟩ := recOf_isSome (σ := σ) (b := b) (by rw [h]; rfl)
  rw [h] at h1
  cases h1
  exact ⟨h2, h3⟩
theorem recOf_mk {σ : ST} (h60 : σ.1 ≤ 60) {k : Nat} (h : k < σ.1) : recOf σ (nI (1001 + k)) = some k := by rw [recOf_nI (by omega), if_pos h]
theorem holdF_nI {σ : ST} (h : I1 σ) {t : Nat} (ht : t < 1061) : holdF σ (nI t) = sI σ 7 t := by
  unfold holdF
  rw [if_neg (nI_pos (by omega)), if_neg (nI_ge ht (by omega)), nI_clamp (by omega)]
  exact h.1 t ht
theorem holdF_hold0 {σ : ST} : holdF σ 0 = sI σ 2 0 := rfl
theorem closedB_nI {σ : ST} (hM : MB σ) (h : I4 σ) {k : Nat} (hk : k < σ.1) : closedB σ (nI (1001 + k)) = clB σ (nI (1001 + k)) := by
  have h60 := hM.2.1
  unfold closedB clB
  rw [recOf_mk h60 hk, nI_clamp (by omega), show 1001 + k - 1001 = k by omega]
  show (!decide (sI σ (rb k) 1 = 0)) = _
  rw [(h k hk).1]
theorem nI1001_ne {k : Nat} (hk : k < 60) : ¬ nI (1001 + k) = 0 := by rw [nI_eq0 (by omega)]; omega
theorem shut_any {σ : ST} (hM : MB σ) (h1 : I1 σ) (h4 : I4 σ) : ∀ (f f' : Nat) (r : Int32), f ≤ f' → okR σ f r → shutF σ f' r = (ancR σ f r).any (clB σ) := by
  have h60 := hM.2.1
  intro f
  induction f with
  | zero =>
    intro f' r _ hr
    rcases hr with rfl | ⟨k, d, -, -, -, hd, hf⟩
    · cases f' with
      | zero => rfl
      | succ f' => simp [shutF, ancR]
    · omega
  | succ f ih =>
    intro f' r hf hr
    obtain ⟨f', rfl⟩ : ∃ g, f' = g + 1 := ⟨f' - 1, by omega⟩
    rcases hr with rfl | ⟨k, d, hk, rfl, e2, hd, h4'⟩
    · simp [shutF, ancR]
    · rw [shutF, if_neg (nI1001_ne (by omega)), ancR, if_neg (nI1001_ne (by omega)), List.any_cons, closedB_nI hM h4 hk, holdF_nI h1 (by omega), nI_clamp (by omega)]
      rw [ih f' _ (by omega) (MB.next hM hk e2 hd h4')]
      cases clB σ (nI (1001 + k)) <;> simp
theorem shut_bag {σ : ST} (hM : MB σ) (h1 : I1 σ) (h4 : I4 σ) {k : Nat} (hk : k < σ.1) : shutB σ (nI (1001 + k)) = (!decide (sI σ 11 k = 0) || shutInB σ (1001 + k)) := by
  have h60 := hM.2.1
  unfold shutB shutInB
  rw [shutF, if_neg (nI1001_ne (by omega)), closedB_nI hM h4 hk, holdF_nI h1 (by omega), shut_any hM h1 h4 4 60 _ (by omega) (hM.start (by omega))]
  have e : clB σ (nI (1001 + k)) = !decide (sI σ 11 k = 0) := by
    unfold clB
    rw [nI_clamp (by omega), show 1001 + k - 1001 = k by omega]
  rw [e]
  cases (!decide (sI σ 11 k = 0)) <;> simp
theorem shut_hold {σ : ST} (hM : MB σ) (h1 : I1 σ) (h4 : I4 σ) {t : Nat} (ht : t < 1061) : shutB σ (holdF σ (nI t)) = shutInB σ t := by
  unfold shutB shutInB
  rw [holdF_nI h1 ht]
  exact shut_any hM h1 h4 4 61 _ (by omega) (hM.start ht)
theorem with_mem {σ : ST} (hM : MB σ) (h1 : I1 σ) {b : Int32} (hb : ¬ b = 0) : ∀ (f f' : Nat) (r : Int32), f ≤ f' → okR σ f r → withF σ b f' r = decide (b ∈ ancR σ f r) := by
  have h60 := hM.2.1
  intro f
  induction f with
  | zero =>
    intro f' r _ hr
    rcases hr with rfl | ⟨k, d, -, -, -, hd, hf⟩
    · cases f' with
      | zero => simp [withF, ancR]
      | succ f' => simp [withF, ancR]
    · omega
  | succ f ih =>
    intro f' r hf hr
    obtain ⟨f', rfl⟩ : ∃ g, f' = g + 1 := ⟨f' - 1, by omega⟩
    rcases hr with rfl | ⟨k, d, hk, rfl, e2, hd, h4'⟩
    · simp [withF, ancR]
    · rw [withF, if_neg (nI1001_ne (by omega)), ancR, if_neg (nI1001_ne (by omega)), holdF_nI h1 (by omega), nI_clamp (by omega)]
      by_cases e : nI (1001 + k) = b
      · rw [if_pos e, mem_dec_t e]
      · rw [if_neg e, mem_dec_f e, ih f' _ (by omega) (MB.next hM hk e2 hd h4')]
theorem within_bag {σ : ST} (hM : MB σ) (h1 : I1 σ) {k j : Nat} (hk : k < σ.1) (hj : j < σ.1) : withinB σ (nI (1001 + k)) (nI (1001 + j)) = (decide (k = j) || lieB σ (1001 + k) (nI (1001 + j))) := by
  have h60 := hM.2.1
  unfold withinB lieB
  rw [withF, if_neg (nI1001_ne (by omega))]
  by_cases e : k = j
  · subst e
    rw [if_pos rfl, decide_eq_true rfl, Bool.true_or]
  · have e2 : ¬ nI (1001 + k) = nI (1001 + j) := fun h => by
      have := (nI_eq (by omega) (by omega)).mp h
      omega
    rw [if_neg e2, decide_eq_false e, Bool.false_or, holdF_nI h1 (by omega)]
    exact with_mem hM h1 (nI1001_ne (by omega)) 4 60 _ (by omega) (hM.start (by omega))
theorem out_place {σ : ST} (hM : MB σ) (h1 : I1 σ) (h3 : I3 σ) : ∀ (f f' u : Nat), f ≤ f' → u < 1061 → okR σ f (sI σ 7 u) → ownF σ (outF σ f' (nI u)) = sI σ 9 u := by
  have h60 := hM.2.1
  have hz : ∀ (f' u : Nat), u < 1061 → sI σ 7 u = 0 → ownF σ (outF σ f' (nI u)) = sI σ 9 u := by
    intro f' u hu h0
    rw [outF_stop (by rw [holdF_nI h1 hu]; exact h0)]
    unfold ownF
    rw [if_neg (nI_pos (by omega)), if_neg (nI_ge hu (by omega)), nI_clamp (by omega)]
    exact h3.1 u hu h0
  intro f
  induction f with
  | zero =>
    intro f' u _ hu hr
    rcases hr with h0 | ⟨k, d, -, -, -, hd, hf⟩
    · exact hz f' u hu h0
    · omega
  | succ f ih =>
    intro f' u hf hu hr
    rcases hr with h0 | ⟨k, d, hk, e1, e2, hd, h4'⟩
    · exact hz f' u hu h0
    · obtain ⟨f', rfl⟩ : ∃ g, f' = g + 1 := ⟨f' - 1, by omega⟩
      rw [outF, holdF_nI h1 hu, e1, if_neg (nI1001_ne (by omega)), ih f' (1001 + k) (by omega) (by omega) (MB.next hM hk e2 hd h4')]
      exact (h3.2 u k hu hk e1).symm
theorem place_nI {σ : ST} (hM : MB σ) (h1 : I1 σ) (h3 : I3 σ) {t : Nat} (ht : t < 1061) : placeF σ (nI t) = sI σ 9 t := out_place hM h1 h3 4 60 t (by omega) ht (hM.start ht)
theorem kindF_mk {σ : ST} (h1 : I1 σ) (t : Int32) : kindF σ t = mkF σ t := by
  unfold kindF mkF
  cases e : recOf σ t with
  | none => rfl
  | some k => exact h1.2.2 k (recOf_lt e)
theorem lesser_mk {σ : ST} (h1 : I1 σ) (h60 : σ.1 ≤ 60) {k : Nat} (hk : k < σ.1) (t : Int32) : lesserB σ t k = !decide (mkF σ (nI (1001 + k)) ≤ mkF σ t) := by
  have e : mkF σ (nI (1001 + k)) = sI σ 10 k := by unfold mkF; rw [recOf_mk h60 hk]
  unfold lesserB
  rw [kindF_mk h1, h1.2.2 k hk, e]
  by_cases h : sI σ 10 k ≤ mkF σ t
  · rw [decide_eq_true h, decide_eq_false (Int32.not_lt.mpr h)]; rfl
  · rw [decide_eq_false h, decide_eq_true (Int32.not_le.mp h)]; rfl
theorem natL : cmL (fun a b : Nat => a + b) 0 := ⟨Nat.add_comm, Nat.add_assoc, Nat.zero_add⟩
theorem cntN_su (σ : ST) (b : Int32) : ∀ n, cntN σ b n = suN (fun a b : Nat => a + b) 0 (fun _ => 1) (fun i => decide (1 ≤ i ∧ sI σ 7 i = b)) n := by
  intro n
  induction n with
  | zero => rfl
  | succ n ih =>
    rw [cntN, suN, ih]
    by_cases h : 1 ≤ n ∧ sI σ 7 n = b
    · rw [if_pos h, if_pos (decide_eq_true h)]
    · rw [if_neg h, if_neg (by rw [decide_eq_false h]; decide)]
theorem suL_len (l : List Int32) : suL (fun a b : Nat => a + b) 0 (fun _ => 1) l = l.length := by
  induction l with
  | nil => rfl
  | cons x l ih => rw [suL, ih, List.length_cons, Nat.add_comm]
theorem RowM.nodup {σ : ST} {b : Int32} {l : List Int32} (h : RowM σ b l) : l.Nodup := by
  refine List.Pairwise.imp ?_ h.2.2.2
  intro x y hxy e
  subst e
  exact Int32.lt_irrefl hxy
theorem row_cnt {σ : ST} {b : Int32} {l : List Int32} (h : RowM σ b l) : cntN σ b 1061 = l.length := by
  rw [cntN_su, suL_of (ad := fun a b : Nat => a + b) (z := 0) natL (n := 1061) (by decide) l _ h.nodup (fun x hx => ?_) (fun t ht => ?_), suL_len]
  · obtain ⟨t, h1, h2, h3, -⟩ := h.2.1 x hx
    exact ⟨t, h2, h3⟩
  · rw [decide_eq_true_eq]
    constructor
    · rintro ⟨h1, h2⟩
      exact h.2.2.1 t h1 ht h2
    · intro hm
      obtain ⟨u, h1, h2, h3, h4, -⟩ := h.2.1 _ hm
      have e := (nI_eq (by omega) (by omega)).mp h3
      subst e
      exact ⟨h1, h4⟩
