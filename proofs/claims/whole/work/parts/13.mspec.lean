/-! the model's methods, over the state -/
def upA (σ : ST) (co : Nat) (f : Nat → Int32) : ST := (σ.1, va_up σ.2.1 co f, σ.2.2)
theorem sI_upA (σ : ST) (co : Nat) (f : Nat → Int32) (c : Nat) : sI (upA σ co f) c = if c = co then f else sI σ c := by
  by_cases h : c = co
  · subst h; simp [sI, upA, va_up_self]
  · simp [sI, upA, va_up_ne _ _ h, h]
theorem upA_self (σ : ST) (co : Nat) : upA σ co (sI σ co) = σ := by
  unfold upA sI
  have h : va_up σ.2.1 co (σ.2.1 co) = σ.2.1 := by
    funext q
    by_cases hq : q = co
    · subst hq; rw [va_up_self]
    · rw [va_up_ne _ _ hq]
  rw [h]
theorem upI_upA (σ : ST) (co i : Nat) (f : Nat → Int32) (x : Int32) : upI (upA σ co f) co i x = upA σ co (upd f i x) := by
  simp only [upI, upA, va_up_self]
  have h : va_up (va_up σ.2.1 co f) co (upd f i x) = va_up σ.2.1 co (upd f i x) := by
    funext q
    by_cases hq : q = co
    · subst hq; rw [va_up_self, va_up_self]
    · rw [va_up_ne _ _ hq, va_up_ne _ _ hq, va_up_ne _ _ hq]
  rw [h]
def MB (σ : ST) : Prop := sI σ 6 5 = nI σ.1 ∧ σ.1 ≤ 60 ∧ (∀ t, t < 1061 → sI σ 7 t = 0 ∨ ∃ k, k < σ.1 ∧ sI σ 7 t = nI (1001 + k)) ∧ (∀ k, k < σ.1 → ∃ d, d ≤ 3 ∧ sI σ 10 k = nI d) ∧ (∀ j k, j < σ.1 → k < σ.1 → sI σ 7 (1001 + j) = nI (1001 + k) → sI σ 10 j < sI σ 10 k)
theorem MB.upA {σ : ST} (h : MB σ) (co : Nat) (f : Nat → Int32) (h1 : co ≠ 6) (h2 : co ≠ 7) (h3 : co ≠ 10) : MB (upA σ co f) := by
  unfold MB
  rw [sI_upA, sI_upA, sI_upA, if_neg (Ne.symm h1), if_neg (Ne.symm h2), if_neg (Ne.symm h3)]
  exact h
theorem recOf_isSome {σ : ST} {b : Int32} (h : (recOf σ b).isSome = true) : ∃ k, recOf σ b = some k ∧ k < σ.1 ∧ b = nI (1001 + k) := by
  obtain ⟨k, hk⟩ := Option.isSome_iff_exists.mp h
  obtain ⟨h1, h2⟩ := recOf_some hk
  refine ⟨k, hk, h1, ?_⟩
  have h0 : ¬ b < 0 := by
    rw [Int32.lt_iff_toInt_lt]
    have e2 : (0 : Int32).toInt = 0 := rfl
    omega
  obtain ⟨j, hj, rfl⟩ := nI_of h0
  rw [nI_toInt hj] at h2
  rw [show j = 1001 + k by omega]
theorem itemB_iff {t : Int32} : itemB t = true ↔ 1 ≤ t.toInt ∧ t.toInt ≤ 999 := by
  unfold itemB
  rw [Bool.and_eq_true, decide_eq_true_eq, decide_eq_true_eq, Int32.le_iff_toInt_le, Int32.le_iff_toInt_le]
  exact Iff.rfl
theorem thing_ex {σ : ST} {t : Int32} (h : thingB σ t = true) (h60 : σ.1 ≤ 60) : ∃ n, 1 ≤ n ∧ n < 1061 ∧ t = nI n := by
  unfold thingB at h
  rw [Bool.or_eq_true] at h
  rcases h with h | h
  · obtain ⟨h1, h2⟩ := itemB_iff.mp h
    have h0 : ¬ t < 0 := by
      rw [Int32.lt_iff_toInt_lt]
      have e2 : (0 : Int32).toInt = 0 := rfl
      omega
    obtain ⟨j, hj, rfl⟩ := nI_of h0
    rw [nI_toInt hj] at h1 h2
    exact ⟨j, by omega, by omega, rfl⟩
  · obtain ⟨k, -, hk, rfl⟩ := recOf_isSome h
    exact ⟨1001 + k, by omega, by omega, rfl⟩
theorem sub1001 {k : Nat} (hk : 1001 + k < 2 ^ 31) : nI (1001 + k) - 1001 = nI k := by
  rw [show (1001 : Int32) = nI 1001 from rfl, pk_sub (by omega), show 1001 + k - 1001 = k by omega]
theorem ix12 (k i : Nat) : (12 : Int32) * nI k + nI i = nI (12 * k + i) := by
  rw [show (12 : Int32) = nI 12 from rfl, pk_mul, nI_add]
theorem ix6 (k i : Nat) : (6 : Int32) * nI k + nI i = nI (6 * k + i) := by
  rw [show (6 : Int32) = nI 6 from rfl, pk_mul, nI_add]
/-- the receptacles from r outwards -/
def ancR (σ : ST) : Nat → Int32 → List Int32
  | 0, _ => []
  | f + 1, r => if r = 0 then [] else r :: ancR σ f (sI σ 7 r.toNatClampNeg)
theorem ancR_congr {σ σ' : ST} (h : ∀ t, sI σ' 7 t = sI σ 7 t) : ∀ (f : Nat) (r : Int32), ancR σ' f r = ancR σ f r := by
  intro f
  induction f with
  | zero => intro r; rfl
  | succ f ih => intro r; simp only [ancR, h, ih]
theorem ancR_0 (σ : ST) (f : Nat) : ancR σ f 0 = [] := by cases f <;> simp [ancR]
def lieB (σ : ST) (t : Nat) (b : Int32) : Bool := decide (b ∈ ancR σ 4 (sI σ 7 t))
def clB (σ : ST) (r : Int32) : Bool := !decide (sI σ 11 (r.toNatClampNeg - 1001) = 0)
def shutInB (σ : ST) (t : Nat) : Bool := (ancR σ 4 (sI σ 7 t)).any (clB σ)
/-- the walk outwards: what is known of r with f steps left -/
def okR (σ : ST) (f : Nat) (r : Int32) : Prop := r = 0 ∨ ∃ k d, k < σ.1 ∧ r = nI (1001 + k) ∧ sI σ 10 k = nI d ∧ d ≤ 3 ∧ 4 ≤ f + d
theorem MB.start {σ : ST} (h : MB σ) {t : Nat} (ht : t < 1061) : okR σ 4 (sI σ 7 t) := by
  rcases h.2.2.1 t ht with e | ⟨k, hk, e⟩
  · exact Or.inl e
  · obtain ⟨d, hd, e2⟩ := h.2.2.2.1 k hk
    exact Or.inr ⟨k, d, hk, e, e2, hd, by omega⟩
theorem MB.next {σ : ST} (h : MB σ) {f k d : Nat} (hk : k < σ.1) (e2 : sI σ 10 k = nI d) (hd : d ≤ 3) (h4 : 4 ≤ f + 1 + d) : okR σ f (sI σ 7 (1001 + k)) := by
  have h60 := h.2.1
  rcases h.2.2.1 (1001 + k) (by omega) with e | ⟨j, hj, e⟩
  · exact Or.inl e
  · obtain ⟨d2, hd2, e3⟩ := h.2.2.2.1 j hj
    have hl := h.2.2.2.2 k j hk hj e
    rw [e2, e3, nI_ltI (by omega) (by omega)] at hl
    exact Or.inr ⟨j, d2, hj, e, e3, hd2, by omega⟩
def cntN (σ : ST) (b : Int32) : Nat → Nat
  | 0 => 0
  | i + 1 => if 1 ≤ i ∧ sI σ 7 i = b then cntN σ b i + 1 else cntN σ b i
theorem cntN_le (σ : ST) (b : Int32) : ∀ i, cntN σ b i ≤ i := by
  intro i
  induction i with
  | zero => exact Nat.le_refl _
  | succ i ih => simp only [cntN]; split <;> omega
def mkF (σ : ST) (t : Int32) : Int32 := match recOf σ t with
  | some k => sI σ 10 k
  | none => -1
def mPut (σ : ST) (b : Int32) (t : Nat) : ST := upI (upI (upI σ 7 t b) 6 4 (sI σ 6 4 + 1)) 8 t (sI σ 6 4 + 1)
def mNote (σ : ST) : ST := upI (upJ σ 23 (sI σ 6 21).toNatClampNeg (sJ σ 6 19 + 100)) 6 21 (sI σ 6 21 + 1)
def lpF (σ : ST) (k : Nat) (t : Int32) : Nat → Int32
  | 0 => -1
  | i + 1 => if sI σ 17 (12 * k + i) = t then nI i else lpF σ k t i
def exF (σ : ST) (k : Nat) (t : Int32) : Nat → Bool
  | 0 => false
  | i + 1 => exF σ k t i || decide (sI σ 20 (12 * k + i) = t)
def brC (σ : ST) (tn x : Nat) : Bool := thingB σ (nI x) && (decide (x = tn) || lieB σ x (nI tn))
def brN (σ : ST) (tn : Nat) : Nat → Nat
  | 0 => 0
  | i + 1 => if 1 ≤ i ∧ brC σ tn i = true then brN σ tn i + 1 else brN σ tn i
def brP (σ : ST) (tn : Nat) (w : Int32) (i : Nat) : Nat → Int32 := fun x => if 1 ≤ x ∧ x < i ∧ brC σ tn x = true then w else sI σ 9 x
def ownM (σ : ST) (t : Nat) : Int64 := if t ≤ 1000 then 5 + 10 * (nI (t % 50)).toInt64 else 100 * (sI σ 10 (t - 1001)).toInt64 + 100
def mws (σ : ST) (b : Nat) : Nat → Int64
  | 0 => ownM σ b
  | i + 1 => if 1 ≤ i ∧ lieB σ i (nI b) = true then mws σ b i + ownM σ i else mws σ b i
def pickF (what sort : Int32) (other : Int64) : Int32 := if what = 0 then sort else other.toInt32
/-- what is on the list and was not seen -/
def misL (σ : ST) (k : Nat) : Nat → List Int32
  | 0 => []
  | i + 1 => if sI σ 18 (12 * k + i) = 0 then misL σ k i ++ [sI σ 17 (12 * k + i)] else misL σ k i
def mdT (σ : ST) (k ln ex i : Nat) (what : Int32) : Int32 :=
  if i < (misL σ k ln).length then pickF what 2 ((misL σ k ln).getD i 0).toInt64
  else if i - (misL σ k ln).length < ex then pickF what 3 (sI σ 20 (12 * k + (i - (misL σ k ln).length))).toInt64
  else -1
def mdW (σ : ST) (k ln ex we i : Nat) (what : Int32) : Int32 := if i < we then pickF what 1 (sJ σ 22 (6 * k + i)) else mdT σ k ln ex (i - we) what
def mdF (σ : ST) (k ln ex we i : Nat) (what : Int32) : Int32 := if sJ σ 15 k = sJ σ 13 k then mdW σ k ln ex we i what else if i = 0 then pickF what 0 (sJ σ 15 k) else mdW σ k ln ex we (i - 1) what
def tkN (σ : ST) (told now : Int64) : Nat → Nat
  | 0 => 0
  | i + 1 => if told < sJ σ 23 i ∧ sJ σ 23 i ≤ now then tkN σ told now i + 1 else tkN σ told now i
def mInto (σ : ST) (b t : Int32) : Int32 × ST := match recOf σ b with
  | none => (-11, σ)
  | some k => if thingB σ t = false then (-11, σ) else if ¬ sI σ 11 k = 0 then (-13, σ) else if shutInB σ (1001 + k) = true then (-13, σ) else if ¬ sI σ 7 t.toNatClampNeg = 0 then (-13, σ) else if t = b then (-13, σ) else if mkF σ b ≤ mkF σ t then (-13, σ) else if ¬ sI σ 9 t.toNatClampNeg = sI σ 9 (1001 + k) then (-13, σ) else if cntN σ b 1061 = 12 then (-14, σ) else (1, mPut σ b t.toNatClampNeg)
def mTake (σ : ST) (t : Int32) : Int32 × ST := if thingB σ t = false then (-11, σ) else if sI σ 7 t.toNatClampNeg = 0 then (-13, σ) else if shutInB σ t.toNatClampNeg = true then (-13, σ) else (sI σ 7 t.toNatClampNeg, upI σ 7 t.toNatClampNeg 0)
def mShut (σ : ST) (k : Nat) (q : Int64) (w : Int32) : ST := upI (upI (upJ (upI (upI σ 11 k 1) 12 k 0) 13 k q) 14 k w) 21 k 0
def lstP (σ : ST) (k : Nat) (l : List Int32) : Nat → Int32 := fun x => if 12 * k ≤ x ∧ x < 12 * k + l.length then l.getD (x - 12 * k) 0 else sI σ 17 x
def mClose (σ : ST) (l : List Int32) (b : Int32) (q : Int64) (w : Int32) : Int32 × ST := match recOf σ b with
  | none => (-11, σ)
  | some k => if sealB q = false then (-12, σ) else if personB w = false then (-12, σ) else if ¬ sI σ 11 k = 0 then (-13, σ) else if shutInB σ (1001 + k) = true then (-13, σ) else (nI l.length, upI (upA (mShut σ k q w) 17 (lstP σ k l)) 16 k (nI l.length))
def pplB (σ : ST) (k : Nat) (a c : Int32) : Bool := if sI σ 10 k < 2 then (decide (c = -1) && !decide (a = sI σ 14 k)) else (!decide (c = -1) && !decide (a = c))
def mUns (σ : ST) (k : Nat) (q : Int64) : ST := upA (upI (upJ (upI (upI σ 11 k 0) 12 k 1) 15 k q) 19 k 0) 18 (fun x => if 12 * k ≤ x ∧ x < 12 * k + 12 then 0 else sI σ 18 x)
def mOpen (σ : ST) (b : Int32) (q : Int64) (a c : Int32) : Int32 × ST := match recOf σ b with
  | none => (-11, σ)
  | some k => if sealB q = false then (-12, σ) else if personB a = false then (-12, σ) else if orPerson c = false then (-12, σ) else if sI σ 11 k = 0 then (-13, σ) else if shutInB σ (1001 + k) = true then (-13, σ) else if pplB σ k a c = false then (-13, σ) else if q = sJ σ 13 k then (1, mUns σ k q) else (-1, mNote (mUns σ k q))
def mBring (σ : ST) (tn : Nat) (w : Int32) : ST := upA σ 9 (brP σ tn w 1061)
def mEx (σ : ST) (k ex : Nat) (t : Int32) : ST := mNote (upI (upI σ 20 (12 * k + ex) t) 19 k (nI (ex + 1)))
def mFound (σ : ST) (k ln ex : Nat) (b t : Int32) : Int32 × ST :=
  if sI σ 12 k = 0 then (-13, σ) else if t = b then (-13, σ) else if lieB σ (1001 + k) t = true then (-13, σ) else if mkF σ b ≤ mkF σ t then (-13, σ)
  else if ¬ lpF σ k t ln < 0 then (1, upI σ 18 (12 * k + (lpF σ k t ln).toNatClampNeg) 1)
  else if exF σ k t ex = true then (0, σ)
  else if ¬ ex < 12 then (-14, σ)
  else if sI σ 7 t.toNatClampNeg = b then (0, mEx σ k ex t)
  else if cntN σ b 1061 = 12 then (-14, σ)
  else (0, mEx (mBring (mPut σ b t.toNatClampNeg) t.toNatClampNeg (sI σ 9 (1001 + k))) k ex t)
def mWeight (σ : ST) (k we : Nat) (q : Int64) : Int32 × ST :=
  if q < 0 then (-12, σ) else if ¬ q ≤ 1000000000 then (-12, σ) else if ¬ mws σ (1001 + k) 1061 / 50 < (if mws σ (1001 + k) 1061 ≤ q then q - mws σ (1001 + k) 1061 else mws σ (1001 + k) 1061 - q) then (1, σ)
  else if we < 6 then (0, mNote (upI (upJ σ 22 (6 * k + we) q) 21 k (nI (we + 1)))) else (0, mNote σ)
def mTick (σ : ST) (n : Nat) (t : Int64) : Int32 × ST := if t < sJ σ 6 19 then (-12, σ) else if ¬ t ≤ 1000000000000 then (-12, σ) else (nI (tkN σ (sJ σ 6 20) t n), upJ (upJ σ 6 19 t) 6 20 t)
theorem recOf_no {σ : ST} {b : Int32} (h : (recOf σ b).isSome = false) : recOf σ b = none := by
  cases e : recOf σ b with
  | none => rfl
  | some k => rw [e] at h; cases h
theorem thing_big {σ : ST} {j : Nat} (hj : 1001 + j < 2 ^ 31) (h : thingB σ (nI (1001 + j)) = true) : j < σ.1 := by
  unfold thingB at h
  rw [Bool.or_eq_true] at h
  rcases h with h | h
  · have h1 := itemB_iff.mp h
    rw [nI_toInt hj] at h1
    omega
  · rw [recOf_nI hj] at h
    by_cases hk : j < σ.1
    · exact hk
    · rw [if_neg hk] at h; cases h
theorem thing_bag {σ : ST} {k : Nat} {b : Int32} (h : recOf σ b = some k) : thingB σ b = true := by
  unfold thingB
  rw [h]
  simp
theorem mem_dec_t {a p : Int32} {l : List Int32} (h : a = p) : decide (p ∈ a :: l) = true := by
  subst h
  exact decide_eq_true List.mem_cons_self
theorem mem_dec_f {a p : Int32} {l : List Int32} (h : ¬ a = p) : decide (p ∈ a :: l) = decide (p ∈ l) := by
  apply decide_eq_decide.mpr
  rw [List.mem_cons]
  exact ⟨fun q => q.resolve_left (fun e => h e.symm), Or.inr⟩
theorem brN_t {σ : ST} {tn i : Nat} (h1 : 1 ≤ i) (h : brC σ tn i = true) : nI (brN σ tn (i + 1)) = nI (brN σ tn i + 1) := by rw [brN, if_pos ⟨h1, h⟩]
theorem brN_f {σ : ST} {tn i : Nat} (h : brC σ tn i = false) : nI (brN σ tn (i + 1)) = nI (brN σ tn i) := by rw [brN, if_neg (by rw [h]; simp)]
theorem brP_t {σ : ST} {tn i : Nat} {w : Int32} (h1 : 1 ≤ i) (h : brC σ tn i = true) : brP σ tn w (i + 1) = upd (brP σ tn w i) i w := by
  funext x
  unfold brP upd
  by_cases hx : x = i
  · subst hx
    rw [if_pos ⟨h1, by omega, h⟩, if_pos rfl]
  · rw [if_neg hx]
    show (if 1 ≤ x ∧ x < i + 1 ∧ brC σ tn x = true then w else sI σ 9 x) = (if 1 ≤ x ∧ x < i ∧ brC σ tn x = true then w else sI σ 9 x)
    by_cases hc : 1 ≤ x ∧ x < i ∧ brC σ tn x = true
    · rw [if_pos hc, if_pos ⟨hc.1, by omega, hc.2.2⟩]
    · rw [if_neg hc, if_neg (fun q => hc ⟨q.1, by omega, q.2.2⟩)]
theorem brP_f {σ : ST} {tn i : Nat} {w : Int32} (h : brC σ tn i = false) : brP σ tn w (i + 1) = brP σ tn w i := by
  funext x
  unfold brP
  by_cases hc : 1 ≤ x ∧ x < i ∧ brC σ tn x = true
  · rw [if_pos hc, if_pos ⟨hc.1, by omega, hc.2.2⟩]
  · rw [if_neg hc, if_neg (fun q => hc ⟨q.1, by
      by_cases hx : x = i
      · subst hx; rw [h] at q; exact absurd q.2.2 (by decide)
      · omega, q.2.2⟩)]
theorem brP_1 (σ : ST) (tn : Nat) (w : Int32) : brP σ tn w 1 = sI σ 9 := by
  funext x
  unfold brP
  rw [if_neg (by omega)]
theorem misL_pre (σ : ST) (k : Nat) {p q : Nat} (h : p ≤ q) : ∃ r, misL σ k q = misL σ k p ++ r := by
  induction q with
  | zero => exact ⟨[], by rw [show p = 0 by omega]; simp⟩
  | succ q ih =>
    by_cases hp : p = q + 1
    · subst hp; exact ⟨[], by simp⟩
    · obtain ⟨r, hr⟩ := ih (by omega)
      by_cases hs : sI σ 18 (12 * k + q) = 0
      · exact ⟨r ++ [sI σ 17 (12 * k + q)], by rw [misL, if_pos hs, hr, List.append_assoc]⟩
      · exact ⟨r, by rw [misL, if_neg hs, hr]⟩
theorem misL_get {σ : ST} {k p q : Nat} (h : p < q) (hs : sI σ 18 (12 * k + p) = 0) : (misL σ k p).length < (misL σ k q).length ∧ (misL σ k q).getD (misL σ k p).length 0 = sI σ 17 (12 * k + p) := by
  obtain ⟨r, hr⟩ := misL_pre σ k (p := p + 1) (q := q) (by omega)
  rw [hr, misL, if_pos hs, List.append_assoc]
  refine ⟨by simp, ?_⟩
  rw [List.getD_eq_getElem?_getD, List.getElem?_append_right (Nat.le_refl _), Nat.sub_self]
  rfl
theorem misL_len (σ : ST) (k : Nat) : ∀ q, (misL σ k q).length ≤ q := by
  intro q
  induction q with
  | zero => exact Nat.le_refl _
  | succ q ih =>
    rw [misL]
    split
    · rw [List.length_append, List.length_singleton]; omega
    · omega
/-- the next one in the order of 'since' -/
def nxF (σ : ST) (b a : Int32) : Nat → Int32
  | 0 => 0
  | i + 1 => if 1 ≤ i ∧ sI σ 7 i = b ∧ a < sI σ 8 i ∧ (nxF σ b a i = 0 ∨ sI σ 8 i < sI σ 8 (nxF σ b a i).toNatClampNeg) then nI i else nxF σ b a i
theorem nxF_in (σ : ST) (b a : Int32) : ∀ i, nxF σ b a i = 0 ∨ ∃ j, j < i ∧ nxF σ b a i = nI j := by
  intro i
  induction i with
  | zero => exact Or.inl rfl
  | succ i ih =>
    rw [nxF]
    split
    · exact Or.inr ⟨i, by omega, rfl⟩
    · rcases ih with h | ⟨j, hj, h⟩
      · exact Or.inl h
      · exact Or.inr ⟨j, by omega, h⟩
theorem nI_eq0 {i : Nat} (hi : i < 2 ^ 31) : nI i = 0 ↔ i = 0 := by
  rw [show (0 : Int32) = nI 0 from rfl, nI_eq hi (by omega)]
theorem nI_m1 {i : Nat} (h : 1 ≤ i) : nI i + Int32.ofInt (-1) = nI (i - 1) := by
  obtain ⟨j, rfl⟩ : ∃ j, i = j + 1 := ⟨i - 1, by omega⟩
  exact pk_m1 j
