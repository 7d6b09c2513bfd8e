/-! the class's methods as functions of the state, as the code has them -/
def mayB (σ : ST) (k : Nat) (a b : Int32) : Bool := if sI σ (rb k) 0 < 2 then (decide (b = -1) && !decide (a = sI σ (rb k) 4)) else (!decide (b = -1) && !decide (a = b))
def checkedB (σ : ST) (k : Nat) : Bool := decide (sI σ (rb k) 1 = 0) && !decide (sI σ (rb k) 2 = 0)
def shutS (σ : ST) (k : Nat) (q : Int64) (w : Int32) : ST := upR (upR (upI (upJ (upI (upI σ (rb k) 1 1) (rb k) 2 1) (rb k) 3 q) (rb k) 4 w) (rc k 1) (sR σ (rc k 0))) (rc k 3) []
def unseal1 (σ : ST) (k : Nat) : ST := upR (upR (upR (upI σ (rb k) 1 0) (rc k 2) []) (rc k 4) (sR σ (rc k 1))) (rc k 5) []
def unsealS (σ : ST) (k : Nat) (q : Int64) : ST := if q = sJ σ (rb k) 3 then unseal1 σ k else upR (unseal1 σ k) (rc k 2) [q.toInt32]
def sealB (q : Int64) : Bool := decide (1 ≤ q) && decide (q ≤ 1000000000)
def personB (w : Int32) : Bool := decide (0 ≤ w) && decide (w ≤ 49)
def setHoldF (σ : ST) (t h : Int32) : ST := if t < 0 then σ else if nI 1061 ≤ t then σ else upI σ 2 t.toNatClampNeg h
def setOwnF (σ : ST) (t h : Int32) : ST := if t < 0 then σ else if nI 1061 ≤ t then σ else upI σ 3 t.toNatClampNeg h
def appR (σ : ST) (k j : Nat) (t : Int32) : ST := upR σ (rc k j) (if (sR σ (rc k j)).length < capj j then sR σ (rc k j) ++ [t] else sR σ (rc k j))
def remR (σ : ST) (k j : Nat) (t : Int32) : ST := upR σ (rc k j) ((sR σ (rc k j)).filter (fun y => decide (y ≠ t)))
def noteS (σ : ST) (d : Int64) : ST := upI (upJ σ 5 (sI σ 4 1).toNatClampNeg d) 4 1 (sI σ 4 1 + 1)
def putInS (σ : ST) (k : Nat) (b t : Int32) : ST := setHoldF (appR σ k 0 t) t b
def takeOutS (σ : ST) (t : Int32) : ST := match recOf σ (holdF σ t) with
  | none => σ
  | some k => setHoldF (remR (setOwnF σ t (placeF σ t)) k 0 t) t 0
def fullB (σ : ST) (k j : Nat) : Bool := decide (capj j ≤ (sR σ (rc k j)).length)
def timeS (σ : ST) : Int64 := sJ σ 0 5 + 100
def feS (σ : ST) (k : Nat) (t : Int32) : ST := noteS (appR σ k 5 t) (timeS σ)
def foundExtraF (σ : ST) (k : Nat) (b t : Int32) : Int32 × ST :=
  if fullB σ k 5 = true then (-14, σ)
  else if holdF σ t = b then (0, feS σ k t)
  else if fullB σ k 0 = true then (-14, σ)
  else (0, feS (putInS (takeOutS σ t) k b t) k t)
def itemsW (l : List Int32) : Nat → Int64
  | 0 => 0
  | i + 1 => if itemB (l.getD i 0) = true then itemsW l i + (5 + 10 * (l.getD i 0 - l.getD i 0 / 50 * 50)).toInt64 else itemsW l i
def withinB (σ : ST) (t b : Int32) : Bool := withF σ b 61 t
def wsum (σ : ST) (b : Int32) : Nat → Int64
  | 0 => 0
  | i + 1 => if withinB σ (1001 + nI i) b = true then wsum σ b i + (100 * (sI σ (rb i) 0).toInt64 + 100 + itemsW (sR σ (rc i 0)) (sR σ (rc i 0)).length) else wsum σ b i
def csum (σ : ST) (b : Int32) : Nat → Int32
  | 0 => 1
  | i + 1 => if withinB σ (1001 + nI i) b = true then csum σ b i + nI (sR σ (rc i 0)).length else csum σ b i
def shutB (σ : ST) (b : Int32) : Bool := shutF σ 61 b
theorem outF_stop {σ : ST} {o : Int32} (h : holdF σ o = 0) (f : Nat) : outF σ f o = o := by
  cases f with
  | zero => rfl
  | succ f => rw [outF, if_pos h]
def xInto (σ : ST) (b t : Int32) : Int32 × ST := match recOf σ b with
  | none => (-11, σ)
  | some k => if thingB σ t = false then (-11, σ) else if shutB σ b = true then (-13, σ) else if ¬ holdF σ t = 0 then (-13, σ) else if lesserB σ t k = false then (-13, σ) else if ¬ placeF σ t = placeF σ b then (-13, σ) else if fullB σ k 0 = true then (-14, σ) else (1, putInS σ k b t)
def xTake (σ : ST) (t : Int32) : Int32 × ST := if thingB σ t = false then (-11, σ) else if holdF σ t = 0 then (-13, σ) else if shutB σ (holdF σ t) = true then (-13, σ) else (holdF σ t, takeOutS σ t)
def xClose (σ : ST) (b : Int32) (q : Int64) (w : Int32) : Int32 × ST := match recOf σ b with
  | none => (-11, σ)
  | some k => if sealB q = false then (-12, σ) else if personB w = false then (-12, σ) else if shutB σ b = true then (-13, σ) else (nI (sR (shutS σ k q w) (rc k 1)).length, shutS σ k q w)
def orPerson (c : Int32) : Bool := decide (c = -1) || personB c
def xOpen (σ : ST) (b : Int32) (q : Int64) (a c : Int32) : Int32 × ST := match recOf σ b with
  | none => (-11, σ)
  | some k => if sealB q = false then (-12, σ) else if personB a = false then (-12, σ) else if orPerson c = false then (-12, σ) else if sI σ (rb k) 1 = 0 then (-13, σ) else if shutB σ (holdF σ b) = true then (-13, σ) else if mayB σ k a c = false then (-13, σ) else if q = sJ σ (rb k) 3 then (1, unsealS σ k q) else (-1, noteS (unsealS σ k q) (timeS (unsealS σ k q)))
def xFound (σ : ST) (b t : Int32) : Int32 × ST := match recOf σ b with
  | none => (-11, σ)
  | some k => if thingB σ t = false then (-11, σ) else if checkedB σ k = false then (-13, σ) else if lesserB σ t k = false then (-13, σ) else if t ∈ sR σ (rc k 1) then (1, remR σ k 4 t) else if t ∈ sR σ (rc k 5) then (0, σ) else foundExtraF σ k b t
def differF (σ : ST) (k : Nat) (what : Int32) : Nat → Nat → Int32 → Int32
  | 0, _, _ => -1
  | f + 1, d, rest => if rest < 0 then -1 else if rest < nI (sR σ (rc k (d + 2))).length then (if what = 0 then nI d else rowAt (sR σ (rc k (d + 2))) rest) else differF σ k what f (d + 1) (rest - nI (sR σ (rc k (d + 2))).length)
def xDiffer (σ : ST) (b i what : Int32) : Int32 := match recOf σ b with
  | none => -11
  | some k => if ¬ what = 0 ∧ ¬ what = 1 then -12 else if checkedB σ k = false then -13 else differF σ k what 4 0 i
def xInside (σ : ST) (t : Int32) : Int32 := if thingB σ t = true then holdF σ t else -11
def xWeight (σ : ST) (b : Int32) (q : Int64) : Int32 × ST := match recOf σ b with
  | none => (-11, σ)
  | some k => if q < 0 then (-12, σ) else if ¬ q ≤ 1000000000 then (-12, σ) else if ¬ wsum σ b σ.1 / 50 < (if 0 < q - wsum σ b σ.1 then q - wsum σ b σ.1 else -(q - wsum σ b σ.1)) then (1, σ) else (0, noteS (appR σ k 3 q.toInt32) (timeS σ))
def xDocument (σ : ST) (b i : Int32) : Int32 := match recOf σ b with
  | none => -11
  | some k => rowAt (sR σ (rc k 1)) i
def xMove (σ : ST) (b w : Int32) : Int32 × ST := match recOf σ b with
  | none => (-11, σ)
  | some k => if w < 0 then (-12, σ) else if ¬ w ≤ 9 then (-12, σ) else if sI σ (rb k) 1 = 0 then (-13, σ) else if ¬ holdF σ b = 0 then (-13, σ) else (csum (setOwnF σ b w) b σ.1, setOwnF σ b w)
def xTick (σ : ST) (n a : Nat) (t : Int64) : Int32 × ST := if t < sJ σ 0 5 then (-12, σ) else if ¬ t ≤ 1000000000000 then (-12, σ) else (nI (tellF (upJ σ 0 5 t) n t (n - a) a - a), upI (upJ σ 0 5 t) 4 2 (nI (tellF (upJ σ 0 5 t) n t (n - a) a)))
def xPlace (σ : ST) (t : Int32) : Int32 := if thingB σ t = true then placeF σ t else -11
theorem sI4_upI (σ : ST) {co : Nat} (i : Nat) (x : Int32) (h : co ≠ 4) : sI (upI σ co i x) 4 = sI σ 4 := by
  simp only [sI, upI, va_up_ne _ _ (Ne.symm h)]
theorem sI4_setHold (σ : ST) (t h : Int32) : sI (setHoldF σ t h) 4 = sI σ 4 := by
  unfold setHoldF
  split
  · rfl
  · split
    · rfl
    · exact sI4_upI _ _ _ (by decide)
theorem sI4_setOwn (σ : ST) (t h : Int32) : sI (setOwnF σ t h) 4 = sI σ 4 := by
  unfold setOwnF
  split
  · rfl
  · split
    · rfl
    · exact sI4_upI _ _ _ (by decide)
theorem sI4_takeOut (σ : ST) (t : Int32) : sI (takeOutS σ t) 4 = sI σ 4 := by
  unfold takeOutS
  split
  · rfl
  · rw [sI4_setHold]
    show sI (setOwnF σ t (placeF σ t)) 4 = _
    exact sI4_setOwn _ _ _
theorem sI4_putIn (σ : ST) (k : Nat) (b t : Int32) : sI (putInS σ k b t) 4 = sI σ 4 := by
  unfold putInS
  rw [sI4_setHold]
  rfl
theorem sI4_unseal (σ : ST) (k : Nat) (q : Int64) : sI (unsealS σ k q) 4 = sI σ 4 := by
  have h : sI (upI σ (rb k) 1 0) 4 = sI σ 4 := sI4_upI _ _ _ (by unfold rb; omega)
  unfold unsealS
  split <;> exact h
theorem sN_setHold (σ : ST) (t h : Int32) : (setHoldF σ t h).1 = σ.1 := by
  unfold setHoldF
  split
  · rfl
  · split <;> rfl
theorem sN_setOwn (σ : ST) (t h : Int32) : (setOwnF σ t h).1 = σ.1 := by
  unfold setOwnF
  split
  · rfl
  · split <;> rfl
theorem sN_takeOut (σ : ST) (t : Int32) : (takeOutS σ t).1 = σ.1 := by
  unfold takeOutS
  split
  · rfl
  · rw [sN_setHold]
    exact sN_setOwn _ _ _
theorem sN_putIn (σ : ST) (k : Nat) (b t : Int32) : (putInS σ k b t).1 = σ.1 := by
  unfold putInS
  rw [sN_setHold]
  rfl
theorem sN_unseal (σ : ST) (k : Nat) (q : Int64) : (unsealS σ k q).1 = σ.1 := by
  unfold unsealS
  split <;> rfl
theorem LL.drop {ls : Array Slot} {n : Nat} {vs : List (Option Value)} (h : LL ls n vs) (i : Nat) : LL ls n (vs.set i none) := by
  refine LL.weak h (fun k v hk => ?_)
  by_cases e : k = i
  · subst e
    have hl := (List.getElem?_eq_some_iff.mp hk).1
    rw [List.length_set] at hl
    rw [List.getElem?_set_self hl] at hk
    cases hk
  · rwa [List.getElem?_set_ne (Ne.symm e)] at hk
theorem gt1000 {x : Int32} (h : 1000 < x) : ∃ j : Nat, 1001 + j < 2 ^ 31 ∧ x = nI (1001 + j) := by
  have h0 : ¬ x < 0 := by
    rw [Int32.lt_iff_toInt_lt] at h ⊢
    have e1 : (1000 : Int32).toInt = 1000 := rfl
    have e2 : (0 : Int32).toInt = 0 := rfl
    omega
  obtain ⟨j, hj, rfl⟩ := nI_of h0
  have h1 : nI 1000 < nI j := h
  rw [nI_ltI (by omega) hj] at h1
  exact ⟨j - 1001, by omega, by rw [show 1001 + (j - 1001) = j by omega]⟩
theorem recOf_nI {σ : ST} {j : Nat} (h : 1001 + j < 2 ^ 31) : recOf σ (nI (1001 + j)) = if j < σ.1 then some j else none := by
  unfold recOf
  rw [nI_toInt h]
  by_cases hj : j < σ.1
  · rw [if_pos hj, if_pos (by omega)]
    congr 1
    omega
  · rw [if_neg hj, if_neg (by omega)]
theorem recOf_le {σ : ST} {x : Int32} (h : ¬ 1000 < x) : recOf σ x = none := by
  unfold recOf
  rw [if_neg]
  rintro ⟨h1, -⟩
  apply h
  rw [Int32.lt_iff_toInt_lt]
  have e1 : (1000 : Int32).toInt = 1000 := rfl
  omega
theorem rowAt_nI (r : List Int32) {i : Nat} (h : i < 2 ^ 31) : rowAt r (nI i) = r.getD i 0 := by
  unfold rowAt
  rw [if_neg (nI_pos h), nI_clamp h]
theorem noteS_eq {σ : ST} {n : Nat} (hn : sI σ 4 1 = nI n) (h : n < 512) (d : Int64) : upI (upJ σ 5 n d) 4 1 (nI (n + 1)) = noteS σ d := by
  unfold noteS
  rw [hn, nI_clamp (by omega), nI_1]
