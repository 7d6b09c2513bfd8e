def bI (b : Bool) : Int32 := if b = true then 1 else 0
theorem bI_z {b : Bool} (h : bI b = 0) : b = false := by
  cases b with
  | true => exact absurd h (by decide)
  | false => rfl
theorem bI_nz {b : Bool} (h : ¬ bI b = 0) : b = true := by
  cases b with
  | true => rfl
  | false => exact absurd rfl h
theorem bI_01 (b : Bool) : bI b = 0 ∨ bI b = 1 := by cases b <;> simp [bI]
theorem bI_t {b : Bool} (h : b = true) : (1 : Int32) = bI b := by rw [h]; rfl
theorem bI_f {b : Bool} (h : b = false) : (0 : Int32) = bI b := by rw [h]; rfl
theorem nI_i1 (a : Nat) : nI a + Int32.ofInt 1 = nI (a + 1) := nI_1 a
theorem capj_le (j : Nat) : capj j ≤ 12 := by unfold capj; split <;> (try split) <;> omega
theorem vp_in2 {i : Int32} {n : Nat} (h1 : ¬ i < 0) (h2 : ¬ nI n ≤ i) (hn : n < 2 ^ 31) : vp_in i n := by
  obtain ⟨j, hj, rfl⟩ := nI_of h1
  rw [nI_leI hn hj] at h2
  exact vp_in_nI (by omega) hn
theorem upR_self (σ : ST) (co : Nat) : upR σ co (sR σ co) = σ := by
  unfold upR sR
  have h : va_up σ.2.2.2 co (σ.2.2.2 co) = σ.2.2.2 := by
    funext q
    by_cases hq : q = co
    · subst hq; rw [va_up_self]
    · rw [va_up_ne _ _ hq]
  rw [h]
theorem upR_upR (σ : ST) (co : Nat) (r r' : List Int32) : upR (upR σ co r) co r' = upR σ co r' := by
  simp only [upR]
  have h : va_up (va_up σ.2.2.2 co r) co r' = va_up σ.2.2.2 co r' := by
    funext q
    by_cases hq : q = co
    · subst hq; rw [va_up_self, va_up_self]
    · rw [va_up_ne _ _ hq, va_up_ne _ _ hq, va_up_ne _ _ hq]
  rw [h]
theorem sR_upR_self (σ : ST) (co : Nat) (r : List Int32) : sR (upR σ co r) co = r := by simp [sR, upR, va_up_self]
theorem sR_upR_ne (σ : ST) {co c : Nat} (r : List Int32) (h : c ≠ co) : sR (upR σ co r) c = sR σ c := by simp [sR, upR, va_up_ne _ _ h]
theorem rc_inj {k j k' j' : Nat} (hj : j < 6) (hj' : j' < 6) (h : rc k j = rc k' j') : k = k' ∧ j = j' := by
  unfold rc at h; omega
theorem rowsOK.len {σ : ST} {F : Nat → Nat → Int32} (h : rowsOK σ F) {k j : Nat} (hk : k < σ.1) (hj : j < 6) : (sR σ (rc k j)).length ≤ capj j := (h.2 k j hk hj).1
theorem rowsOK.get {σ : ST} {F : Nat → Nat → Int32} (h : rowsOK σ F) {k j i : Nat} (hk : k < σ.1) (hj : j < 6) (hi : i < (sR σ (rc k j)).length) : F (rc k j + 1) i = (sR σ (rc k j)).getD i 0 := by
  have h1 := (h.2 k j hk hj).2 i ((sR σ (rc k j))[i]) (List.getElem?_eq_getElem hi)
  rw [h1, List.getD_eq_getElem?_getD, List.getElem?_eq_getElem hi]
  rfl
theorem rowsOK.upR {σ : ST} {F F' : Nat → Nat → Int32} (h : rowsOK σ F) {k j : Nat} {r : List Int32} (hj : j < 6) (hF : ∀ c, c ≠ rc k j + 1 → F' c = F c) (hlen : r.length ≤ capj j) (hr : ∀ (i : Nat) (x : Int32), r[i]? = some x → F' (rc k j + 1) i = x) : rowsOK (upR σ (rc k j) r) F' := by
  refine ⟨h.1, fun k' j' hk' hj' => ?_⟩
  by_cases e : rc k' j' = rc k j
  · obtain ⟨rfl, rfl⟩ := rc_inj hj' hj e
    rw [sR_upR_self]
    exact ⟨hlen, hr⟩
  · rw [sR_upR_ne _ _ e]
    have e2 : rc k' j' + 1 ≠ rc k j + 1 := by omega
    rw [hF _ e2]
    exact h.2 k' j' hk' hj'
section ROWS
variable {p : Program} {l : Launch} {e : Env} {R : Room} {s : State} {m : MethodId} {args : Array Value} {below : List Frame} {meth : Method} {c : Code} {H : Heap} {locs : List Loc} {cells slots : Nat} {Q : State → Prop}
variable {cc : ByteArray} {nL : Nat} {own : String} {rt : Option FieldType} {κ : KK} {pc : Nat} {ls : Array Slot} {rest : List Value} {H0 : Heap} {σ : ST} {F : Nat → Nat → Int32} {th : Int32}
theorem sh_rowU (κ : KK) (σ : ST) (F : Nat → Nat → Int32) (th : Int32) {k j : Nat} (hj : j < 6) (r : List Int32) : sh κ (upR σ (rc k j) r) F th (rc k j) = .inr (2, [.ref (kad κ (rc k j + 1)), .int (nI r.length)]) := by
  rw [sh_row _ _ _ _ _ hj, sR_upR_self]
/-- a store in a row's array; r' is the row then -/
theorem g_iastF {k j : Nat} {i x : Int32} (r' : List Int32) (hC : CX p s m args meth c cc nL own rt κ) (hO : OS κ H0 σ F th H locs) (hk : k < σ.1) (hj : j < 6) (hin : vp_in i (capj j)) (hr : r'.length = (sR σ (rc k j)).length) (hok : ∀ (a : Nat) (y : Int32), r'[a]? = some y → upd (F (rc k j + 1)) i.toNatClampNeg x a = y) (hdg : decode cc pc = .ok (.iastore, 1))
    (kk : ∀ (H1 : Heap) (locs1 : List Loc), OS κ H0 (upR σ (rc k j) r') (va_up F (rc k j + 1) (upd (F (rc k j + 1)) i.toNatClampNeg x)) th H1 locs1 → W p l e R s m args below meth c H1 locs1 cells slots Q (F0 m (pc + 1) ls rest)) : W p l e R s m args below meth c H locs cells slots Q (F0 m pc ls (.int x :: .int i :: .ref (kad κ (rc k j + 1)) :: rest)) := by
  refine va_iast hC.1 hC.2.1 hC.2.2.2.2.2.1 hO.2.1 (hO.2.2.1.D _) hO.2.2.2.1 (rc k j + 1) 0 (by rw [wz_get (nn_ra hk hj), sh_arr _ _ _ _ _ hj]) rfl hin hdg (fun H1 locs1 hP _ hS => kk H1 locs1 (hO.put (co := rc k j + 1) (nn_ra hk hj) rfl (hO.1.upR hj (fun c hc => va_up_ne _ _ hc) (by rw [hr]; exact hO.1.len hk hj) (fun a y h => by rw [va_up_self]; exact hok a y h)) (fun c hc => ?_) ?_ hP hS))
  · by_cases hc2 : c = rc k j
    · subst hc2
      rw [sh_rowU _ _ _ _ hj, sh_row _ _ _ _ _ hj, hr]
    · rw [sh_upR _ hc2, sh_upF _ hc]
  · rw [sh_arr _ _ _ _ _ hj, va_up_self]
/-- a row's size -/
theorem g_putR {k j index : Nat} {x : Int32} (r' : List Int32) (hC : CX p s m args meth c cc nL own rt κ) (hO : OS κ H0 σ F th H locs) (hk : k < σ.1) (hj : j < 6) (hx : nI r'.length = x) (hlen : r'.length ≤ capj j) (hok : ∀ (a : Nat) (y : Int32), r'[a]? = some y → F (rc k j + 1) a = y) (hfl : Cond.fieldLink own index (TX2 1).1 (TX2 1).2.1 (TX2 1).2.2.1 ∈ lw_g) (hdg : decode cc pc = .ok (.putfield index, 3))
    (kk : ∀ (H1 : Heap) (locs1 : List Loc), OS κ H0 (upR σ (rc k j) r') F th H1 locs1 → W p l e R s m args below meth c H1 locs1 cells slots Q (F0 m (pc + 3) ls rest)) : W p l e R s m args below meth c H locs cells slots Q (F0 m pc ls (.int x :: .ref (kad κ (rc k j)) :: rest)) := by
  subst hx
  exact g_put (σ' := upR σ (rc k j) r') (F' := F) (th' := th) (ci := 2) (k := 1) (co := rc k j) hC hO rfl inX2 tyX2_ok nmX2 (by decide) hfl rfl (nn_rc hk hj) (sh_row _ _ _ _ _ hj) (Nat.le_of_ble_eq_true rfl) rfl rfl rfl (hO.1.upR hj (fun c hc => rfl) hlen hok) (fun c hc => sh_upR c hc) (by rw [sh_rowU _ _ _ _ hj]; rfl) hdg kk
end ROWS
/-! what the class's methods answer, over the state -/
def rowAt (r : List Int32) (i : Int32) : Int32 := if i < 0 then 0 else r.getD i.toNatClampNeg 0
theorem rowAt_ge {r : List Int32} {i : Int32} (hr : r.length < 2 ^ 31) (h : nI r.length ≤ i) : rowAt r i = 0 := by
  unfold rowAt
  split
  · rfl
  · obtain ⟨j, hj, rfl⟩ := nI_of ‹_›
    rw [nI_leI hr hj] at h
    rw [nI_clamp hj, List.getD_eq_getElem?_getD, List.getElem?_eq_none h]
    rfl
def recOf (σ : ST) (b : Int32) : Option Nat := if 1001 ≤ b.toInt ∧ b.toInt < 1001 + (σ.1 : Int) then some (b.toInt - 1001).toNat else none
def holdF (σ : ST) (t : Int32) : Int32 := if t < 0 then 0 else if nI 1061 ≤ t then 0 else sI σ 2 t.toNatClampNeg
def itemB (t : Int32) : Bool := decide (1 ≤ t) && decide (t ≤ 999)
def thingB (σ : ST) (t : Int32) : Bool := itemB t || (recOf σ t).isSome
def closedB (σ : ST) (b : Int32) : Bool := match recOf σ b with
  | some k => !decide (sI σ (rb k) 1 = 0)
  | none => false
def shutF (σ : ST) : Nat → Int32 → Bool
  | 0, _ => false
  | n + 1, a => if a = 0 then false else if closedB σ a = true then true else shutF σ n (holdF σ a)
def outF (σ : ST) : Nat → Int32 → Int32
  | 0, o => o
  | n + 1, o => if holdF σ o = 0 then o else outF σ n (holdF σ o)
def ownF (σ : ST) (o : Int32) : Int32 := if o < 0 then 0 else if nI 1061 ≤ o then 0 else sI σ 3 o.toNatClampNeg
def placeF (σ : ST) (t : Int32) : Int32 := ownF σ (outF σ 60 t)
def withF (σ : ST) (b : Int32) : Nat → Int32 → Bool
  | 0, _ => false
  | n + 1, a => if a = 0 then false else if a = b then true else withF σ b n (holdF σ a)
def kindF (σ : ST) (t : Int32) : Int32 := match recOf σ t with
  | some k => sI σ (rb k) 0
  | none => -1
def lesserB (σ : ST) (t : Int32) (k : Nat) : Bool := decide (kindF σ t < sI σ (rb k) 0)
theorem recOf_some {σ : ST} {b : Int32} {k : Nat} (h : recOf σ b = some k) : k < σ.1 ∧ b.toInt = 1001 + (k : Int) := by
  unfold recOf at h
  split at h
  · obtain ⟨h1, h2⟩ := ‹_ ∧ _›
    cases h
    omega
  · cases h
theorem recOf_lt {σ : ST} {b : Int32} {k : Nat} (h : recOf σ b = some k) : k < σ.1 := (recOf_some h).1
