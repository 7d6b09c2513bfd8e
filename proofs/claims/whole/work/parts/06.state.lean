/-! the state: how many receptacles, the numbers of the cells by code and place (ints, longs), the rows by the code of the row's object.
codes: 0 the BagRows, 1 its receptacles, 2 holders, 3 ownPlaces, 4 its Notes, 5 their times; 6 the model, 7 .. 23 its arrays; from 24 on 13 a receptacle: itself, then six rows, each with its array -/
abbrev ST : Type := Nat × (Nat → Nat → Int32) × (Nat → Nat → Int64) × (Nat → List Int32)
def sI (σ : ST) : Nat → Nat → Int32 := σ.2.1
def sJ (σ : ST) : Nat → Nat → Int64 := σ.2.2.1
def sR (σ : ST) : Nat → List Int32 := σ.2.2.2
def upI (σ : ST) (co i : Nat) (x : Int32) : ST := (σ.1, va_up σ.2.1 co (upd (σ.2.1 co) i x), σ.2.2)
def upJ (σ : ST) (co i : Nat) (x : Int64) : ST := (σ.1, σ.2.1, va_up σ.2.2.1 co (vp_updL (σ.2.2.1 co) i x), σ.2.2.2)
def upR (σ : ST) (co : Nat) (r : List Int32) : ST := (σ.1, σ.2.1, σ.2.2.1, va_up σ.2.2.2 co r)
def rb (k : Nat) : Nat := 13 * k + 24
def rc (k j : Nat) : Nat := 13 * k + 25 + 2 * j
def nn (σ : ST) : Nat := 13 * σ.1 + 24
def capj (j : Nat) : Nat := if j = 2 then 1 else if j = 3 then 6 else 12
def shr (κ : KK) (d co : Nat) (i : Nat → Int32) (j : Nat → Int64) (r : Nat) (f : Nat → Int32) : va_E :=
  if d = 0 then .inr (1, [.int (i 0), .int (i 1), .int (i 2), .long (j 3), .int (i 4), .ref (kad κ (co + 1)), .ref (kad κ (co + 3)), .ref (kad κ (co + 5)), .ref (kad κ (co + 7)), .ref (kad κ (co + 9)), .ref (kad κ (co + 11))])
  else if d % 2 = 1 then .inr (2, [.ref (kad κ (co + 1)), .int (nI r)])
  else .inl (kcI κ, capj ((d - 2) / 2), .inl f)
def shc (κ : KK) (cnt : Nat) (th : Int32) (co : Nat) (i : Nat → Int32) (j : Nat → Int64) (r : Nat) (f : Nat → Int32) : va_E := match co with
  | 0 => .inr (3, [.ref (kad κ 1), .int (nI cnt), .ref (kad κ 2), .ref (kad κ 3), .ref (kad κ 4), .long (j 5)])
  | 1 => .inl (kcR κ, 60, .inr (.inr (.inr (.inr (fun q => if q < cnt then some (kad κ (rb q)) else none)))))
  | 2 => .inl (kcI κ, 1061, .inl i)
  | 3 => .inl (kcI κ, 1061, .inl i)
  | 4 => .inr (0, [.ref (kad κ 5), .int (i 1), .int (i 2)])
  | 5 => .inl (kcL κ, 512, .inr (.inl j))
  | 6 => .inr (4, [.int th, .ref (kad κ 7), .ref (kad κ 8), .ref (kad κ 9), .int (i 4), .int (i 5), .ref (kad κ 10), .ref (kad κ 11), .ref (kad κ 12), .ref (kad κ 13), .ref (kad κ 14), .ref (kad κ 15), .ref (kad κ 16), .ref (kad κ 17), .ref (kad κ 18), .ref (kad κ 19), .ref (kad κ 20), .ref (kad κ 21), .ref (kad κ 22), .long (j 19), .long (j 20), .int (i 21), .ref (kad κ 23)])
  | 7 => .inl (kcI κ, 1061, .inl i)
  | 8 => .inl (kcI κ, 1061, .inl i)
  | 9 => .inl (kcI κ, 1061, .inl i)
  | 10 => .inl (kcI κ, 60, .inl i)
  | 11 => .inl (kcZ κ, 60, .inl i)
  | 12 => .inl (kcZ κ, 60, .inl i)
  | 13 => .inl (kcL κ, 60, .inr (.inl j))
  | 14 => .inl (kcI κ, 60, .inl i)
  | 15 => .inl (kcL κ, 60, .inr (.inl j))
  | 16 => .inl (kcI κ, 60, .inl i)
  | 17 => .inl (kcI κ, 720, .inl i)
  | 18 => .inl (kcZ κ, 720, .inl i)
  | 19 => .inl (kcI κ, 60, .inl i)
  | 20 => .inl (kcI κ, 720, .inl i)
  | 21 => .inl (kcI κ, 60, .inl i)
  | 22 => .inl (kcL κ, 360, .inr (.inl j))
  | 23 => .inl (kcL κ, 2000, .inr (.inl j))
  | c + 24 => shr κ (c % 13) (c + 24) i j r f
def sh (κ : KK) (σ : ST) (F : Nat → Nat → Int32) (th : Int32) (co : Nat) : va_E := shc κ σ.1 th co (sI σ co) (sJ σ co) (sR σ co).length (F co)
theorem sh_rec (κ : KK) (σ : ST) (F : Nat → Nat → Int32) (th : Int32) (k : Nat) : sh κ σ F th (rb k) = .inr (1, [.int (sI σ (rb k) 0), .int (sI σ (rb k) 1), .int (sI σ (rb k) 2), .long (sJ σ (rb k) 3), .int (sI σ (rb k) 4), .ref (kad κ (rc k 0)), .ref (kad κ (rc k 1)), .ref (kad κ (rc k 2)), .ref (kad κ (rc k 3)), .ref (kad κ (rc k 4)), .ref (kad κ (rc k 5))]) := by
  show shr κ ((13 * k) % 13) (13 * k + 24) _ _ _ _ = _
  rw [Nat.mul_mod_right]
  rfl
theorem sh_row (κ : KK) (σ : ST) (F : Nat → Nat → Int32) (th : Int32) (k : Nat) {j : Nat} (hj : j < 6) : sh κ σ F th (rc k j) = .inr (2, [.ref (kad κ (rc k j + 1)), .int (nI (sR σ (rc k j)).length)]) := by
  have e : rc k j = (13 * k + (2 * j + 1)) + 24 := by unfold rc; omega
  rw [e]
  show shr κ ((13 * k + (2 * j + 1)) % 13) (13 * k + (2 * j + 1) + 24) _ _ _ _ = _
  rw [show (13 * k + (2 * j + 1)) % 13 = 2 * j + 1 by omega]
  unfold shr
  rw [if_neg (by omega), if_pos (by omega)]
theorem sh_arr (κ : KK) (σ : ST) (F : Nat → Nat → Int32) (th : Int32) (k : Nat) {j : Nat} (hj : j < 6) : sh κ σ F th (rc k j + 1) = .inl (kcI κ, capj j, .inl (F (rc k j + 1))) := by
  have e : rc k j + 1 = (13 * k + (2 * j + 2)) + 24 := by unfold rc; omega
  rw [e]
  show shr κ ((13 * k + (2 * j + 2)) % 13) (13 * k + (2 * j + 2) + 24) _ _ _ _ = _
  rw [show (13 * k + (2 * j + 2)) % 13 = 2 * j + 2 by omega]
  unfold shr
  rw [if_neg (by omega), if_neg (by omega), show (2 * j + 2 - 2) / 2 = j by omega]
theorem sh_up {κ : KK} {σ σ' : ST} {F F' : Nat → Nat → Int32} {th th' : Int32} {co : Nat} {e : va_E} (h1 : ∀ c, c ≠ co → sh κ σ' F' th' c = sh κ σ F th c) (h2 : sh κ σ' F' th' co = e) : va_up (sh κ σ F th) co e = sh κ σ' F' th' := by
  funext c
  by_cases h : c = co
  · subst h
    rw [va_up_self, h2]
  · rw [va_up_ne _ _ h, h1 c h]
theorem sh_upI {κ : KK} {σ : ST} {F : Nat → Nat → Int32} {th : Int32} {co i : Nat} {x : Int32} (c : Nat) (hc : c ≠ co) : sh κ (upI σ co i x) F th c = sh κ σ F th c := by
  simp only [sh, upI, sI, sJ, sR, va_up_ne _ _ hc]
theorem sh_upJ {κ : KK} {σ : ST} {F : Nat → Nat → Int32} {th : Int32} {co i : Nat} {x : Int64} (c : Nat) (hc : c ≠ co) : sh κ (upJ σ co i x) F th c = sh κ σ F th c := by
  simp only [sh, upJ, sI, sJ, sR, va_up_ne _ _ hc]
theorem sh_upR {κ : KK} {σ : ST} {F : Nat → Nat → Int32} {th : Int32} {co : Nat} {x : List Int32} (c : Nat) (hc : c ≠ co) : sh κ (upR σ co x) F th c = sh κ σ F th c := by
  simp only [sh, upR, sI, sJ, sR, va_up_ne _ _ hc]
theorem sh_upF {κ : KK} {σ : ST} {F : Nat → Nat → Int32} {th : Int32} {co : Nat} {f : Nat → Int32} (c : Nat) (hc : c ≠ co) : sh κ σ (va_up F co f) th c = sh κ σ F th c := by
  simp only [sh, va_up_ne _ _ hc]
theorem sh_upT {κ : KK} {σ : ST} {F : Nat → Nat → Int32} {th th' : Int32} (c : Nat) (hc : c ≠ 6) : sh κ σ F th' c = sh κ σ F th c := by
  unfold sh shc
  split <;> first | rfl | (exfalso; exact hc rfl)
/-- the rows' arrays hold the rows -/
def rowsOK (σ : ST) (F : Nat → Nat → Int32) : Prop := σ.1 ≤ 60 ∧ ∀ k j, k < σ.1 → j < 6 → (sR σ (rc k j)).length ≤ capj j ∧ ∀ (i : Nat) (x : Int32), (sR σ (rc k j))[i]? = some x → F (rc k j + 1) i = x
def WX (κ : KK) (σ : ST) (U : State) : Prop := va_K (kD κ) vwCl (kT κ) U ∧ (∃ (F : Nat → Nat → Int32) (th : Int32), rowsOK σ F ∧ va_P (kD κ) vwCl (wz (kad κ) (sh κ σ F th) (nn σ)) U.heap) ∧ adOk κ (nn σ) ∧ kS κ ≤ U.heap.size
def OS (κ : KK) (H0 : Heap) (σ : ST) (F : Nat → Nat → Int32) (th : Int32) (H : Heap) (locs : List Loc) : Prop := rowsOK σ F ∧ va_P (kD κ) vwCl (wz (kad κ) (sh κ σ F th) (nn σ)) H ∧ adOk κ (nn σ) ∧ va_S (FA κ) H0 H locs ∧ kS κ ≤ H0.size
theorem WX.blind {κ : KK} {σ : ST} {U : State} (g : JFrame) (mk : MethodId) (a : Array Value) (h : WX κ σ U) : WX κ σ (U.calling g mk a) := ⟨va_K.moved (u := U) (U := U.calling g mk a) (Vm.Alike.refl U.vm) h.1, h.2.1, h.2.2.1, h.2.2.2⟩
theorem OS.wx {κ : KK} {H0 : Heap} {σ : ST} {F : Nat → Nat → Int32} {th : Int32} {H : Heap} {locs : List Loc} (h : OS κ H0 σ F th H locs) {U : State} (hU : U.heap = H) (hK : va_K (kD κ) vwCl (kT κ) U) : WX κ σ U := ⟨hK, ⟨F, th, h.1, by rw [hU]; exact h.2.1⟩, h.2.2.1, by rw [hU]; exact Nat.le_trans h.2.2.2.2 h.2.2.2.1.1⟩
theorem nn_lt {σ : ST} {c : Nat} (h : c < 24) : c < nn σ := by unfold nn; omega
theorem nn_rb {σ : ST} {k : Nat} (h : k < σ.1) : rb k < nn σ := by unfold nn rb; omega
theorem nn_rc {σ : ST} {k j : Nat} (h : k < σ.1) (hj : j < 6) : rc k j < nn σ := by unfold nn rc; omega
theorem nn_ra {σ : ST} {k j : Nat} (h : k < σ.1) (hj : j < 6) : rc k j + 1 < nn σ := by unfold nn rc; omega
theorem upd_at {f : Nat → Int32} {k : Nat} {x : Int32} : upd f k x k = x := by simp [upd]
theorem vp_nar_bool {x : Int32} (h : x = 0 ∨ x = 1) : vp_nar .boolean x = x := by
  rcases h with rfl | rfl <;> rfl
section HEAP
variable {p : Program} {l : Launch} {e : Env} {R : Room} {s : State} {m : MethodId} {args : Array Value} {below : List Frame} {meth : Method} {c : Code} {H : Heap} {locs : List Loc} {cells slots : Nat} {Q : State → Prop}
variable {cc : ByteArray} {nL : Nat} {own : String} {rt : Option FieldType} {κ : KK} {pc : Nat} {ls : Array Slot} {rest : List Value} {vs : List (Option Value)} {H0 : Heap} {σ : ST} {F : Nat → Nat → Int32} {th : Int32}
theorem g_get {co ci N k index : Nat} {Cn : String} {T : u_T} {fs : List Value} {v : Value} (hC : CX p s m args meth c cc nL own rt κ) (hO : OS κ H0 σ F th H locs) (hcl : vwCl[ci]? = some (Cn, T, N)) (hin : ∀ w ∈ u_ws Cn T N, w ∈ lw_g) (hk : k < N) (hfl : Cond.fieldLink own index (T k).1 (T k).2.1 (T k).2.2.1 ∈ lw_g) (hco : co < nn σ) (he : sh κ σ F th co = .inr (ci, fs)) (hv : fs[k]? = some v) (hdg : decode cc pc = .ok (.getfield index, 3))
    (kk : W p l e R s m args below meth c H locs cells slots Q (F0 m (pc + 3) ls (v :: rest))) : W p l e R s m args below meth c H locs cells slots Q (F0 m pc ls (.ref (kad κ co) :: rest)) :=
  va_get hC.1 hC.2.1 hC.2.2.2.2.1 hin hC.2.2.2.1 hC.2.2.2.2.2.1 hO.2.1 co (by rw [wz_get hco, he]) hcl k hk (hC.2.2.2.2.1 _ hfl) (fun _ h9 => h9) hv hdg kk
/-- what a write of one cell leaves -/
theorem OS.put {σ' : ST} {F' : Nat → Nat → Int32} {th' : Int32} {co : Nat} {e2 : va_E} {H1 : Heap} {locs1 : List Loc} (hO : OS κ H0 σ F th H locs) (hco : co < nn σ) (hn : σ'.1 = σ.1) (hr : rowsOK σ' F') (h1 : ∀ c, c ≠ co → sh κ σ' F' th' c = sh κ σ F th c) (h2 : sh κ σ' F' th' co = e2)
    (hP : va_P (kD κ) vwCl ((wz (kad κ) (sh κ σ F th) (nn σ)).set co (kad κ co, e2)) H1) (hS : va_S (FA κ) H0 H1 locs1) : OS κ H0 σ' F' th' H1 locs1 := by
  have hnn : nn σ' = nn σ := by unfold nn; rw [hn]
  rw [wz_set hco, sh_up h1 h2] at hP
  exact ⟨hr, by rw [hnn]; exact hP, by rw [hnn]; exact hO.2.2.1, hS, hO.2.2.2.2⟩
theorem g_put {σ' : ST} {F' : Nat → Nat → Int32} {th' : Int32} {co ci N k index : Nat} {Cn : String} {T : u_T} {ty0 : Nat → FieldType} {fs : List Value} {v : Value} (hC : CX p s m args meth c cc nL own rt κ) (hO : OS κ H0 σ F th H locs) (hcl : vwCl[ci]? = some (Cn, T, N)) (hin : ∀ w ∈ u_ws Cn T N, w ∈ lw_g) (hty : ∀ k, k < N → parseFieldDescriptor (T k).2.2.1 = some (ty0 k)) (hnm : ∀ a, a < N → ∀ b, b < N → a ≠ b → (T a).2.1 ≠ (T b).2.1) (hk : k < N) (hfl : Cond.fieldLink own index (T k).1 (T k).2.1 (T k).2.2.1 ∈ lw_g) (hfin : (T k).2.2.2 = false) (hco : co < nn σ) (he : sh κ σ F th co = .inr (ci, fs)) (hlen : k < fs.length) (hnr : narrow (ty0 k) v = v) (hfit : fits (ty0 k) v = true)
    (hn : σ'.1 = σ.1) (hr : rowsOK σ' F') (h1 : ∀ c, c ≠ co → sh κ σ' F' th' c = sh κ σ F th c) (h2 : sh κ σ' F' th' co = .inr (ci, fs.set k v)) (hdg : decode cc pc = .ok (.putfield index, 3))
    (kk : ∀ (H1 : Heap) (locs1 : List Loc), OS κ H0 σ' F' th' H1 locs1 → W p l e R s m args below meth c H1 locs1 cells slots Q (F0 m (pc + 3) ls rest)) : W p l e R s m args below meth c H locs cells slots Q (F0 m pc ls (v :: .ref (kad κ co) :: rest)) :=
  va_put hC.1 hC.2.1 hC.2.2.2.2.1 hin ty0 hty hnm hC.2.2.2.1 hC.2.2.2.2.2.1 hO.2.1 (hO.2.2.1.D _) hO.2.2.2.1 co (by rw [wz_get hco, he]) hcl k hk (hC.2.2.2.2.1 _ hfl) (fun _ h9 => h9) hfin (hty k hk) hnr hfit hlen hdg (fun H1 locs1 hP _ hS => kk H1 locs1 (hO.put hco hn hr h1 h2 hP hS))
theorem rowsOK.upI {co i : Nat} {x : Int32} (h : rowsOK σ F) : rowsOK (upI σ co i x) F := h
theorem rowsOK.upJ {co i : Nat} {x : Int64} (h : rowsOK σ F) : rowsOK (upJ σ co i x) F := h
/-- an int field (or a boolean) -/
theorem g_puti {co ci N k index : Nat} {Cn : String} {T : u_T} {ty0 : Nat → FieldType} {fs : List Value} {x : Int32} (hC : CX p s m args meth c cc nL own rt κ) (hO : OS κ H0 σ F th H locs) (hcl : vwCl[ci]? = some (Cn, T, N)) (hin : ∀ w ∈ u_ws Cn T N, w ∈ lw_g) (hty : ∀ k, k < N → parseFieldDescriptor (T k).2.2.1 = some (ty0 k)) (hnm : ∀ a, a < N → ∀ b, b < N → a ≠ b → (T a).2.1 ≠ (T b).2.1) (hk : k < N) (hfl : Cond.fieldLink own index (T k).1 (T k).2.1 (T k).2.2.1 ∈ lw_g) (hfin : (T k).2.2.2 = false) (hco : co < nn σ) (he : sh κ σ F th co = .inr (ci, fs)) (hlen : k < fs.length) (hnr : narrow (ty0 k) (.int x) = .int x) (hfit : fits (ty0 k) (.int x) = true)
    (h2 : sh κ (upI σ co k x) F th co = .inr (ci, fs.set k (.int x))) (hdg : decode cc pc = .ok (.putfield index, 3))
    (kk : ∀ (H1 : Heap) (locs1 : List Loc), OS κ H0 (upI σ co k x) F th H1 locs1 → W p l e R s m args below meth c H1 locs1 cells slots Q (F0 m (pc + 3) ls rest)) : W p l e R s m args below meth c H locs cells slots Q (F0 m pc ls (.int x :: .ref (kad κ co) :: rest)) :=
  g_put (σ' := upI σ co k x) hC hO hcl hin hty hnm hk hfl hfin hco he hlen hnr hfit rfl hO.1 (fun c hc => sh_upI c hc) h2 hdg kk
theorem g_putl {co ci N k index : Nat} {Cn : String} {T : u_T} {ty0 : Nat → FieldType} {fs : List Value} {x : Int64} (hC : CX p s m args meth c cc nL own rt κ) (hO : OS κ H0 σ F th H locs) (hcl : vwCl[ci]? = some (Cn, T, N)) (hin : ∀ w ∈ u_ws Cn T N, w ∈ lw_g) (hty : ∀ k, k < N → parseFieldDescriptor (T k).2.2.1 = some (ty0 k)) (hnm : ∀ a, a < N → ∀ b, b < N → a ≠ b → (T a).2.1 ≠ (T b).2.1) (hk : k < N) (hfl : Cond.fieldLink own index (T k).1 (T k).2.1 (T k).2.2.1 ∈ lw_g) (hfin : (T k).2.2.2 = false) (hco : co < nn σ) (he : sh κ σ F th co = .inr (ci, fs)) (hlen : k < fs.length) (hnr : narrow (ty0 k) (.long x) = .long x) (hfit : fits (ty0 k) (.long x) = true)
    (h2 : sh κ (upJ σ co k x) F th co = .inr (ci, fs.set k (.long x))) (hdg : decode cc pc = .ok (.putfield index, 3))
    (kk : ∀ (H1 : Heap) (locs1 : List Loc), OS κ H0 (upJ σ co k x) F th H1 locs1 → W p l e R s m args below meth c H1 locs1 cells slots Q (F0 m (pc + 3) ls rest)) : W p l e R s m args below meth c H locs cells slots Q (F0 m pc ls (.long x :: .ref (kad κ co) :: rest)) :=
  g_put (σ' := upJ σ co k x) hC hO hcl hin hty hnm hk hfl hfin hco he hlen hnr hfit rfl hO.1 (fun c hc => sh_upJ c hc) h2 hdg kk
/-- the model's field 'thrown' -/
theorem g_putT {index : Nat} {x : Int32} (hC : CX p s m args meth c cc nL own rt κ) (hO : OS κ H0 σ F th H locs) (hfl : Cond.fieldLink own index (TX4 0).1 (TX4 0).2.1 (TX4 0).2.2.1 ∈ lw_g) (hdg : decode cc pc = .ok (.putfield index, 3))
    (kk : ∀ (H1 : Heap) (locs1 : List Loc), OS κ H0 σ F x H1 locs1 → W p l e R s m args below meth c H1 locs1 cells slots Q (F0 m (pc + 3) ls rest)) : W p l e R s m args below meth c H locs cells slots Q (F0 m pc ls (.int x :: .ref (kad κ 6) :: rest)) :=
  g_put (ci := 4) (k := 0) (co := 6) hC hO rfl inX4 tyX4_ok nmX4 (by decide) hfl rfl (nn_lt (by decide)) rfl (Nat.le_of_ble_eq_true rfl) rfl rfl rfl hO.1 (fun c hc => sh_upT c hc) rfl hdg kk
theorem g_iald {co n : Nat} {f : Nat → Int32} {i : Int32} (hC : CX p s m args meth c cc nL own rt κ) (hO : OS κ H0 σ F th H locs) (hco : co < nn σ) (he : sh κ σ F th co = .inl (kcI κ, n, .inl f)) (hin : vp_in i n) (hdg : decode cc pc = .ok (.iaload, 1))
    (kk : W p l e R s m args below meth c H locs cells slots Q (F0 m (pc + 1) ls (.int (f i.toNatClampNeg) :: rest))) : W p l e R s m args below meth c H locs cells slots Q (F0 m pc ls (.int i :: .ref (kad κ co) :: rest)) :=
  va_iald hC.1 hC.2.1 hC.2.2.2.2.2.1 hO.2.1 co 0 (by rw [wz_get hco, he]) rfl hin hdg kk
theorem g_lald {co n : Nat} {f : Nat → Int64} {i : Int32} (hC : CX p s m args meth c cc nL own rt κ) (hO : OS κ H0 σ F th H locs) (hco : co < nn σ) (he : sh κ σ F th co = .inl (kcL κ, n, .inr (.inl f))) (hin : vp_in i n) (hdg : decode cc pc = .ok (.laload, 1))
    (kk : W p l e R s m args below meth c H locs cells slots Q (F0 m (pc + 1) ls (.long (f i.toNatClampNeg) :: rest))) : W p l e R s m args below meth c H locs cells slots Q (F0 m pc ls (.int i :: .ref (kad κ co) :: rest)) :=
  va_lald hC.1 hC.2.1 hC.2.2.2.2.2.1 hO.2.1 co 1 (by rw [wz_get hco, he]) rfl hin hdg kk
theorem g_zald {co n : Nat} {f : Nat → Int32} {i : Int32} (hC : CX p s m args meth c cc nL own rt κ) (hO : OS κ H0 σ F th H locs) (hco : co < nn σ) (he : sh κ σ F th co = .inl (kcZ κ, n, .inl f)) (hin : vp_in i n) (hdg : decode cc pc = .ok (.baload, 1))
    (kk : W p l e R s m args below meth c H locs cells slots Q (F0 m (pc + 1) ls (.int (f i.toNatClampNeg) :: rest))) : W p l e R s m args below meth c H locs cells slots Q (F0 m pc ls (.int i :: .ref (kad κ co) :: rest)) :=
  va_zald hC.1 hC.2.1 hC.2.2.2.2.2.1 hO.2.1 co 2 (by rw [wz_get hco, he]) rfl hin hdg kk
theorem g_aldq {co n : Nat} {f : Nat → Option Nat} {i : Int32} (hC : CX p s m args meth c cc nL own rt κ) (hO : OS κ H0 σ F th H locs) (hco : co < nn σ) (he : sh κ σ F th co = .inl (kcR κ, n, .inr (.inr (.inr (.inr f))))) (hin : vp_in i n) (hdg : decode cc pc = .ok (.aaload, 1))
    (kk : W p l e R s m args below meth c H locs cells slots Q (F0 m (pc + 1) ls (va_rf (f i.toNatClampNeg) :: rest))) : W p l e R s m args below meth c H locs cells slots Q (F0 m pc ls (.int i :: .ref (kad κ co) :: rest)) :=
  va_aldq hC.1 hC.2.1 hC.2.2.2.2.2.1 hO.2.1 co 3 (by rw [wz_get hco, he]) rfl hin hdg kk
theorem g_alenI {co : Nat} {x : vp_A} {v : Int32} (hC : CX p s m args meth c cc nL own rt κ) (hO : OS κ H0 σ F th H locs) (hco : co < nn σ) (he : sh κ σ F th co = .inl (kcI κ, x)) (hv : Int32.ofNat x.1 = v) (hdg : decode cc pc = .ok (.arraylength, 1))
    (kk : W p l e R s m args below meth c H locs cells slots Q (F0 m (pc + 1) ls (.int v :: rest))) : W p l e R s m args below meth c H locs cells slots Q (F0 m pc ls (.ref (kad κ co) :: rest)) :=
  va_alen hC.1 hC.2.1 hC.2.2.2.2.2.1 hO.2.1 co 0 (by rw [wz_get hco, he]) rfl hv hdg kk
theorem g_alenL {co : Nat} {x : vp_A} {v : Int32} (hC : CX p s m args meth c cc nL own rt κ) (hO : OS κ H0 σ F th H locs) (hco : co < nn σ) (he : sh κ σ F th co = .inl (kcL κ, x)) (hv : Int32.ofNat x.1 = v) (hdg : decode cc pc = .ok (.arraylength, 1))
    (kk : W p l e R s m args below meth c H locs cells slots Q (F0 m (pc + 1) ls (.int v :: rest))) : W p l e R s m args below meth c H locs cells slots Q (F0 m pc ls (.ref (kad κ co) :: rest)) :=
  va_alen hC.1 hC.2.1 hC.2.2.2.2.2.1 hO.2.1 co 1 (by rw [wz_get hco, he]) rfl hv hdg kk
theorem g_alenR {co : Nat} {x : vp_A} {v : Int32} (hC : CX p s m args meth c cc nL own rt κ) (hO : OS κ H0 σ F th H locs) (hco : co < nn σ) (he : sh κ σ F th co = .inl (kcR κ, x)) (hv : Int32.ofNat x.1 = v) (hdg : decode cc pc = .ok (.arraylength, 1))
    (kk : W p l e R s m args below meth c H locs cells slots Q (F0 m (pc + 1) ls (.int v :: rest))) : W p l e R s m args below meth c H locs cells slots Q (F0 m pc ls (.ref (kad κ co) :: rest)) :=
  va_alen hC.1 hC.2.1 hC.2.2.2.2.2.1 hO.2.1 co 3 (by rw [wz_get hco, he]) rfl hv hdg kk
theorem g_iast {co n : Nat} {i x : Int32} (hC : CX p s m args meth c cc nL own rt κ) (hO : OS κ H0 σ F th H locs) (hco : co < nn σ) (he : ∀ σ' : ST, σ'.1 = σ.1 → sh κ σ' F th co = .inl (kcI κ, n, .inl (sI σ' co))) (hin : vp_in i n) (hdg : decode cc pc = .ok (.iastore, 1))
    (kk : ∀ (H1 : Heap) (locs1 : List Loc), OS κ H0 (upI σ co i.toNatClampNeg x) F th H1 locs1 → W p l e R s m args below meth c H1 locs1 cells slots Q (F0 m (pc + 1) ls rest)) : W p l e R s m args below meth c H locs cells slots Q (F0 m pc ls (.int x :: .int i :: .ref (kad κ co) :: rest)) :=
  va_iast hC.1 hC.2.1 hC.2.2.2.2.2.1 hO.2.1 (hO.2.2.1.D _) hO.2.2.2.1 co 0 (by rw [wz_get hco, he σ rfl]) rfl hin hdg (fun H1 locs1 hP _ hS => kk H1 locs1 (hO.put hco rfl hO.1 (fun c hc => sh_upI c hc) (by rw [he (upI σ co i.toNatClampNeg x) rfl]; simp only [upI, sI, va_up_self]) hP hS))
theorem g_last {co n : Nat} {i : Int32} {x : Int64} (hC : CX p s m args meth c cc nL own rt κ) (hO : OS κ H0 σ F th H locs) (hco : co < nn σ) (he : ∀ σ' : ST, σ'.1 = σ.1 → sh κ σ' F th co = .inl (kcL κ, n, .inr (.inl (sJ σ' co)))) (hin : vp_in i n) (hdg : decode cc pc = .ok (.lastore, 1))
    (kk : ∀ (H1 : Heap) (locs1 : List Loc), OS κ H0 (upJ σ co i.toNatClampNeg x) F th H1 locs1 → W p l e R s m args below meth c H1 locs1 cells slots Q (F0 m (pc + 1) ls rest)) : W p l e R s m args below meth c H locs cells slots Q (F0 m pc ls (.long x :: .int i :: .ref (kad κ co) :: rest)) :=
  va_last hC.1 hC.2.1 hC.2.2.2.2.2.1 hO.2.1 (hO.2.2.1.D _) hO.2.2.2.1 co 1 (by rw [wz_get hco, he σ rfl]) rfl hin hdg (fun H1 locs1 hP _ hS => kk H1 locs1 (hO.put hco rfl hO.1 (fun c hc => sh_upJ c hc) (by rw [he (upJ σ co i.toNatClampNeg x) rfl]; simp only [upJ, sJ, va_up_self]) hP hS))
theorem g_zast {co n : Nat} {i x : Int32} (hC : CX p s m args meth c cc nL own rt κ) (hO : OS κ H0 σ F th H locs) (hco : co < nn σ) (he : ∀ σ' : ST, σ'.1 = σ.1 → sh κ σ' F th co = .inl (kcZ κ, n, .inl (sI σ' co))) (hin : vp_in i n) (hx : x = 0 ∨ x = 1) (hdg : decode cc pc = .ok (.bastore, 1))
    (kk : ∀ (H1 : Heap) (locs1 : List Loc), OS κ H0 (upI σ co i.toNatClampNeg x) F th H1 locs1 → W p l e R s m args below meth c H1 locs1 cells slots Q (F0 m (pc + 1) ls rest)) : W p l e R s m args below meth c H locs cells slots Q (F0 m pc ls (.int x :: .int i :: .ref (kad κ co) :: rest)) :=
  va_zast hC.1 hC.2.1 hC.2.2.2.2.2.1 hO.2.1 (hO.2.2.1.D _) hO.2.2.2.1 co 2 (by rw [wz_get hco, he σ rfl]) rfl hin hdg (fun H1 locs1 hP _ hS => kk H1 locs1 (hO.put hco rfl hO.1 (fun c hc => sh_upI c hc) (by rw [he (upI σ co i.toNatClampNeg x) rfl, vp_nar_bool hx]; simp only [upI, sI, va_up_self]) hP hS))
/-! the ends -/
theorem g_iret {post : Int32 → ST → Prop} {x : Int32} (hC : CX p s m args meth c cc nL own (some .int) κ) (hO : OS κ s.heap σ F th H locs) (hdg : decode cc pc = .ok (.ireturn, 1)) (hpost : post x σ) : W p l e R s m args below meth c H locs 0 0 (MQ below (va_Qi post (WX κ) (FA κ)) args s 0 0 (FA κ)) (F0 m pc ls [.int x]) :=
  W.iret (hlocks := hC.2.2.2.2.2.2.1) hC.1 hC.2.1 hC.2.2.2.2.2.2.2 (fun t ht hW => ⟨⟨x, σ, rfl, hpost, hO.wx ht (va_K.moved hW.alike hC.2.2.2.2.2.1)⟩, hO.2.2.2.1.F ht⟩) hO.2.2.2.1.2.2 hdg
theorem g_zret {post : Int32 → ST → Prop} {x : Int32} (hC : CX p s m args meth c cc nL own (some .boolean) κ) (hO : OS κ s.heap σ F th H locs) (hdg : decode cc pc = .ok (.ireturn, 1)) (hx : x = 0 ∨ x = 1) (hpost : post x σ) : W p l e R s m args below meth c H locs 0 0 (MQ below (va_Qi post (WX κ) (FA κ)) args s 0 0 (FA κ)) (F0 m pc ls [.int x]) :=
  W.zret (hlocks := hC.2.2.2.2.2.2.1) hC.1 hC.2.1 hC.2.2.2.2.2.2.2 (by rcases hx with rfl | rfl <;> rfl) (fun t ht hW => ⟨⟨x, σ, rfl, hpost, hO.wx ht (va_K.moved hW.alike hC.2.2.2.2.2.1)⟩, hO.2.2.2.1.F ht⟩) hO.2.2.2.1.2.2 hdg
theorem g_lret {post : Int64 → ST → Prop} {x : Int64} (hC : CX p s m args meth c cc nL own (some .long) κ) (hO : OS κ s.heap σ F th H locs) (hdg : decode cc pc = .ok (.lreturn, 1)) (hpost : post x σ) : W p l e R s m args below meth c H locs 0 0 (MQ below (va_Ql post (WX κ) (FA κ)) args s 0 0 (FA κ)) (F0 m pc ls [.long x]) :=
  W.lret (hlocks := hC.2.2.2.2.2.2.1) hC.1 hC.2.1 hC.2.2.2.2.2.2.2 (fun t ht hW => ⟨⟨x, σ, rfl, hpost, hO.wx ht (va_K.moved hW.alike hC.2.2.2.2.2.1)⟩, hO.2.2.2.1.F ht⟩) hO.2.2.2.1.2.2 hdg
theorem g_vret {post : ST → Prop} (hC : CX p s m args meth c cc nL own none κ) (hO : OS κ s.heap σ F th H locs) (hdg : decode cc pc = .ok (.return_, 1)) (hpost : post σ) : W p l e R s m args below meth c H locs 0 0 (MQ below (va_Qv post (WX κ) (FA κ)) args s 0 0 (FA κ)) (F0 m pc ls []) :=
  W.vret (hlocks := hC.2.2.2.2.2.2.1) hC.1 hC.2.1 hC.2.2.2.2.2.2.2 (fun t ht hW => ⟨⟨σ, rfl, hpost, hO.wx ht (va_K.moved hW.alike hC.2.2.2.2.2.1)⟩, hO.2.2.2.1.F ht⟩) hO.2.2.2.1.2.2 hdg
theorem g_aret {post : Option Nat → ST → Prop} {x : Nat} {C : String} (hC : CX p s m args meth c cc nL own (some (.object C)) κ) (hO : OS κ s.heap σ F th H locs) (hdg : decode cc pc = .ok (.areturn, 1)) (hpost : post (some x) σ) : W p l e R s m args below meth c H locs 0 0 (MQ below (va_Qq post (WX κ) (FA κ)) args s 0 0 (FA κ)) (F0 m pc ls [.ref x]) :=
  W.aret (hlocks := hC.2.2.2.2.2.2.1) hC.1 hC.2.1 hC.2.2.2.2.2.2.2 (Or.inl ⟨C, rfl⟩) (Or.inr ⟨x, rfl⟩) (fun t ht hW => ⟨⟨some x, σ, rfl, hpost, hO.wx ht (va_K.moved hW.alike hC.2.2.2.2.2.1)⟩, hO.2.2.2.1.F ht⟩) hO.2.2.2.1.2.2 hdg
theorem g_aretN {post : Option Nat → ST → Prop} {C : String} (hC : CX p s m args meth c cc nL own (some (.object C)) κ) (hO : OS κ s.heap σ F th H locs) (hdg : decode cc pc = .ok (.areturn, 1)) (hpost : post none σ) : W p l e R s m args below meth c H locs 0 0 (MQ below (va_Qq post (WX κ) (FA κ)) args s 0 0 (FA κ)) (F0 m pc ls [.null]) :=
  W.aret (hlocks := hC.2.2.2.2.2.2.1) hC.1 hC.2.1 hC.2.2.2.2.2.2.2 (Or.inl ⟨C, rfl⟩) (Or.inl rfl) (fun t ht hW => ⟨⟨none, σ, rfl, hpost, hO.wx ht (va_K.moved hW.alike hC.2.2.2.2.2.1)⟩, hO.2.2.2.1.F ht⟩) hO.2.2.2.1.2.2 hdg
theorem g_aretq {post : Option Nat → ST → Prop} {x : Option Nat} {C : String} (hC : CX p s m args meth c cc nL own (some (.object C)) κ) (hO : OS κ s.heap σ F th H locs) (hdg : decode cc pc = .ok (.areturn, 1)) (hpost : post x σ) : W p l e R s m args below meth c H locs 0 0 (MQ below (va_Qq post (WX κ) (FA κ)) args s 0 0 (FA κ)) (F0 m pc ls [va_rf x]) := by
  cases x with
  | none => exact g_aretN hC hO hdg hpost
  | some x => exact g_aret hC hO hdg hpost
/-! calls of methods over the whole world -/
theorem g_recv {co ci N : Nat} {Cn : String} {T : u_T} {fs : List Value} (hC : CX p s m args meth c cc nL own rt κ) (hO : OS κ H0 σ F th H locs) (hcl : vwCl[ci]? = some (Cn, T, N)) (hco : co < nn σ) (he : sh κ σ F th co = .inr (ci, fs)) : ∃ cell : Cell, H[kad κ co]? = some cell ∧ cell.vm.isStatics = false ∧ s.vm.findClass Cn = some cell.cls :=
  va_recv (q0 := co) hC.2.2.2.2.2.1 hO.2.1 hcl (by rw [wz_get hco, he])
theorem g_runV {y : MethodName} {C : String} {cc2 : ByteArray} {mx n index : Nat} {rt2 : Option FieldType} {rm : Room} {As : List Value} {Qc : Array Value → State → Outcome → State → Prop} {b : Addr} (hC : CX p s m args meth c cc nL own rt κ) (hO : OS κ H0 σ F th H locs) (hl : LL ls nL vs) (hM : Met l y (wA y cc2 mx rt2) rm (va_Pc (.ref b :: As) (WX κ σ)) Qc 0 0 (FA κ)) (mi : MI y C cc2 mx rt2 n) (ml : Cond.methodLink own index y ∈ lw_g)
    (hb : ∃ cell : Cell, H[b]? = some cell ∧ cell.vm.isStatics = false ∧ s.vm.findClass C = some cell.cls) (hn : As.length = n) (hrc : rm.cells = 0) (hrs : rm.slots = 0) (hR : rm.frames + 1 ≤ R.frames ∧ 8 + (mx + 11) + rm.locals ≤ R.locals) (hw : (rest.map fun v => v.category).sum ≤ 8) (hf : cells ≤ R.cells ∧ slots ≤ R.slots) (hdg : decode cc pc = .ok (.invokevirtual index, 3)) :
    va_Run p l e R s m args below meth c H locs cells slots 0 0 (F0 m pc ls (As.reverse ++ .ref b :: rest)) rest (Qc (Value.ref b :: As).toArray) (FA κ) :=
  va_runV ⟨hC.1, hC.2.1, hC.2.2.1, hC.2.2.2.1, hC.2.2.2.2.1⟩ hM (cwV n hC.2.2.2.2.1 (gV ml mi.1 mi.2.1 mi.2.2.1 mi.2.2.2.1) rfl hrc hrs mi.2.2.2.2 hR) ⟨fun a U g mk q => ⟨q.1, q.2.blind g mk a⟩, hb, fun U hU hW => ⟨rfl, hO.wx hU (va_K.moved hW.alike hC.2.2.2.2.2.1)⟩⟩ rfl hn hl.1 rfl (lv_room hw) hdg hf
theorem g_runS {y : MethodName} {cc2 : ByteArray} {mx n index : Nat} {rt2 : Option FieldType} {rm : Room} {As : List Value} {Qc : Array Value → State → Outcome → State → Prop} (hC : CX p s m args meth c cc nL own rt κ) (hO : OS κ H0 σ F th H locs) (hl : LL ls nL vs) (hM : Met l y (wA y cc2 mx rt2) rm (va_Pc As (WX κ σ)) Qc 0 0 (FA κ)) (mi : MS y own cc2 mx rt2 n) (ml : Cond.methodLink own index y ∈ lw_g)
    (hn : As.length = n) (hrc : rm.cells = 0) (hrs : rm.slots = 0) (hR : rm.frames + 1 ≤ R.frames ∧ 8 + (mx + 11) + rm.locals ≤ R.locals) (hw : (rest.map fun v => v.category).sum ≤ 8) (hf : cells ≤ R.cells ∧ slots ≤ R.slots) (hdg : decode cc pc = .ok (.invokestatic index, 3)) :
    va_Run p l e R s m args below meth c H locs cells slots 0 0 (F0 m pc ls (As.reverse ++ rest)) rest (Qc As.toArray) (FA κ) :=
  va_runS ⟨hC.1, hC.2.1, hC.2.2.1, hC.2.2.2.1, hC.2.2.2.2.1⟩ hM (cwS n hC.2.2.2.2.1 (gS ml mi.1 mi.2.1 mi.2.2.1) rfl hrc hrs mi.2.2.2 hR) ⟨fun a U g mk q => ⟨q.1, q.2.blind g mk a⟩, fun U hU hW => ⟨rfl, hO.wx hU (va_K.moved hW.alike hC.2.2.2.2.2.1)⟩⟩ rfl hn hl.1 rfl (lv_room hw) hdg hf
theorem OS.back {σ' : ST} {t : State} {H1 : Heap} {locs1 : List Loc} (hO : OS κ H0 σ F th H locs) (ht : t.heap = H1) (hB : WX κ σ' t) (hS : va_S (FA κ) H0 H1 locs1) : ∃ F' th', OS κ H0 σ' F' th' H1 locs1 := by
  obtain ⟨-, ⟨F', th', h1, h2⟩, h3, -⟩ := hB
  exact ⟨F', th', h1, by rw [← ht]; exact h2, h3, hS, hO.2.2.2.2⟩
theorem g_cVi0 {y : MethodName} {cc2 : ByteArray} {mx index : Nat} {rt2 : Option FieldType} {rm : Room} {co ci N : Nat} {Cn : String} {T : u_T} {fs : List Value} {post : Int32 → ST → Prop} (hC : CX p s m args meth c cc nL own rt κ) (hO : OS κ H0 σ F th H locs) (hl : LL ls nL vs) (hcl : vwCl[ci]? = some (Cn, T, N)) (hco : co < nn σ) (he : sh κ σ F th co = .inr (ci, fs)) (hM : Met l y (wA y cc2 mx rt2) rm (va_Pc (.ref (kad κ co) :: []) (WX κ σ)) (va_Qi post (WX κ) (FA κ)) 0 0 (FA κ)) (mi : MI y Cn cc2 mx rt2 0) (ml : Cond.methodLink own index y ∈ lw_g) (hrc : rm.cells = 0) (hrs : rm.slots = 0) (hR : rm.frames + 1 ≤ R.frames ∧ 8 + (mx + 11) + rm.locals ≤ R.locals) (hw : (rest.map fun v => v.category).sum ≤ 8) (hf : cells ≤ R.cells ∧ slots ≤ R.slots) (hdg : decode cc pc = .ok (.invokevirtual index, 3))
    (kk : ∀ (r : Int32) (σ' : ST) (F' : Nat → Nat → Int32) (th' : Int32) (H1 : Heap) (locs1 : List Loc), post r σ' → OS κ H0 σ' F' th' H1 locs1 → W p l e R s m args below meth c H1 locs1 cells slots Q (F0 m (pc + 3) ls (.int r :: rest))) : W p l e R s m args below meth c H locs cells slots Q (F0 m pc ls (.ref (kad κ co) :: rest)) :=
  va_calli (g_runV (rest := rest) (As := []) hC hO hl hM mi ml (g_recv hC hO hcl hco he) rfl hrc hrs hR hw hf hdg) hO.2.2.2.1 (fun _ _ h => h) (fun _ h => h) (fun r σ' t H1 locs1 ht _ hp hB _ _ hS => by
    obtain ⟨F', th', hO'⟩ := hO.back ht hB hS
    exact kk r σ' F' th' H1 locs1 hp hO')
theorem g_cVl0 {y : MethodName} {cc2 : ByteArray} {mx index : Nat} {rt2 : Option FieldType} {rm : Room} {co ci N : Nat} {Cn : String} {T : u_T} {fs : List Value} {post : Int64 → ST → Prop} (hC : CX p s m args meth c cc nL own rt κ) (hO : OS κ H0 σ F th H locs) (hl : LL ls nL vs) (hcl : vwCl[ci]? = some (Cn, T, N)) (hco : co < nn σ) (he : sh κ σ F th co = .inr (ci, fs)) (hM : Met l y (wA y cc2 mx rt2) rm (va_Pc (.ref (kad κ co) :: []) (WX κ σ)) (va_Ql post (WX κ) (FA κ)) 0 0 (FA κ)) (mi : MI y Cn cc2 mx rt2 0) (ml : Cond.methodLink own index y ∈ lw_g) (hrc : rm.cells = 0) (hrs : rm.slots = 0) (hR : rm.frames + 1 ≤ R.frames ∧ 8 + (mx + 11) + rm.locals ≤ R.locals) (hw : (rest.map fun v => v.category).sum ≤ 8) (hf : cells ≤ R.cells ∧ slots ≤ R.slots) (hdg : decode cc pc = .ok (.invokevirtual index, 3))
    (kk : ∀ (r : Int64) (σ' : ST) (F' : Nat → Nat → Int32) (th' : Int32) (H1 : Heap) (locs1 : List Loc), post r σ' → OS κ H0 σ' F' th' H1 locs1 → W p l e R s m args below meth c H1 locs1 cells slots Q (F0 m (pc + 3) ls (.long r :: rest))) : W p l e R s m args below meth c H locs cells slots Q (F0 m pc ls (.ref (kad κ co) :: rest)) :=
  va_calll (g_runV (rest := rest) (As := []) hC hO hl hM mi ml (g_recv hC hO hcl hco he) rfl hrc hrs hR hw hf hdg) hO.2.2.2.1 (fun _ _ h => h) (fun _ h => h) (fun r σ' t H1 locs1 ht _ hp hB _ _ hS => by
    obtain ⟨F', th', hO'⟩ := hO.back ht hB hS
    exact kk r σ' F' th' H1 locs1 hp hO')
theorem g_cVq0 {y : MethodName} {cc2 : ByteArray} {mx index : Nat} {rt2 : Option FieldType} {rm : Room} {co ci N : Nat} {Cn : String} {T : u_T} {fs : List Value} {post : Option Nat → ST → Prop} (hC : CX p s m args meth c cc nL own rt κ) (hO : OS κ H0 σ F th H locs) (hl : LL ls nL vs) (hcl : vwCl[ci]? = some (Cn, T, N)) (hco : co < nn σ) (he : sh κ σ F th co = .inr (ci, fs)) (hM : Met l y (wA y cc2 mx rt2) rm (va_Pc (.ref (kad κ co) :: []) (WX κ σ)) (va_Qq post (WX κ) (FA κ)) 0 0 (FA κ)) (mi : MI y Cn cc2 mx rt2 0) (ml : Cond.methodLink own index y ∈ lw_g) (hrc : rm.cells = 0) (hrs : rm.slots = 0) (hR : rm.frames + 1 ≤ R.frames ∧ 8 + (mx + 11) + rm.locals ≤ R.locals) (hw : (rest.map fun v => v.category).sum ≤ 8) (hf : cells ≤ R.cells ∧ slots ≤ R.slots) (hdg : decode cc pc = .ok (.invokevirtual index, 3))
    (kk : ∀ (r : Option Nat) (σ' : ST) (F' : Nat → Nat → Int32) (th' : Int32) (H1 : Heap) (locs1 : List Loc), post r σ' → OS κ H0 σ' F' th' H1 locs1 → W p l e R s m args below meth c H1 locs1 cells slots Q (F0 m (pc + 3) ls (va_rf r :: rest))) : W p l e R s m args below meth c H locs cells slots Q (F0 m pc ls (.ref (kad κ co) :: rest)) :=
  va_callq (g_runV (rest := rest) (As := []) hC hO hl hM mi ml (g_recv hC hO hcl hco he) rfl hrc hrs hR hw hf hdg) hO.2.2.2.1 (fun _ _ h => h) (fun _ h => h) (fun r σ' t H1 locs1 ht _ hp hB _ _ hS => by
    obtain ⟨F', th', hO'⟩ := hO.back ht hB hS
    exact kk r σ' F' th' H1 locs1 hp hO')
theorem g_cVv0 {y : MethodName} {cc2 : ByteArray} {mx index : Nat} {rt2 : Option FieldType} {rm : Room} {co ci N : Nat} {Cn : String} {T : u_T} {fs : List Value} {post : ST → Prop} (hC : CX p s m args meth c cc nL own rt κ) (hO : OS κ H0 σ F th H locs) (hl : LL ls nL vs) (hcl : vwCl[ci]? = some (Cn, T, N)) (hco : co < nn σ) (he : sh κ σ F th co = .inr (ci, fs)) (hM : Met l y (wA y cc2 mx rt2) rm (va_Pc (.ref (kad κ co) :: []) (WX κ σ)) (va_Qv post (WX κ) (FA κ)) 0 0 (FA κ)) (mi : MI y Cn cc2 mx rt2 0) (ml : Cond.methodLink own index y ∈ lw_g) (hrc : rm.cells = 0) (hrs : rm.slots = 0) (hR : rm.frames + 1 ≤ R.frames ∧ 8 + (mx + 11) + rm.locals ≤ R.locals) (hw : (rest.map fun v => v.category).sum ≤ 8) (hf : cells ≤ R.cells ∧ slots ≤ R.slots) (hdg : decode cc pc = .ok (.invokevirtual index, 3))
    (kk : ∀ (σ' : ST) (F' : Nat → Nat → Int32) (th' : Int32) (H1 : Heap) (locs1 : List Loc), post σ' → OS κ H0 σ' F' th' H1 locs1 → W p l e R s m args below meth c H1 locs1 cells slots Q (F0 m (pc + 3) ls rest)) : W p l e R s m args below meth c H locs cells slots Q (F0 m pc ls (.ref (kad κ co) :: rest)) :=
  va_callv (g_runV (rest := rest) (As := []) hC hO hl hM mi ml (g_recv hC hO hcl hco he) rfl hrc hrs hR hw hf hdg) hO.2.2.2.1 (fun _ _ h => h) (fun _ h => h) (fun σ' t H1 locs1 ht _ hp hB _ _ hS => by
    obtain ⟨F', th', hO'⟩ := hO.back ht hB hS
    exact kk σ' F' th' H1 locs1 hp hO')
theorem g_cVi1 {y : MethodName} {cc2 : ByteArray} {mx index : Nat} {rt2 : Option FieldType} {rm : Room} {a1 : Value} {co ci N : Nat} {Cn : String} {T : u_T} {fs : List Value} {post : Int32 → ST → Prop} (hC : CX p s m args meth c cc nL own rt κ) (hO : OS κ H0 σ F th H locs) (hl : LL ls nL vs) (hcl : vwCl[ci]? = some (Cn, T, N)) (hco : co < nn σ) (he : sh κ σ F th co = .inr (ci, fs)) (hM : Met l y (wA y cc2 mx rt2) rm (va_Pc (.ref (kad κ co) :: [a1]) (WX κ σ)) (va_Qi post (WX κ) (FA κ)) 0 0 (FA κ)) (mi : MI y Cn cc2 mx rt2 1) (ml : Cond.methodLink own index y ∈ lw_g) (hrc : rm.cells = 0) (hrs : rm.slots = 0) (hR : rm.frames + 1 ≤ R.frames ∧ 8 + (mx + 11) + rm.locals ≤ R.locals) (hw : (rest.map fun v => v.category).sum ≤ 8) (hf : cells ≤ R.cells ∧ slots ≤ R.slots) (hdg : decode cc pc = .ok (.invokevirtual index, 3))
    (kk : ∀ (r : Int32) (σ' : ST) (F' : Nat → Nat → Int32) (th' : Int32) (H1 : Heap) (locs1 : List Loc), post r σ' → OS κ H0 σ' F' th' H1 locs1 → W p l e R s m args below meth c H1 locs1 cells slots Q (F0 m (pc + 3) ls (.int r :: rest))) : W p l e R s m args below meth c H locs cells slots Q (F0 m pc ls (a1 :: .ref (kad κ co) :: rest)) :=
  va_calli (g_runV (rest := rest) (As := [a1]) hC hO hl hM mi ml (g_recv hC hO hcl hco he) rfl hrc hrs hR hw hf hdg) hO.2.2.2.1 (fun _ _ h => h) (fun _ h => h) (fun r σ' t H1 locs1 ht _ hp hB _ _ hS => by
    obtain ⟨F', th', hO'⟩ := hO.back ht hB hS
    exact kk r σ' F' th' H1 locs1 hp hO')
theorem g_cVl1 {y : MethodName} {cc2 : ByteArray} {mx index : Nat} {rt2 : Option FieldType} {rm : Room} {a1 : Value} {co ci N : Nat} {Cn : String} {T : u_T} {fs : List Value} {post : Int64 → ST → Prop} (hC : CX p s m args meth c cc nL own rt κ) (hO : OS κ H0 σ F th H locs) (hl : LL ls nL vs) (hcl : vwCl[ci]? = some (Cn, T, N)) (hco : co < nn σ) (he : sh κ σ F th co = .inr (ci, fs)) (hM : Met l y (wA y cc2 mx rt2) rm (va_Pc (.ref (kad κ co) :: [a1]) (WX κ σ)) (va_Ql post (WX κ) (FA κ)) 0 0 (FA κ)) (mi : MI y Cn cc2 mx rt2 1) (ml : Cond.methodLink own index y ∈ lw_g) (hrc : rm.cells = 0) (hrs : rm.slots = 0) (hR : rm.frames + 1 ≤ R.frames ∧ 8 + (mx + 11) + rm.locals ≤ R.locals) (hw : (rest.map fun v => v.category).sum ≤ 8) (hf : cells ≤ R.cells ∧ slots ≤ R.slots) (hdg : decode cc pc = .ok (.invokevirtual index, 3))
    (kk : ∀ (r : Int64) (σ' : ST) (F' : Nat → Nat → Int32) (th' : Int32) (H1 : Heap) (locs1 : List Loc), post r σ' → OS κ H0 σ' F' th' H1 locs1 → W p l e R s m args below meth c H1 locs1 cells slots Q (F0 m (pc + 3) ls (.long r :: rest))) : W p l e R s m args below meth c H locs cells slots Q (F0 m pc ls (a1 :: .ref (kad κ co) :: rest)) :=
  va_calll (g_runV (rest := rest) (As := [a1]) hC hO hl hM mi ml (g_recv hC hO hcl hco he) rfl hrc hrs hR hw hf hdg) hO.2.2.2.1 (fun _ _ h => h) (fun _ h => h) (fun r σ' t H1 locs1 ht _ hp hB _ _ hS => by
    obtain ⟨F', th', hO'⟩ := hO.back ht hB hS
    exact kk r σ' F' th' H1 locs1 hp hO')
theorem g_cVq1 {y : MethodName} {cc2 : ByteArray} {mx index : Nat} {rt2 : Option FieldType} {rm : Room} {a1 : Value} {co ci N : Nat} {Cn : String} {T : u_T} {fs : List Value} {post : Option Nat → ST → Prop} (hC : CX p s m args meth c cc nL own rt κ) (hO : OS κ H0 σ F th H locs) (hl : LL ls nL vs) (hcl : vwCl[ci]? = some (Cn, T, N)) (hco : co < nn σ) (he : sh κ σ F th co = .inr (ci, fs)) (hM : Met l y (wA y cc2 mx rt2) rm (va_Pc (.ref (kad κ co) :: [a1]) (WX κ σ)) (va_Qq post (WX κ) (FA κ)) 0 0 (FA κ)) (mi : MI y Cn cc2 mx rt2 1) (ml : Cond.methodLink own index y ∈ lw_g) (hrc : rm.cells = 0) (hrs : rm.slots = 0) (hR : rm.frames + 1 ≤ R.frames ∧ 8 + (mx + 11) + rm.locals ≤ R.locals) (hw : (rest.map fun v => v.category).sum ≤ 8) (hf : cells ≤ R.cells ∧ slots ≤ R.slots) (hdg : decode cc pc = .ok (.invokevirtual index, 3))
    (kk : ∀ (r : Option Nat) (σ' : ST) (F' : Nat → Nat → Int32) (th' : Int32) (H1 : Heap) (locs1 : List Loc), post r σ' → OS κ H0 σ' F' th' H1 locs1 → W p l e R s m args below meth c H1 locs1 cells slots Q (F0 m (pc + 3) ls (va_rf r :: rest))) : W p l e R s m args below meth c H locs cells slots Q (F0 m pc ls (a1 :: .ref (kad κ co) :: rest)) :=
  va_callq (g_runV (rest := rest) (As := [a1]) hC hO hl hM mi ml (g_recv hC hO hcl hco he) rfl hrc hrs hR hw hf hdg) hO.2.2.2.1 (fun _ _ h => h) (fun _ h => h) (fun r σ' t H1 locs1 ht _ hp hB _ _ hS => by
    obtain ⟨F', th', hO'⟩ := hO.back ht hB hS
    exact kk r σ' F' th' H1 locs1 hp hO')
theorem g_cVv1 {y : MethodName} {cc2 : ByteArray} {mx index : Nat} {rt2 : Option FieldType} {rm : Room} {a1 : Value} {co ci N : Nat} {Cn : String} {T : u_T} {fs : List Value} {post : ST → Prop} (hC : CX p s m args meth c cc nL own rt κ) (hO : OS κ H0 σ F th H locs) (hl : LL ls nL vs) (hcl : vwCl[ci]? = some (Cn, T, N)) (hco : co < nn σ) (he : sh κ σ F th co = .inr (ci, fs)) (hM : Met l y (wA y cc2 mx rt2) rm (va_Pc (.ref (kad κ co) :: [a1]) (WX κ σ)) (va_Qv post (WX κ) (FA κ)) 0 0 (FA κ)) (mi : MI y Cn cc2 mx rt2 1) (ml : Cond.methodLink own index y ∈ lw_g) (hrc : rm.cells = 0) (hrs : rm.slots = 0) (hR : rm.frames + 1 ≤ R.frames ∧ 8 + (mx + 11) + rm.locals ≤ R.locals) (hw : (rest.map fun v => v.category).sum ≤ 8) (hf : cells ≤ R.cells ∧ slots ≤ R.slots) (hdg : decode cc pc = .ok (.invokevirtual index, 3))
    (kk : ∀ (σ' : ST) (F' : Nat → Nat → Int32) (th' : Int32) (H1 : Heap) (locs1 : List Loc), post σ' → OS κ H0 σ' F' th' H1 locs1 → W p l e R s m args below meth c H1 locs1 cells slots Q (F0 m (pc + 3) ls rest)) : W p l e R s m args below meth c H locs cells slots Q (F0 m pc ls (a1 :: .ref (kad κ co) :: rest)) :=
  va_callv (g_runV (rest := rest) (As := [a1]) hC hO hl hM mi ml (g_recv hC hO hcl hco he) rfl hrc hrs hR hw hf hdg) hO.2.2.2.1 (fun _ _ h => h) (fun _ h => h) (fun σ' t H1 locs1 ht _ hp hB _ _ hS => by
    obtain ⟨F', th', hO'⟩ := hO.back ht hB hS
    exact kk σ' F' th' H1 locs1 hp hO')
theorem g_cVi2 {y : MethodName} {cc2 : ByteArray} {mx index : Nat} {rt2 : Option FieldType} {rm : Room} {a1 a2 : Value} {co ci N : Nat} {Cn : String} {T : u_T} {fs : List Value} {post : Int32 → ST → Prop} (hC : CX p s m args meth c cc nL own rt κ) (hO : OS κ H0 σ F th H locs) (hl : LL ls nL vs) (hcl : vwCl[ci]? = some (Cn, T, N)) (hco : co < nn σ) (he : sh κ σ F th co = .inr (ci, fs)) (hM : Met l y (wA y cc2 mx rt2) rm (va_Pc (.ref (kad κ co) :: [a1, a2]) (WX κ σ)) (va_Qi post (WX κ) (FA κ)) 0 0 (FA κ)) (mi : MI y Cn cc2 mx rt2 2) (ml : Cond.methodLink own index y ∈ lw_g) (hrc : rm.cells = 0) (hrs : rm.slots = 0) (hR : rm.frames + 1 ≤ R.frames ∧ 8 + (mx + 11) + rm.locals ≤ R.locals) (hw : (rest.map fun v => v.category).sum ≤ 8) (hf : cells ≤ R.cells ∧ slots ≤ R.slots) (hdg : decode cc pc = .ok (.invokevirtual index, 3))
    (kk : ∀ (r : Int32) (σ' : ST) (F' : Nat → Nat → Int32) (th' : Int32) (H1 : Heap) (locs1 : List Loc), post r σ' → OS κ H0 σ' F' th' H1 locs1 → W p l e R s m args below meth c H1 locs1 cells slots Q (F0 m (pc + 3) ls (.int r :: rest))) : W p l e R s m args below meth c H locs cells slots Q (F0 m pc ls (a2 :: a1 :: .ref (kad κ co) :: rest)) :=
  va_calli (g_runV (rest := rest) (As := [a1, a2]) hC hO hl hM mi ml (g_recv hC hO hcl hco he) rfl hrc hrs hR hw hf hdg) hO.2.2.2.1 (fun _ _ h => h) (fun _ h => h) (fun r σ' t H1 locs1 ht _ hp hB _ _ hS => by
    obtain ⟨F', th', hO'⟩ := hO.back ht hB hS
    exact kk r σ' F' th' H1 locs1 hp hO')
theorem g_cVl2 {y : MethodName} {cc2 : ByteArray} {mx index : Nat} {rt2 : Option FieldType} {rm : Room} {a1 a2 : Value} {co ci N : Nat} {Cn : String} {T : u_T} {fs : List Value} {post : Int64 → ST → Prop} (hC : CX p s m args meth c cc nL own rt κ) (hO : OS κ H0 σ F th H locs) (hl : LL ls nL vs) (hcl : vwCl[ci]? = some (Cn, T, N)) (hco : co < nn σ) (he : sh κ σ F th co = .inr (ci, fs)) (hM : Met l y (wA y cc2 mx rt2) rm (va_Pc (.ref (kad κ co) :: [a1, a2]) (WX κ σ)) (va_Ql post (WX κ) (FA κ)) 0 0 (FA κ)) (mi : MI y Cn cc2 mx rt2 2) (ml : Cond.methodLink own index y ∈ lw_g) (hrc : rm.cells = 0) (hrs : rm.slots = 0) (hR : rm.frames + 1 ≤ R.frames ∧ 8 + (mx + 11) + rm.locals ≤ R.locals) (hw : (rest.map fun v => v.category).sum ≤ 8) (hf : cells ≤ R.cells ∧ slots ≤ R.slots) (hdg : decode cc pc = .ok (.invokevirtual index, 3))
    (kk : ∀ (r : Int64) (σ' : ST) (F' : Nat → Nat → Int32) (th' : Int32) (H1 : Heap) (locs1 : List Loc), post r σ' → OS κ H0 σ' F' th' H1 locs1 → W p l e R s m args below meth c H1 locs1 cells slots Q (F0 m (pc + 3) ls (.long r :: rest))) : W p l e R s m args below meth c H locs cells slots Q (F0 m pc ls (a2 :: a1 :: .ref (kad κ co) :: rest)) :=
  va_calll (g_runV (rest := rest) (As := [a1, a2]) hC hO hl hM mi ml (g_recv hC hO hcl hco he) rfl hrc hrs hR hw hf hdg) hO.2.2.2.1 (fun _ _ h => h) (fun _ h => h) (fun r σ' t H1 locs1 ht _ hp hB _ _ hS => by
    obtain ⟨F', th', hO'⟩ := hO.back ht hB hS
    exact kk r σ' F' th' H1 locs1 hp hO')
theorem g_cVq2 {y : MethodName} {cc2 : ByteArray} {mx index : Nat} {rt2 : Option FieldType} {rm : Room} {a1 a2 : Value} {co ci N : Nat} {Cn : String} {T : u_T} {fs : List Value} {post : Option Nat → ST → Prop} (hC : CX p s m args meth c cc nL own rt κ) (hO : OS κ H0 σ F th H locs) (hl : LL ls nL vs) (hcl : vwCl[ci]? = some (Cn, T, N)) (hco : co < nn σ) (he : sh κ σ F th co = .inr (ci, fs)) (hM : Met l y (wA y cc2 mx rt2) rm (va_Pc (.ref (kad κ co) :: [a1, a2]) (WX κ σ)) (va_Qq post (WX κ) (FA κ)) 0 0 (FA κ)) (mi : MI y Cn cc2 mx rt2 2) (ml : Cond.methodLink own index y ∈ lw_g) (hrc : rm.cells = 0) (hrs : rm.slots = 0) (hR : rm.frames + 1 ≤ R.frames ∧ 8 + (mx + 11) + rm.locals ≤ R.locals) (hw : (rest.map fun v => v.category).sum ≤ 8) (hf : cells ≤ R.cells ∧ slots ≤ R.slots) (hdg : decode cc pc = .ok (.invokevirtual index, 3))
    (kk : ∀ (r : Option Nat) (σ' : ST) (F' : Nat → Nat → Int32) (th' : Int32) (H1 : Heap) (locs1 : List Loc), post r σ' → OS κ H0 σ' F' th' H1 locs1 → W p l e R s m args below meth c H1 locs1 cells slots Q (F0 m (pc + 3) ls (va_rf r :: rest))) : W p l e R s m args below meth c H locs cells slots Q (F0 m pc ls (a2 :: a1 :: .ref (kad κ co) :: rest)) :=
  va_callq (g_runV (rest := rest) (As := [a1, a2]) hC hO hl hM mi ml (g_recv hC hO hcl hco he) rfl hrc hrs hR hw hf hdg) hO.2.2.2.1 (fun _ _ h => h) (fun _ h => h) (fun r σ' t H1 locs1 ht _ hp hB _ _ hS => by
    obtain ⟨F', th', hO'⟩ := hO.back ht hB hS
    exact kk r σ' F' th' H1 locs1 hp hO')
theorem g_cVv2 {y : MethodName} {cc2 : ByteArray} {mx index : Nat} {rt2 : Option FieldType} {rm : Room} {a1 a2 : Value} {co ci N : Nat} {Cn : String} {T : u_T} {fs : List Value} {post : ST → Prop} (hC : CX p s m args meth c cc nL own rt κ) (hO : OS κ H0 σ F th H locs) (hl : LL ls nL vs) (hcl : vwCl[ci]? = some (Cn, T, N)) (hco : co < nn σ) (he : sh κ σ F th co = .inr (ci, fs)) (hM : Met l y (wA y cc2 mx rt2) rm (va_Pc (.ref (kad κ co) :: [a1, a2]) (WX κ σ)) (va_Qv post (WX κ) (FA κ)) 0 0 (FA κ)) (mi : MI y Cn cc2 mx rt2 2) (ml : Cond.methodLink own index y ∈ lw_g) (hrc : rm.cells = 0) (hrs : rm.slots = 0) (hR : rm.frames + 1 ≤ R.frames ∧ 8 + (mx + 11) + rm.locals ≤ R.locals) (hw : (rest.map fun v => v.category).sum ≤ 8) (hf : cells ≤ R.cells ∧ slots ≤ R.slots) (hdg : decode cc pc = .ok (.invokevirtual index, 3))
    (kk : ∀ (σ' : ST) (F' : Nat → Nat → Int32) (th' : Int32) (H1 : Heap) (locs1 : List Loc), post σ' → OS κ H0 σ' F' th' H1 locs1 → W p l e R s m args below meth c H1 locs1 cells slots Q (F0 m (pc + 3) ls rest)) : W p l e R s m args below meth c H locs cells slots Q (F0 m pc ls (a2 :: a1 :: .ref (kad κ co) :: rest)) :=
  va_callv (g_runV (rest := rest) (As := [a1, a2]) hC hO hl hM mi ml (g_recv hC hO hcl hco he) rfl hrc hrs hR hw hf hdg) hO.2.2.2.1 (fun _ _ h => h) (fun _ h => h) (fun σ' t H1 locs1 ht _ hp hB _ _ hS => by
    obtain ⟨F', th', hO'⟩ := hO.back ht hB hS
    exact kk σ' F' th' H1 locs1 hp hO')
theorem g_cVi3 {y : MethodName} {cc2 : ByteArray} {mx index : Nat} {rt2 : Option FieldType} {rm : Room} {a1 a2 a3 : Value} {co ci N : Nat} {Cn : String} {T : u_T} {fs : List Value} {post : Int32 → ST → Prop} (hC : CX p s m args meth c cc nL own rt κ) (hO : OS κ H0 σ F th H locs) (hl : LL ls nL vs) (hcl : vwCl[ci]? = some (Cn, T, N)) (hco : co < nn σ) (he : sh κ σ F th co = .inr (ci, fs)) (hM : Met l y (wA y cc2 mx rt2) rm (va_Pc (.ref (kad κ co) :: [a1, a2, a3]) (WX κ σ)) (va_Qi post (WX κ) (FA κ)) 0 0 (FA κ)) (mi : MI y Cn cc2 mx rt2 3) (ml : Cond.methodLink own index y ∈ lw_g) (hrc : rm.cells = 0) (hrs : rm.slots = 0) (hR : rm.frames + 1 ≤ R.frames ∧ 8 + (mx + 11) + rm.locals ≤ R.locals) (hw : (rest.map fun v => v.category).sum ≤ 8) (hf : cells ≤ R.cells ∧ slots ≤ R.slots) (hdg : decode cc pc = .ok (.invokevirtual index, 3))
    (kk : ∀ (r : Int32) (σ' : ST) (F' : Nat → Nat → Int32) (th' : Int32) (H1 : Heap) (locs1 : List Loc), post r σ' → OS κ H0 σ' F' th' H1 locs1 → W p l e R s m args below meth c H1 locs1 cells slots Q (F0 m (pc + 3) ls (.int r :: rest))) : W p l e R s m args below meth c H locs cells slots Q (F0 m pc ls (a3 :: a2 :: a1 :: .ref (kad κ co) :: rest)) :=
  va_calli (g_runV (rest := rest) (As := [a1, a2, a3]) hC hO hl hM mi ml (g_recv hC hO hcl hco he) rfl hrc hrs hR hw hf hdg) hO.2.2.2.1 (fun _ _ h => h) (fun _ h => h) (fun r σ' t H1 locs1 ht _ hp hB _ _ hS => by
    obtain ⟨F', th', hO'⟩ := hO.back ht hB hS
    exact kk r σ' F' th' H1 locs1 hp hO')
theorem g_cVl3 {y : MethodName} {cc2 : ByteArray} {mx index : Nat} {rt2 : Option FieldType} {rm : Room} {a1 a2 a3 : Value} {co ci N : Nat} {Cn : String} {T : u_T} {fs : List Value} {post : Int64 → ST → Prop} (hC : CX p s m args meth c cc nL own rt κ) (hO : OS κ H0 σ F th H locs) (hl : LL ls nL vs) (hcl : vwCl[ci]? = some (Cn, T, N)) (hco : co < nn σ) (he : sh κ σ F th co = .inr (ci, fs)) (hM : Met l y (wA y cc2 mx rt2) rm (va_Pc (.ref (kad κ co) :: [a1, a2, a3]) (WX κ σ)) (va_Ql post (WX κ) (FA κ)) 0 0 (FA κ)) (mi : MI y Cn cc2 mx rt2 3) (ml : Cond.methodLink own index y ∈ lw_g) (hrc : rm.cells = 0) (hrs : rm.slots = 0) (hR : rm.frames + 1 ≤ R.frames ∧ 8 + (mx + 11) + rm.locals ≤ R.locals) (hw : (rest.map fun v => v.category).sum ≤ 8) (hf : cells ≤ R.cells ∧ slots ≤ R.slots) (hdg : decode cc pc = .ok (.invokevirtual index, 3))
    (kk : ∀ (r : Int64) (σ' : ST) (F' : Nat → Nat → Int32) (th' : Int32) (H1 : Heap) (locs1 : List Loc), post r σ' → OS κ H0 σ' F' th' H1 locs1 → W p l e R s m args below meth c H1 locs1 cells slots Q (F0 m (pc + 3) ls (.long r :: rest))) : W p l e R s m args below meth c H locs cells slots Q (F0 m pc ls (a3 :: a2 :: a1 :: .ref (kad κ co) :: rest)) :=
  va_calll (g_runV (rest := rest) (As := [a1, a2, a3]) hC hO hl hM mi ml (g_recv hC hO hcl hco he) rfl hrc hrs hR hw hf hdg) hO.2.2.2.1 (fun _ _ h => h) (fun _ h => h) (fun r σ' t H1 locs1 ht _ hp hB _ _ hS => by
    obtain ⟨F', th', hO'⟩ := hO.back ht hB hS
    exact kk r σ' F' th' H1 locs1 hp hO')
theorem g_cVq3 {y : MethodName} {cc2 : ByteArray} {mx index : Nat} {rt2 : Option FieldType} {rm : Room} {a1 a2 a3 : Value} {co ci N : Nat} {Cn : String} {T : u_T} {fs : List Value} {post : Option Nat → ST → Prop} (hC : CX p s m args meth c cc nL own rt κ) (hO : OS κ H0 σ F th H locs) (hl : LL ls nL vs) (hcl : vwCl[ci]? = some (Cn, T, N)) (hco : co < nn σ) (he : sh κ σ F th co = .inr (ci, fs)) (hM : Met l y (wA y cc2 mx rt2) rm (va_Pc (.ref (kad κ co) :: [a1, a2, a3]) (WX κ σ)) (va_Qq post (WX κ) (FA κ)) 0 0 (FA κ)) (mi : MI y Cn cc2 mx rt2 3) (ml : Cond.methodLink own index y ∈ lw_g) (hrc : rm.cells = 0) (hrs : rm.slots = 0) (hR : rm.frames + 1 ≤ R.frames ∧ 8 + (mx + 11) + rm.locals ≤ R.locals) (hw : (rest.map fun v => v.category).sum ≤ 8) (hf : cells ≤ R.cells ∧ slots ≤ R.slots) (hdg : decode cc pc = .ok (.invokevirtual index, 3))
    (kk : ∀ (r : Option Nat) (σ' : ST) (F' : Nat → Nat → Int32) (th' : Int32) (H1 : Heap) (locs1 : List Loc), post r σ' → OS κ H0 σ' F' th' H1 locs1 → W p l e R s m args below meth c H1 locs1 cells slots Q (F0 m (pc + 3) ls (va_rf r :: rest))) : W p l e R s m args below meth c H locs cells slots Q (F0 m pc ls (a3 :: a2 :: a1 :: .ref (kad κ co) :: rest)) :=
  va_callq (g_runV (rest := rest) (As := [a1, a2, a3]) hC hO hl hM mi ml (g_recv hC hO hcl hco he) rfl hrc hrs hR hw hf hdg) hO.2.2.2.1 (fun _ _ h => h) (fun _ h => h) (fun r σ' t H1 locs1 ht _ hp hB _ _ hS => by
    obtain ⟨F', th', hO'⟩ := hO.back ht hB hS
    exact kk r σ' F' th' H1 locs1 hp hO')
theorem g_cVv3 {y : MethodName} {cc2 : ByteArray} {mx index : Nat} {rt2 : Option FieldType} {rm : Room} {a1 a2 a3 : Value} {co ci N : Nat} {Cn : String} {T : u_T} {fs : List Value} {post : ST → Prop} (hC : CX p s m args meth c cc nL own rt κ) (hO : OS κ H0 σ F th H locs) (hl : LL ls nL vs) (hcl : vwCl[ci]? = some (Cn, T, N)) (hco : co < nn σ) (he : sh κ σ F th co = .inr (ci, fs)) (hM : Met l y (wA y cc2 mx rt2) rm (va_Pc (.ref (kad κ co) :: [a1, a2, a3]) (WX κ σ)) (va_Qv post (WX κ) (FA κ)) 0 0 (FA κ)) (mi : MI y Cn cc2 mx rt2 3) (ml : Cond.methodLink own index y ∈ lw_g) (hrc : rm.cells = 0) (hrs : rm.slots = 0) (hR : rm.frames + 1 ≤ R.frames ∧ 8 + (mx + 11) + rm.locals ≤ R.locals) (hw : (rest.map fun v => v.category).sum ≤ 8) (hf : cells ≤ R.cells ∧ slots ≤ R.slots) (hdg : decode cc pc = .ok (.invokevirtual index, 3))
    (kk : ∀ (σ' : ST) (F' : Nat → Nat → Int32) (th' : Int32) (H1 : Heap) (locs1 : List Loc), post σ' → OS κ H0 σ' F' th' H1 locs1 → W p l e R s m args below meth c H1 locs1 cells slots Q (F0 m (pc + 3) ls rest)) : W p l e R s m args below meth c H locs cells slots Q (F0 m pc ls (a3 :: a2 :: a1 :: .ref (kad κ co) :: rest)) :=
  va_callv (g_runV (rest := rest) (As := [a1, a2, a3]) hC hO hl hM mi ml (g_recv hC hO hcl hco he) rfl hrc hrs hR hw hf hdg) hO.2.2.2.1 (fun _ _ h => h) (fun _ h => h) (fun σ' t H1 locs1 ht _ hp hB _ _ hS => by
    obtain ⟨F', th', hO'⟩ := hO.back ht hB hS
    exact kk σ' F' th' H1 locs1 hp hO')
theorem g_cVi4 {y : MethodName} {cc2 : ByteArray} {mx index : Nat} {rt2 : Option FieldType} {rm : Room} {a1 a2 a3 a4 : Value} {co ci N : Nat} {Cn : String} {T : u_T} {fs : List Value} {post : Int32 → ST → Prop} (hC : CX p s m args meth c cc nL own rt κ) (hO : OS κ H0 σ F th H locs) (hl : LL ls nL vs) (hcl : vwCl[ci]? = some (Cn, T, N)) (hco : co < nn σ) (he : sh κ σ F th co = .inr (ci, fs)) (hM : Met l y (wA y cc2 mx rt2) rm (va_Pc (.ref (kad κ co) :: [a1, a2, a3, a4]) (WX κ σ)) (va_Qi post (WX κ) (FA κ)) 0 0 (FA κ)) (mi : MI y Cn cc2 mx rt2 4) (ml : Cond.methodLink own index y ∈ lw_g) (hrc : rm.cells = 0) (hrs : rm.slots = 0) (hR : rm.frames + 1 ≤ R.frames ∧ 8 + (mx + 11) + rm.locals ≤ R.locals) (hw : (rest.map fun v => v.category).sum ≤ 8) (hf : cells ≤ R.cells ∧ slots ≤ R.slots) (hdg : decode cc pc = .ok (.invokevirtual index, 3))
    (kk : ∀ (r : Int32) (σ' : ST) (F' : Nat → Nat → Int32) (th' : Int32) (H1 : Heap) (locs1 : List Loc), post r σ' → OS κ H0 σ' F' th' H1 locs1 → W p l e R s m args below meth c H1 locs1 cells slots Q (F0 m (pc + 3) ls (.int r :: rest))) : W p l e R s m args below meth c H locs cells slots Q (F0 m pc ls (a4 :: a3 :: a2 :: a1 :: .ref (kad κ co) :: rest)) :=
  va_calli (g_runV (rest := rest) (As := [a1, a2, a3, a4]) hC hO hl hM mi ml (g_recv hC hO hcl hco he) rfl hrc hrs hR hw hf hdg) hO.2.2.2.1 (fun _ _ h => h) (fun _ h => h) (fun r σ' t H1 locs1 ht _ hp hB _ _ hS => by
    obtain ⟨F', th', hO'⟩ := hO.back ht hB hS
    exact kk r σ' F' th' H1 locs1 hp hO')
theorem g_cVl4 {y : MethodName} {cc2 : ByteArray} {mx index : Nat} {rt2 : Option FieldType} {rm : Room} {a1 a2 a3 a4 : Value} {co ci N : Nat} {Cn : String} {T : u_T} {fs : List Value} {post : Int64 → ST → Prop} (hC : CX p s m args meth c cc nL own rt κ) (hO : OS κ H0 σ F th H locs) (hl : LL ls nL vs) (hcl : vwCl[ci]? = some (Cn, T, N)) (hco : co < nn σ) (he : sh κ σ F th co = .inr (ci, fs)) (hM : Met l y (wA y cc2 mx rt2) rm (va_Pc (.ref (kad κ co) :: [a1, a2, a3, a4]) (WX κ σ)) (va_Ql post (WX κ) (FA κ)) 0 0 (FA κ)) (mi : MI y Cn cc2 mx rt2 4) (ml : Cond.methodLink own index y ∈ lw_g) (hrc : rm.cells = 0) (hrs : rm.slots = 0) (hR : rm.frames + 1 ≤ R.frames ∧ 8 + (mx + 11) + rm.locals ≤ R.locals) (hw : (rest.map fun v => v.category).sum ≤ 8) (hf : cells ≤ R.cells ∧ slots ≤ R.slots) (hdg : decode cc pc = .ok (.invokevirtual index, 3))
    (kk : ∀ (r : Int64) (σ' : ST) (F' : Nat → Nat → Int32) (th' : Int32) (H1 : Heap) (locs1 : List Loc), post r σ' → OS κ H0 σ' F' th' H1 locs1 → W p l e R s m args below meth c H1 locs1 cells slots Q (F0 m (pc + 3) ls (.long r :: rest))) : W p l e R s m args below meth c H locs cells slots Q (F0 m pc ls (a4 :: a3 :: a2 :: a1 :: .ref (kad κ co) :: rest)) :=
  va_calll (g_runV (rest := rest) (As := [a1, a2, a3, a4]) hC hO hl hM mi ml (g_recv hC hO hcl hco he) rfl hrc hrs hR hw hf hdg) hO.2.2.2.1 (fun _ _ h => h) (fun _ h => h) (fun r σ' t H1 locs1 ht _ hp hB _ _ hS => by
    obtain ⟨F', th', hO'⟩ := hO.back ht hB hS
    exact kk r σ' F' th' H1 locs1 hp hO')
theorem g_cVq4 {y : MethodName} {cc2 : ByteArray} {mx index : Nat} {rt2 : Option FieldType} {rm : Room} {a1 a2 a3 a4 : Value} {co ci N : Nat} {Cn : String} {T : u_T} {fs : List Value} {post : Option Nat → ST → Prop} (hC : CX p s m args meth c cc nL own rt κ) (hO : OS κ H0 σ F th H locs) (hl : LL ls nL vs) (hcl : vwCl[ci]? = some (Cn, T, N)) (hco : co < nn σ) (he : sh κ σ F th co = .inr (ci, fs)) (hM : Met l y (wA y cc2 mx rt2) rm (va_Pc (.ref (kad κ co) :: [a1, a2, a3, a4]) (WX κ σ)) (va_Qq post (WX κ) (FA κ)) 0 0 (FA κ)) (mi : MI y Cn cc2 mx rt2 4) (ml : Cond.methodLink own index y ∈ lw_g) (hrc : rm.cells = 0) (hrs : rm.slots = 0) (hR : rm.frames + 1 ≤ R.frames ∧ 8 + (mx + 11) + rm.locals ≤ R.locals) (hw : (rest.map fun v => v.category).sum ≤ 8) (hf : cells ≤ R.cells ∧ slots ≤ R.slots) (hdg : decode cc pc = .ok (.invokevirtual index, 3))
    (kk : ∀ (r : Option Nat) (σ' : ST) (F' : Nat → Nat → Int32) (th' : Int32) (H1 : Heap) (locs1 : List Loc), post r σ' → OS κ H0 σ' F' th' H1 locs1 → W p l e R s m args below meth c H1 locs1 cells slots Q (F0 m (pc + 3) ls (va_rf r :: rest))) : W p l e R s m args below meth c H locs cells slots Q (F0 m pc ls (a4 :: a3 :: a2 :: a1 :: .ref (kad κ co) :: rest)) :=
  va_callq (g_runV (rest := rest) (As := [a1, a2, a3, a4]) hC hO hl hM mi ml (g_recv hC hO hcl hco he) rfl hrc hrs hR hw hf hdg) hO.2.2.2.1 (fun _ _ h => h) (fun _ h => h) (fun r σ' t H1 locs1 ht _ hp hB _ _ hS => by
    obtain ⟨F', th', hO'⟩ := hO.back ht hB hS
    exact kk r σ' F' th' H1 locs1 hp hO')
theorem g_cVv4 {y : MethodName} {cc2 : ByteArray} {mx index : Nat} {rt2 : Option FieldType} {rm : Room} {a1 a2 a3 a4 : Value} {co ci N : Nat} {Cn : String} {T : u_T} {fs : List Value} {post : ST → Prop} (hC : CX p s m args meth c cc nL own rt κ) (hO : OS κ H0 σ F th H locs) (hl : LL ls nL vs) (hcl : vwCl[ci]? = some (Cn, T, N)) (hco : co < nn σ) (he : sh κ σ F th co = .inr (ci, fs)) (hM : Met l y (wA y cc2 mx rt2) rm (va_Pc (.ref (kad κ co) :: [a1, a2, a3, a4]) (WX κ σ)) (va_Qv post (WX κ) (FA κ)) 0 0 (FA κ)) (mi : MI y Cn cc2 mx rt2 4) (ml : Cond.methodLink own index y ∈ lw_g) (hrc : rm.cells = 0) (hrs : rm.slots = 0) (hR : rm.frames + 1 ≤ R.frames ∧ 8 + (mx + 11) + rm.locals ≤ R.locals) (hw : (rest.map fun v => v.category).sum ≤ 8) (hf : cells ≤ R.cells ∧ slots ≤ R.slots) (hdg : decode cc pc = .ok (.invokevirtual index, 3))
    (kk : ∀ (σ' : ST) (F' : Nat → Nat → Int32) (th' : Int32) (H1 : Heap) (locs1 : List Loc), post σ' → OS κ H0 σ' F' th' H1 locs1 → W p l e R s m args below meth c H1 locs1 cells slots Q (F0 m (pc + 3) ls rest)) : W p l e R s m args below meth c H locs cells slots Q (F0 m pc ls (a4 :: a3 :: a2 :: a1 :: .ref (kad κ co) :: rest)) :=
  va_callv (g_runV (rest := rest) (As := [a1, a2, a3, a4]) hC hO hl hM mi ml (g_recv hC hO hcl hco he) rfl hrc hrs hR hw hf hdg) hO.2.2.2.1 (fun _ _ h => h) (fun _ h => h) (fun σ' t H1 locs1 ht _ hp hB _ _ hS => by
    obtain ⟨F', th', hO'⟩ := hO.back ht hB hS
    exact kk σ' F' th' H1 locs1 hp hO')
theorem g_cSi1 {y : MethodName} {cc2 : ByteArray} {mx index : Nat} {rt2 : Option FieldType} {rm : Room} {a1 : Value} {post : Int32 → ST → Prop} (hC : CX p s m args meth c cc nL own rt κ) (hO : OS κ H0 σ F th H locs) (hl : LL ls nL vs) (hM : Met l y (wA y cc2 mx rt2) rm (va_Pc [a1] (WX κ σ)) (va_Qi post (WX κ) (FA κ)) 0 0 (FA κ)) (mi : MS y own cc2 mx rt2 1) (ml : Cond.methodLink own index y ∈ lw_g) (hrc : rm.cells = 0) (hrs : rm.slots = 0) (hR : rm.frames + 1 ≤ R.frames ∧ 8 + (mx + 11) + rm.locals ≤ R.locals) (hw : (rest.map fun v => v.category).sum ≤ 8) (hf : cells ≤ R.cells ∧ slots ≤ R.slots) (hdg : decode cc pc = .ok (.invokestatic index, 3))
    (kk : ∀ (r : Int32) (σ' : ST) (F' : Nat → Nat → Int32) (th' : Int32) (H1 : Heap) (locs1 : List Loc), post r σ' → OS κ H0 σ' F' th' H1 locs1 → W p l e R s m args below meth c H1 locs1 cells slots Q (F0 m (pc + 3) ls (.int r :: rest))) : W p l e R s m args below meth c H locs cells slots Q (F0 m pc ls (a1 :: rest)) :=
  va_calli (g_runS (rest := rest) (As := [a1]) hC hO hl hM mi ml rfl hrc hrs hR hw hf hdg) hO.2.2.2.1 (fun _ _ h => h) (fun _ h => h) (fun r σ' t H1 locs1 ht _ hp hB _ _ hS => by
    obtain ⟨F', th', hO'⟩ := hO.back ht hB hS
    exact kk r σ' F' th' H1 locs1 hp hO')
theorem g_cSl1 {y : MethodName} {cc2 : ByteArray} {mx index : Nat} {rt2 : Option FieldType} {rm : Room} {a1 : Value} {post : Int64 → ST → Prop} (hC : CX p s m args meth c cc nL own rt κ) (hO : OS κ H0 σ F th H locs) (hl : LL ls nL vs) (hM : Met l y (wA y cc2 mx rt2) rm (va_Pc [a1] (WX κ σ)) (va_Ql post (WX κ) (FA κ)) 0 0 (FA κ)) (mi : MS y own cc2 mx rt2 1) (ml : Cond.methodLink own index y ∈ lw_g) (hrc : rm.cells = 0) (hrs : rm.slots = 0) (hR : rm.frames + 1 ≤ R.frames ∧ 8 + (mx + 11) + rm.locals ≤ R.locals) (hw : (rest.map fun v => v.category).sum ≤ 8) (hf : cells ≤ R.cells ∧ slots ≤ R.slots) (hdg : decode cc pc = .ok (.invokestatic index, 3))
    (kk : ∀ (r : Int64) (σ' : ST) (F' : Nat → Nat → Int32) (th' : Int32) (H1 : Heap) (locs1 : List Loc), post r σ' → OS κ H0 σ' F' th' H1 locs1 → W p l e R s m args below meth c H1 locs1 cells slots Q (F0 m (pc + 3) ls (.long r :: rest))) : W p l e R s m args below meth c H locs cells slots Q (F0 m pc ls (a1 :: rest)) :=
  va_calll (g_runS (rest := rest) (As := [a1]) hC hO hl hM mi ml rfl hrc hrs hR hw hf hdg) hO.2.2.2.1 (fun _ _ h => h) (fun _ h => h) (fun r σ' t H1 locs1 ht _ hp hB _ _ hS => by
    obtain ⟨F', th', hO'⟩ := hO.back ht hB hS
    exact kk r σ' F' th' H1 locs1 hp hO')
theorem g_cSq1 {y : MethodName} {cc2 : ByteArray} {mx index : Nat} {rt2 : Option FieldType} {rm : Room} {a1 : Value} {post : Option Nat → ST → Prop} (hC : CX p s m args meth c cc nL own rt κ) (hO : OS κ H0 σ F th H locs) (hl : LL ls nL vs) (hM : Met l y (wA y cc2 mx rt2) rm (va_Pc [a1] (WX κ σ)) (va_Qq post (WX κ) (FA κ)) 0 0 (FA κ)) (mi : MS y own cc2 mx rt2 1) (ml : Cond.methodLink own index y ∈ lw_g) (hrc : rm.cells = 0) (hrs : rm.slots = 0) (hR : rm.frames + 1 ≤ R.frames ∧ 8 + (mx + 11) + rm.locals ≤ R.locals) (hw : (rest.map fun v => v.category).sum ≤ 8) (hf : cells ≤ R.cells ∧ slots ≤ R.slots) (hdg : decode cc pc = .ok (.invokestatic index, 3))
    (kk : ∀ (r : Option Nat) (σ' : ST) (F' : Nat → Nat → Int32) (th' : Int32) (H1 : Heap) (locs1 : List Loc), post r σ' → OS κ H0 σ' F' th' H1 locs1 → W p l e R s m args below meth c H1 locs1 cells slots Q (F0 m (pc + 3) ls (va_rf r :: rest))) : W p l e R s m args below meth c H locs cells slots Q (F0 m pc ls (a1 :: rest)) :=
  va_callq (g_runS (rest := rest) (As := [a1]) hC hO hl hM mi ml rfl hrc hrs hR hw hf hdg) hO.2.2.2.1 (fun _ _ h => h) (fun _ h => h) (fun r σ' t H1 locs1 ht _ hp hB _ _ hS => by
    obtain ⟨F', th', hO'⟩ := hO.back ht hB hS
    exact kk r σ' F' th' H1 locs1 hp hO')
theorem g_cSv1 {y : MethodName} {cc2 : ByteArray} {mx index : Nat} {rt2 : Option FieldType} {rm : Room} {a1 : Value} {post : ST → Prop} (hC : CX p s m args meth c cc nL own rt κ) (hO : OS κ H0 σ F th H locs) (hl : LL ls nL vs) (hM : Met l y (wA y cc2 mx rt2) rm (va_Pc [a1] (WX κ σ)) (va_Qv post (WX κ) (FA κ)) 0 0 (FA κ)) (mi : MS y own cc2 mx rt2 1) (ml : Cond.methodLink own index y ∈ lw_g) (hrc : rm.cells = 0) (hrs : rm.slots = 0) (hR : rm.frames + 1 ≤ R.frames ∧ 8 + (mx + 11) + rm.locals ≤ R.locals) (hw : (rest.map fun v => v.category).sum ≤ 8) (hf : cells ≤ R.cells ∧ slots ≤ R.slots) (hdg : decode cc pc = .ok (.invokestatic index, 3))
    (kk : ∀ (σ' : ST) (F' : Nat → Nat → Int32) (th' : Int32) (H1 : Heap) (locs1 : List Loc), post σ' → OS κ H0 σ' F' th' H1 locs1 → W p l e R s m args below meth c H1 locs1 cells slots Q (F0 m (pc + 3) ls rest)) : W p l e R s m args below meth c H locs cells slots Q (F0 m pc ls (a1 :: rest)) :=
  va_callv (g_runS (rest := rest) (As := [a1]) hC hO hl hM mi ml rfl hrc hrs hR hw hf hdg) hO.2.2.2.1 (fun _ _ h => h) (fun _ h => h) (fun σ' t H1 locs1 ht _ hp hB _ _ hS => by
    obtain ⟨F', th', hO'⟩ := hO.back ht hB hS
    exact kk σ' F' th' H1 locs1 hp hO')
end HEAP
/-- a method over the whole world, from its entry -/
theorem g_met {l : Launch} {y : MethodName} {cc : ByteArray} {mx : Nat} {ret : Option FieldType} {rm : Room} {As : List Value} {Qc : Array Value → State → Outcome → State → Prop} {own : String} {κ : KK} {σ : ST} (r : Nat) (hy : plainName y.cls = true) (hc : y.cls = own) (hlen : (lg_sl As).length ≤ mx)
    (body : ∀ (p : Program) (e : Env) (s : State) (m : MethodId) (args : Array Value) (below : List Frame) (meth : Method) (c : Code), CX p s m args meth c cc mx own ret κ → ∀ (F : Nat → Nat → Int32) (th : Int32), OS κ s.heap σ F th s.heap [] → ∀ ls : Array Slot, LL ls mx (lo As ++ List.replicate r none) → W p l e rm s m args below meth c s.heap [] 0 0 (MQ below Qc args s 0 0 (FA κ)) (F0 m 0 ls [])) : Met l y (wA y cc mx ret) rm (va_Pc As (WX κ σ)) Qc 0 0 (FA κ) := by
  refine Met.ofW (cc := cc) (maxL := mx) (ret := ret) hy rfl ?_
  intro p e s m args below meth c s₁ B hml hv
  obtain ⟨rfl, hK, ⟨F, th, h1, h2⟩, h3, h4⟩ := hv
  have hts := atoms_spec (ws := wA y cc mx ret) B.pre
  have hown : s.vm.findClass own = some m.cls := by rw [← hc]; exact findClass_of_methodNamed B.named
  have hl := lv_entry As (n := mx) hlen
  rw [lg_entry_eq]
  refine body p e s m _ below meth c ⟨B.exec, B.bytes, hml, hown, fun w hw => hts w (List.mem_cons_of_mem _ hw), hK, B.notSynchronized, B.returns⟩ F th ⟨h1, h2, h3, va_S.rf, h4⟩ _ ?_
  show lv_has _ _ _
  rw [lz_lo]
  exact hl
