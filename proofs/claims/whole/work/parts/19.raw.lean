/-! worlds in the making: any cells, by codes; the addresses grow -/
def OR (κ : KK) (H0 : Heap) (C : Nat → va_E) (n : Nat) (H : Heap) (locs : List Loc) : Prop := va_P (kD κ) vwCl (wz (kad κ) C n) H ∧ adOk κ n ∧ va_S (FA κ) H0 H locs ∧ kS κ ≤ H0.size
def WR (κ : KK) (C : Nat → va_E) (n : Nat) (U : State) : Prop := va_K (kD κ) vwCl (kT κ) U ∧ va_P (kD κ) vwCl (wz (kad κ) C n) U.heap ∧ adOk κ n ∧ kS κ ≤ U.heap.size
theorem WR.blind {κ : KK} {C : Nat → va_E} {n : Nat} {U : State} (g : JFrame) (mk : MethodId) (a : Array Value) (h : WR κ C n U) : WR κ C n (U.calling g mk a) := ⟨va_K.moved (u := U) (U := U.calling g mk a) (Vm.Alike.refl U.vm) h.1, h.2.1, h.2.2.1, h.2.2.2⟩
theorem OR.wr {κ : KK} {H0 : Heap} {C : Nat → va_E} {n : Nat} {H : Heap} {locs : List Loc} (h : OR κ H0 C n H locs) {U : State} (hU : U.heap = H) (hK : va_K (kD κ) vwCl (kT κ) U) : WR κ C n U := ⟨hK, by rw [hU]; exact h.1, h.2.1, by rw [hU]; exact Nat.le_trans h.2.2.2 h.2.2.1.1⟩
theorem OR.back {κ κ2 : KK} {H0 H H1 : Heap} {C C2 : Nat → va_E} {n n2 : Nat} {locs locs1 : List Loc} {t : State} (h : OR κ H0 C n H locs) (hs : kS κ2 = kS κ) (ht : t.heap = H1) (hB : WR κ2 C2 n2 t) (hS : va_S (FA κ) H0 H1 locs1) : OR κ2 H0 C2 n2 H1 locs1 := ⟨by rw [← ht]; exact hB.2.1, hB.2.2.1, by unfold FA at hS ⊢; rw [hs]; exact hS, by rw [hs]; exact h.2.2.2⟩
theorem kad_kup (κ : KK) (n q c : Nat) : kad (kup κ n q) c = if c = n then q else kad κ c := rfl
section RAW
variable {p : Program} {l : Launch} {e : Env} {R : Room} {s : State} {m : MethodId} {args : Array Value} {below : List Frame} {meth : Method} {c : Code} {H : Heap} {locs : List Loc} {cells slots : Nat} {Q : State → Prop}
variable {cc : ByteArray} {nL : Nat} {own : String} {rt : Option FieldType} {κ : KK} {pc : Nat} {ls : Array Slot} {rest : List Value} {vs : List (Option Value)} {H0 : Heap} {C : Nat → va_E} {n : Nat}
theorem r_get {a co ci N k index : Nat} {Cn : String} {T : u_T} {fs : List Value} {v : Value} (hC : CX p s m args meth c cc nL own rt κ) (hO : OR κ H0 C n H locs) (hca : kad κ co = a) (hcl : vwCl[ci]? = some (Cn, T, N)) (hin : ∀ w ∈ u_ws Cn T N, w ∈ lw_g) (hk : k < N) (hfl : Cond.fieldLink own index (T k).1 (T k).2.1 (T k).2.2.1 ∈ lw_g) (hco : co < n) (he : C co = .inr (ci, fs)) (hv : fs[k]? = some v) (hdg : decode cc pc = .ok (.getfield index, 3))
    (kk : W p l e R s m args below meth c H locs cells slots Q (F0 m (pc + 3) ls (v :: rest))) : W p l e R s m args below meth c H locs cells slots Q (F0 m pc ls (.ref a :: rest)) := by
  subst hca
  exact va_get hC.1 hC.2.1 hC.2.2.2.2.1 hin hC.2.2.2.1 hC.2.2.2.2.2.1 hO.1 co (by rw [wz_get hco, he]) hcl k hk (hC.2.2.2.2.1 _ hfl) (fun _ h9 => h9) hv hdg kk
theorem OR.put {co : Nat} {e2 : va_E} {H1 : Heap} {locs1 : List Loc} (hO : OR κ H0 C n H locs) (hco : co < n) (hP : va_P (kD κ) vwCl ((wz (kad κ) C n).set co (kad κ co, e2)) H1) (hS : va_S (FA κ) H0 H1 locs1) : OR κ H0 (va_up C co e2) n H1 locs1 := by
  rw [wz_set hco] at hP
  exact ⟨hP, hO.2.1, hS, hO.2.2.2⟩
theorem r_put {a co ci N k index : Nat} {Cn : String} {T : u_T} {ty0 : Nat → FieldType} {fs : List Value} {v : Value} (hC : CX p s m args meth c cc nL own rt κ) (hO : OR κ H0 C n H locs) (hca : kad κ co = a) (hcl : vwCl[ci]? = some (Cn, T, N)) (hin : ∀ w ∈ u_ws Cn T N, w ∈ lw_g) (hty : ∀ k, k < N → parseFieldDescriptor (T k).2.2.1 = some (ty0 k)) (hnm : ∀ a, a < N → ∀ b, b < N → a ≠ b → (T a).2.1 ≠ (T b).2.1) (hk : k < N) (hfl : Cond.fieldLink own index (T k).1 (T k).2.1 (T k).2.2.1 ∈ lw_g) (hfin : (T k).2.2.2 = false) (hco : co < n) (he : C co = .inr (ci, fs)) (hlen : k < fs.length) (hnr : narrow (ty0 k) v = v) (hfit : fits (ty0 k) v = true) (hdg : decode cc pc = .ok (.putfield index, 3))
    (kk : ∀ (H1 : Heap) (locs1 : List Loc), OR κ H0 (va_up C co (.inr (ci, fs.set k v))) n H1 locs1 → W p l e R s m args below meth c H1 locs1 cells slots Q (F0 m (pc + 3) ls rest)) : W p l e R s m args below meth c H locs cells slots Q (F0 m pc ls (v :: .ref a :: rest)) := by
  subst hca
  exact va_put hC.1 hC.2.1 hC.2.2.2.2.1 hin ty0 hty hnm hC.2.2.2.1 hC.2.2.2.2.2.1 hO.1 (hO.2.1.D _) hO.2.2.1 co (by rw [wz_get hco, he]) hcl k hk (hC.2.2.2.2.1 _ hfl) (fun _ h9 => h9) hfin (hty k hk) hnr hfit hlen hdg (fun H1 locs1 hP _ hS => kk H1 locs1 (hO.put hco hP hS))
theorem r_putF {a co ci N k index : Nat} {Cn : String} {T : u_T} {ty0 : Nat → FieldType} {fs : List Value} {v : Value} (hC : CX p s m args meth c cc nL own rt κ) (hni : meth.name = "<init>") (hO : OR κ H0 C n H locs) (hca : kad κ co = a) (hcl : vwCl[ci]? = some (Cn, T, N)) (hin : ∀ w ∈ u_ws Cn T N, w ∈ lw_g) (hty : ∀ k, k < N → parseFieldDescriptor (T k).2.2.1 = some (ty0 k)) (hnm : ∀ a, a < N → ∀ b, b < N → a ≠ b → (T a).2.1 ≠ (T b).2.1) (hk : k < N) (hfl : Cond.fieldLink own index (T k).1 (T k).2.1 (T k).2.2.1 ∈ lw_g) (hfin : (T k).2.2.2 = true) (hdc : (T k).1 = own) (hco : co < n) (he : C co = .inr (ci, fs)) (hlen : k < fs.length) (hnr : narrow (ty0 k) v = v) (hfit : fits (ty0 k) v = true) (hdg : decode cc pc = .ok (.putfield index, 3))
    (kk : ∀ (H1 : Heap) (locs1 : List Loc), OR κ H0 (va_up C co (.inr (ci, fs.set k v))) n H1 locs1 → W p l e R s m args below meth c H1 locs1 cells slots Q (F0 m (pc + 3) ls rest)) : W p l e R s m args below meth c H locs cells slots Q (F0 m pc ls (v :: .ref a :: rest)) := by
  subst hca
  exact va_putF hC.1 hC.2.1 hC.2.2.2.2.1 hin ty0 hty hnm hC.2.2.2.1 hC.2.2.2.2.2.1 hO.1 (hO.2.1.D _) hO.2.2.1 co (by rw [wz_get hco, he]) hcl k hk (hC.2.2.2.2.1 _ hfl) (fun _ h9 => h9) hfin hni hdc (hty k hk) hnr hfit hlen hdg (fun H1 locs1 hP _ hS => kk H1 locs1 (hO.put hco hP hS))
theorem OR.hA (hO : OR κ H0 C n H locs) : ∀ q : Nat, H0.size ≤ q → FA κ q := fun _ h => Nat.le_trans hO.2.2.2 h
theorem OR.grow {q : Nat} {e2 : va_E} {H1 : Heap} {locs1 : List Loc} (hO : OR κ H0 C n H locs) (hP : va_P (kD κ) vwCl (wz (kad κ) C n ++ [(q, e2)]) H1) (hD : va_D (FA κ) (wz (kad κ) C n ++ [(q, e2)])) (hS : va_S (FA κ) H0 H1 locs1) : OR (kup κ n q) H0 (va_up C n e2) (n + 1) H1 locs1 := by
  rw [wz_push] at hP hD
  exact ⟨hP, adOk.of (κ := kup κ n q) (C := va_up C n e2) hD, hS, hO.2.2.2⟩
theorem CX.kup (hC : CX p s m args meth c cc nL own rt κ) (n q : Nat) : CX p s m args meth c cc nL own rt (kup κ n q) := hC
theorem r_new {ci N index : Nat} {Cn : String} {T : u_T} {ty0 : Nat → FieldType} {fs : List Value} (hC : CX p s m args meth c cc nL own rt κ) (hO : OR κ H0 C n H locs) (hcl : vwCl[ci]? = some (Cn, T, N)) (hin : ∀ w ∈ u_ws Cn T N, w ∈ lw_g) (hty : ∀ k, k < N → parseFieldDescriptor (T k).2.2.1 = some (ty0 k)) (h1 : Cond.classLink own index Cn ∈ lw_g) (h2 : Cond.instantiable Cn N ∈ lw_g) (h3 : Cond.initialized Cn ∈ lw_g) (hfs : ∀ j, j < N → defaultValue (ty0 j) = vp_V fs j) (hcells : cells + 1 ≤ R.cells) (hslots : slots + N ≤ R.slots) (hdg : decode cc pc = .ok (.new index, 3))
    (kk : ∀ (q : Nat) (H1 : Heap), OR (kup κ n q) H0 (va_up C n (.inr (ci, fs))) (n + 1) H1 locs → W p l e R s m args below meth c H1 locs (cells + 1) (slots + N) Q (F0 m (pc + 3) ls (.ref q :: rest))) : W p l e R s m args below meth c H locs cells slots Q (F0 m pc ls rest) :=
  va_new hC.1 hC.2.1 hC.2.2.2.2.1 hin ty0 hty hC.2.2.2.1 (hC.2.2.2.2.1 _ h1) (hC.2.2.2.2.1 _ h2) (hC.2.2.2.2.1 _ h3) hC.2.2.2.2.2.1 hO.1 (hO.2.1.D _) hO.2.2.1 hO.hA hcl hfs hcells hslots hdg (fun q H1 hP hD hS => kk q H1 (hO.grow hP hD hS))
theorem same_arr {tys : List (ClassId × FieldType)} {cA : ClassId} {ty : FieldType} (hp : ∀ C, ty ≠ .object C) (h : va_K (kD κ) vwCl (tys ++ [(cA, ty)]) s) {k : Nat} {cB : ClassId} (h2 : va_K (kD κ) vwCl tys s) (hk : tys[k]? = some (cB, ty)) : cA = cB := by
  have a1 := (h.2 tys.length (cA, ty) (by simp)).2
  have a2 := (h2.2 k _ hk).2
  have b1 : s.vm.findClass ("[" ++ ty.toString) = some cA := by
    cases ty <;> first | exact a1 | exact absurd rfl (hp _)
  have b2 : s.vm.findClass ("[" ++ ty.toString) = some cB := by
    cases ty <;> first | exact a2 | exact absurd rfl (hp _)
  exact Option.some.inj (b1.symm.trans b2)
theorem r_newI {x : Int32} (N : Nat) (hC : CX p s m args meth c cc nL own rt κ) (hO : OR κ H0 C n H locs) (hn : ¬ x < 0) (hN : x.toNatClampNeg = N) (hby : N * 4 ≤ 536870912) (hcells : cells + 1 ≤ R.cells) (hslots : slots + N ≤ R.slots) (hdg : decode cc pc = .ok (.newarray .int, 2))
    (kk : ∀ (q : Nat) (H1 : Heap), OR (kup κ n q) H0 (va_up C n (.inl (kcI κ, N, .inl (fun _ => 0)))) (n + 1) H1 locs → W p l e R s m args below meth c H1 locs (cells + 1) (slots + N) Q (F0 m (pc + 2) ls (.ref q :: rest))) : W p l e R s m args below meth c H locs cells slots Q (F0 m pc ls (.int x :: rest)) :=
  va_newa (atype := .int) (a0 := (N, .inl (fun _ => 0))) hC.1 hC.2.1 (hC.2.2.2.2.1 _ q_ac_int) (ty := .int) rfl hC.2.2.2.2.2.1 hO.1 (hO.2.1.D _) hO.2.2.1 hO.hA (fun cA => rfl) hn hN hby hcells hslots hdg (fun q cA H1 hK hP hD hS => by
    have e9 := same_arr (κ := κ) (k := 0) (fun C h => by cases h) hK hC.2.2.2.2.2.1 rfl
    subst e9
    exact kk q H1 (hO.grow hP hD hS))
theorem r_newL {x : Int32} (N : Nat) (hC : CX p s m args meth c cc nL own rt κ) (hO : OR κ H0 C n H locs) (hn : ¬ x < 0) (hN : x.toNatClampNeg = N) (hby : N * 8 ≤ 536870912) (hcells : cells + 1 ≤ R.cells) (hslots : slots + N ≤ R.slots) (hdg : decode cc pc = .ok (.newarray .long, 2))
    (kk : ∀ (q : Nat) (H1 : Heap), OR (kup κ n q) H0 (va_up C n (.inl (kcL κ, N, .inr (.inl (fun _ => 0))))) (n + 1) H1 locs → W p l e R s m args below meth c H1 locs (cells + 1) (slots + N) Q (F0 m (pc + 2) ls (.ref q :: rest))) : W p l e R s m args below meth c H locs cells slots Q (F0 m pc ls (.int x :: rest)) :=
  va_newa (atype := .long) (a0 := (N, .inr (.inl (fun _ => 0)))) hC.1 hC.2.1 (hC.2.2.2.2.1 _ q_ac_long) (ty := .long) rfl hC.2.2.2.2.2.1 hO.1 (hO.2.1.D _) hO.2.2.1 hO.hA (fun cA => rfl) hn hN hby hcells hslots hdg (fun q cA H1 hK hP hD hS => by
    have e9 := same_arr (κ := κ) (k := 1) (fun C h => by cases h) hK hC.2.2.2.2.2.1 rfl
    subst e9
    exact kk q H1 (hO.grow hP hD hS))
theorem r_newZ {x : Int32} (N : Nat) (hC : CX p s m args meth c cc nL own rt κ) (hO : OR κ H0 C n H locs) (hn : ¬ x < 0) (hN : x.toNatClampNeg = N) (hby : N * 1 ≤ 536870912) (hcells : cells + 1 ≤ R.cells) (hslots : slots + N ≤ R.slots) (hdg : decode cc pc = .ok (.newarray .boolean, 2))
    (kk : ∀ (q : Nat) (H1 : Heap), OR (kup κ n q) H0 (va_up C n (.inl (kcZ κ, N, .inl (fun _ => 0)))) (n + 1) H1 locs → W p l e R s m args below meth c H1 locs (cells + 1) (slots + N) Q (F0 m (pc + 2) ls (.ref q :: rest))) : W p l e R s m args below meth c H locs cells slots Q (F0 m pc ls (.int x :: rest)) :=
  va_newa (atype := .boolean) (a0 := (N, .inl (fun _ => 0))) hC.1 hC.2.1 (hC.2.2.2.2.1 _ q_ac_boolean) (ty := .boolean) rfl hC.2.2.2.2.2.1 hO.1 (hO.2.1.D _) hO.2.2.1 hO.hA (fun cA => rfl) hn hN hby hcells hslots hdg (fun q cA H1 hK hP hD hS => by
    have e9 := same_arr (κ := κ) (k := 2) (fun C h => by cases h) hK hC.2.2.2.2.2.1 rfl
    subst e9
    exact kk q H1 (hO.grow hP hD hS))
theorem r_newR {x : Int32} {index : Nat} (N : Nat) (hC : CX p s m args meth c cc nL own rt κ) (hao : va_AO RX1 s) (hO : OR κ H0 C n H locs) (h1 : Cond.classLink own index RX1 ∈ lw_g) (hn : ¬ x < 0) (hN : x.toNatClampNeg = N) (hby : N * 4 ≤ 536870912) (hcells : cells + 1 ≤ R.cells) (hslots : slots + N ≤ R.slots) (hdg : decode cc pc = .ok (.anewarray index, 3))
    (kk : ∀ (q : Nat) (H1 : Heap), OR (kup κ n q) H0 (va_up C n (.inl (kcR κ, N, .inr (.inr (.inr (.inr (fun _ => none))))))) (n + 1) H1 locs → W p l e R s m args below meth c H1 locs (cells + 1) (slots + N) Q (F0 m (pc + 3) ls (.ref q :: rest))) : W p l e R s m args below meth c H locs cells slots Q (F0 m pc ls (.int x :: rest)) :=
  va_newq (C := RX1) hC.1 hC.2.1 hC.2.2.2.1 (hC.2.2.2.2.1 _ h1) hao hC.2.2.2.2.2.1 hO.1 (hO.2.1.D _) hO.2.2.1 hO.hA hn hN hby hcells hslots hdg (fun q cA H1 hK hP hD hS => by
    have a1 := (hK.2 (kT κ).length (cA, .object RX1) (by simp)).2
    have a2 := (hC.2.2.2.2.2.1.2 3 (kcR κ, .object RX1) rfl).2
    obtain ⟨-, -, -, -, -, b1⟩ := a1
    obtain ⟨-, -, -, -, -, b2⟩ := a2
    have e9 : cA = kcR κ := Option.some.inj (b1.symm.trans b2)
    subst e9
    exact kk q H1 (hO.grow hP hD hS))
theorem r_aast {a v co cv ci N2 N : Nat} {T : u_T} {f : Nat → Option Nat} {fs : List Value} {i : Int32} (hC : CX p s m args meth c cc nL own rt κ) (hO : OR κ H0 C n H locs) (hca : kad κ co = a) (hcv : kad κ cv = v) (hco : co < n) (hcvn : cv < n) (he : C co = .inl (kcR κ, N, .inr (.inr (.inr (.inr f))))) (hcl : vwCl[ci]? = some (RX1, T, N2)) (hev : C cv = .inr (ci, fs)) (hin : vp_in i N) (hdg : decode cc pc = .ok (.aastore, 1))
    (kk : ∀ (H1 : Heap) (locs1 : List Loc), OR κ H0 (va_up C co (.inl (kcR κ, N, .inr (.inr (.inr (.inr (va_up f i.toNatClampNeg (some v)))))))) n H1 locs1 → W p l e R s m args below meth c H1 locs1 cells slots Q (F0 m (pc + 1) ls rest)) : W p l e R s m args below meth c H locs cells slots Q (F0 m pc ls (.ref v :: .int i :: .ref a :: rest)) := by
  subst hca
  subst hcv
  exact va_astq hC.1 hC.2.1 hC.2.2.2.2.2.1 hO.1 (hO.2.1.D _) hO.2.2.1 co 3 cv ci (by rw [wz_get hco, he]) rfl (by rw [wz_get hcvn, hev]) hcl hin hdg (fun H1 locs1 hP _ hS => kk H1 locs1 (hO.put hco hP hS))
/-- a constructor's call -/
theorem r_cI {S : Type} {post : S → Prop} {Bp : State → Prop} {B2 : S → State → Prop} {y : MethodName} {Cn : String} {cc2 : ByteArray} {mx nA index mc ms : Nat} {rm : Room} {As : List Value} {b : Addr} (hC : CX p s m args meth c cc nL own rt κ) (hO : OR κ H0 C n H locs) (hl : LL ls nL vs) (hM : Met l y (wA y cc2 mx none) rm (va_Pc (.ref b :: As) Bp) (va_Qv post B2 (FA κ)) mc ms (FA κ)) (mi : MN y Cn cc2 mx nA) (hy : y.cls = Cn) (ml : Cond.methodLink own index y ∈ lw_g)
    (hbl : ∀ (U : State) (g : JFrame) (mk : MethodId) (a : Array Value), Bp U → Bp (U.calling g mk a)) (hB : ∀ U : State, U.heap = H → s.WarmedH U.vm → va_K (kD κ) vwCl (kT κ) U → Bp U) (hn : As.length = nA) (hrc : rm.cells = mc) (hrs : rm.slots = ms) (hR : rm.frames + 1 ≤ R.frames ∧ 8 + (mx + 11) + rm.locals ≤ R.locals) (hw : (rest.map fun v => v.category).sum ≤ 8) (hf : cells + mc ≤ R.cells ∧ slots + ms ≤ R.slots) (hdg : decode cc pc = .ok (.invokespecial index, 3))
    (kk : ∀ (u : S) (t : State) (H1 : Heap) (locs1 : List Loc), t.heap = H1 → post u → B2 u t → va_S (FA κ) H0 H1 locs1 → W p l e R s m args below meth c H1 locs1 (cells + mc) (slots + ms) Q (F0 m (pc + 3) ls rest)) : W p l e R s m args below meth c H locs cells slots Q (F0 m pc ls (As.reverse ++ .ref b :: rest)) :=
  va_callv (va_runI (As := As) (rest := rest) ⟨hC.1, hC.2.1, hC.2.2.1, hC.2.2.2.1, hC.2.2.2.2.1⟩ hM (cwI nA hC.2.2.2.2.1 (gI mi.2.2.1) rfl hrc hrs (by rw [hy]; exact hC.2.2.2.2.1 _ mi.2.1) (hC.2.2.2.2.1 _ ml) (hC.2.2.2.2.1 _ mi.1) mi.2.2.2.1 mi.2.2.2.2 hR) ⟨fun a U g mk q => ⟨q.1, hbl U g mk a q.2⟩, fun U hU hW => ⟨rfl, hB U hU hW (va_K.moved hW.alike hC.2.2.2.2.2.1)⟩⟩ rfl hn hl.1 rfl (lv_room hw) hdg hf) hO.2.2.1 (fun _ _ h => h) (fun _ h => h) (fun u t H1 locs1 ht _ hp hB2 _ _ hS => kk u t H1 locs1 ht hp hB2 hS)
theorem r_vret {S : Type} {post : S → Prop} {B : S → State → Prop} {κ2 : KK} {C2 : Nat → va_E} {n2 : Nat} (u : S) (hC : CX p s m args meth c cc nL own none κ) (hO : OR κ2 s.heap C2 n2 H locs) (hs : kS κ2 = kS κ) (hdg : decode cc pc = .ok (.return_, 1)) (hpost : post u) (hB : ∀ t : State, t.heap = H → va_K (kD κ) vwCl (kT κ) t → B u t) : W p l e R s m args below meth c H locs cells slots (MQ below (va_Qv post B (FA κ)) args s cells slots (FA κ)) (F0 m pc ls []) := by
  have hS : va_S (FA κ) s.heap H locs := by
    have h := hO.2.2.1
    unfold FA at h ⊢
    rw [← hs]
    exact h
  exact W.vret (hlocks := hC.2.2.2.2.2.2.1) hC.1 hC.2.1 hC.2.2.2.2.2.2.2 (fun t ht hW => ⟨⟨u, rfl, hpost, hB t ht (va_K.moved hW.alike hC.2.2.2.2.2.1)⟩, hS.F ht⟩) hS.2.2 hdg
end RAW
theorem r_met {l : Launch} {y : MethodName} {cc : ByteArray} {mx : Nat} {ret : Option FieldType} {rm : Room} {As : List Value} {Qc : Array Value → State → Outcome → State → Prop} {own : String} {κ : KK} {C : Nat → va_E} {n mc ms : Nat} {X : State → Prop} (r : Nat) (hy : plainName y.cls = true) (hc : y.cls = own) (hlen : (lg_sl As).length ≤ mx)
    (body : ∀ (p : Program) (e : Env) (s : State) (m : MethodId) (args : Array Value) (below : List Frame) (meth : Method) (c : Code), CX p s m args meth c cc mx own ret κ → meth.name = y.name → X s → OR κ s.heap C n s.heap [] → ∀ ls : Array Slot, LL ls mx (lo As ++ List.replicate r none) → W p l e rm s m args below meth c s.heap [] 0 0 (MQ below Qc args s mc ms (FA κ)) (F0 m 0 ls [])) : Met l y (wA y cc mx ret) rm (va_Pc As (fun U => WR κ C n U ∧ X U)) Qc mc ms (FA κ) := by
  refine Met.ofW (cc := cc) (maxL := mx) (ret := ret) hy rfl ?_
  intro p e s m args below meth c s₁ B hml hv
  obtain ⟨rfl, ⟨hK, h2, h3, h4⟩, hX⟩ := hv
  have hts := atoms_spec (ws := wA y cc mx ret) B.pre
  have hown : s.vm.findClass own = some m.cls := by rw [← hc]; exact findClass_of_methodNamed B.named
  have hl := lv_entry As (n := mx) hlen
  rw [lg_entry_eq]
  refine body p e s m _ below meth c ⟨B.exec, B.bytes, hml, hown, fun w hw => hts w (List.mem_cons_of_mem _ hw), hK, B.notSynchronized, B.returns⟩ (name_of_methodNamed B.named B.method).1 hX ⟨h2, h3, va_S.rf, h4⟩ _ ?_
  show lv_has _ _ _
  rw [lz_lo]
  exact hl
