/-! the world by codes: cell number c lies at ad c and holds C c -/
def wz (ad : Nat → Nat) (C : Nat → va_E) (n : Nat) : va_W := (List.range n).map (fun c => (ad c, C c))
theorem wz_get {ad : Nat → Nat} {C : Nat → va_E} {n c : Nat} (h : c < n) : (wz ad C n)[c]? = some (ad c, C c) := by
  simp [wz, h]
theorem wz_len {ad : Nat → Nat} {C : Nat → va_E} {n : Nat} : (wz ad C n).length = n := by simp [wz]
theorem wz_at {ad : Nat → Nat} {C : Nat → va_E} {n k : Nat} {q : Nat × va_E} (h : (wz ad C n)[k]? = some q) : k < n ∧ q = (ad k, C k) := by
  have hk : k < n := by
    have h1 := (List.getElem?_eq_some_iff.mp h).1
    rwa [wz_len] at h1
  rw [wz_get hk] at h
  exact ⟨hk, (Option.some.inj h).symm⟩
theorem wz_set {ad : Nat → Nat} {C : Nat → va_E} {n c : Nat} {e : va_E} (h : c < n) : (wz ad C n).set c (ad c, e) = wz ad (va_up C c e) n := by
  apply List.ext_getElem?
  intro j
  by_cases hj : j = c
  · subst hj
    rw [List.getElem?_set_self (by rw [wz_len]; exact h), wz_get h, va_up_self]
  · rw [List.getElem?_set_ne (Ne.symm hj)]
    by_cases hn : j < n
    · rw [wz_get hn, wz_get hn, va_up_ne _ _ hj]
    · rw [List.getElem?_eq_none (by rw [wz_len]; omega), List.getElem?_eq_none (by rw [wz_len]; omega)]
theorem wz_push {ad : Nat → Nat} {C : Nat → va_E} {n q : Nat} {e : va_E} : wz ad C n ++ [(q, e)] = wz (va_up ad n q) (va_up C n e) (n + 1) := by
  simp only [wz, List.range_succ, List.map_append, List.map_cons, List.map_nil, va_up_self]
  congr 1
  apply List.map_congr_left
  intro b hb
  have h1 : b ≠ n := by have := List.mem_range.mp hb; omega
  rw [va_up_ne _ _ h1, va_up_ne _ _ h1]
/-- what does not change in a run but for the addresses: from where on the cells are ours, the classes' numbers, the array classes, the addresses of the codes -/
abbrev KK : Type := Nat × va_G × (ClassId × ClassId × ClassId × ClassId) × (Nat → Nat)
def kS (κ : KK) : Nat := κ.1
def kD (κ : KK) : va_G := κ.2.1
def kcI (κ : KK) : ClassId := κ.2.2.1.1
def kcL (κ : KK) : ClassId := κ.2.2.1.2.1
def kcZ (κ : KK) : ClassId := κ.2.2.1.2.2.1
def kcR (κ : KK) : ClassId := κ.2.2.1.2.2.2
def kad (κ : KK) : Nat → Nat := κ.2.2.2
def kup (κ : KK) (n q : Nat) : KK := (κ.1, κ.2.1, κ.2.2.1, va_up κ.2.2.2 n q)
def kT (κ : KK) : List (ClassId × FieldType) := [(kcI κ, .int), (kcL κ, .long), (kcZ κ, .boolean), (kcR κ, .object RX1)]
def FA (κ : KK) : Nat → Prop := fun q => kS κ ≤ q
def adOk (κ : KK) (n : Nat) : Prop := (∀ i j, i < n → j < n → kad κ i = kad κ j → i = j) ∧ ∀ i, i < n → kS κ ≤ kad κ i
theorem adOk.D {κ : KK} {n : Nat} (h : adOk κ n) (C : Nat → va_E) : va_D (FA κ) (wz (kad κ) C n) := by
  refine ⟨fun i j p q hi hj hpq => ?_, fun k q hk => ?_⟩
  · obtain ⟨h1, rfl⟩ := wz_at hi
    obtain ⟨h2, rfl⟩ := wz_at hj
    exact h.1 i j h1 h2 hpq
  · obtain ⟨h1, rfl⟩ := wz_at hk
    exact h.2 k h1
theorem adOk.of {κ : KK} {n : Nat} {C : Nat → va_E} (h : va_D (FA κ) (wz (kad κ) C n)) : adOk κ n :=
  ⟨fun i j hi hj e => h.1 i j _ _ (wz_get hi) (wz_get hj) e, fun i hi => h.2 i _ (wz_get hi)⟩
/-- the frame's fixed part -/
def CX (p : Program) (s : State) (m : MethodId) (args : Array Value) (meth : Method) (c : Code) (cc : ByteArray) (nL : Nat) (own : String) (rt : Option FieldType) (κ : KK) : Prop :=
  p.tables.exec = Jvm.exec ∧ c.code = cc ∧ c.maxLocals = nL ∧ s.vm.findClass own = some m.cls ∧ (∀ w ∈ lw_g, w.before args s = true) ∧ va_K (kD κ) vwCl (kT κ) s ∧ meth.locks = false ∧ meth.sig.returnType = rt
/-! the locals by place -/
def lz : Nat → List (Option Value) → List (Nat × Value)
  | _, [] => []
  | i, none :: vs => lz (i + 1) vs
  | i, some v :: vs => (i, v) :: lz (i + 1) vs
def LL (ls : Array Slot) (n : Nat) (vs : List (Option Value)) : Prop := lv_has ls n (lz 0 vs)
theorem lz_mem : ∀ (vs : List (Option Value)) (i j : Nat) (w : Value), (j, w) ∈ lz i vs ↔ i ≤ j ∧ vs[j - i]? = some (some w) := by
  intro vs
  induction vs with
  | nil => intro i j w; simp [lz]
  | cons v vs ih =>
    intro i j w
    have step : i + 1 ≤ j → (v :: vs)[j - i]? = vs[j - (i + 1)]? := fun h => by
      rw [show j - i = (j - (i + 1)) + 1 by omega, List.getElem?_cons_succ]
    cases v with
    | none =>
      simp only [lz, ih]
      constructor
      · rintro ⟨h1, h2⟩
        exact ⟨by omega, by rw [step h1]; exact h2⟩
      · rintro ⟨h1, h2⟩
        by_cases hj : i + 1 ≤ j
        · exact ⟨hj, by rw [← step hj]; exact h2⟩
        · rw [show j - i = 0 by omega] at h2
          simp at h2
    | some v =>
      simp only [lz, List.mem_cons, ih, Prod.mk.injEq]
      constructor
      · rintro (⟨rfl, rfl⟩ | ⟨h1, h2⟩)
        · exact ⟨Nat.le_refl _, by simp⟩
        · exact ⟨by omega, by rw [step h1]; exact h2⟩
      · rintro ⟨h1, h2⟩
        by_cases hj : i + 1 ≤ j
        · exact Or.inr ⟨hj, by rw [← step hj]; exact h2⟩
        · have hji : j = i := by omega
          subst hji
          rw [Nat.sub_self] at h2
          simp at h2
          exact Or.inl ⟨rfl, h2.symm⟩
theorem LL.get {ls : Array Slot} {n : Nat} {vs : List (Option Value)} (h : LL ls n vs) {k : Nat} {v : Value} (hk : vs[k]? = some (some v)) : ls[k]? = some (.val v) :=
  h.2.2 (k, v) ((lz_mem vs 0 k v).mpr ⟨Nat.zero_le _, by simpa using hk⟩)
def okp (vs : List (Option Value)) (i : Nat) : Bool := match i with
  | 0 => true
  | j + 1 => match vs[j]? with
    | some (some v) => v.category == 1
    | _ => true
theorem LL.st1 {ls : Array Slot} {n i : Nat} {v : Value} {vs : List (Option Value)} (h : lv_has ls n ((i, v) :: (lz 0 vs).filter (fun q => !(q.1 == i) && !(q.1 + 1 == i && q.2.category == 2)))) (hp : okp vs i = true) : LL ls n (vs.set i (some v)) := by
  refine ⟨h.1, h.2.1, fun q hq => ?_⟩
  obtain ⟨j, w⟩ := q
  have h1 := ((lz_mem _ 0 j w).mp hq).2
  rw [Nat.sub_zero] at h1
  by_cases hj : j = i
  · subst hj
    have hl : j < vs.length := by
      have := (List.getElem?_eq_some_iff.mp h1).1
      simpa using this
    rw [List.getElem?_set_self hl] at h1
    cases h1
    exact h.2.2 _ List.mem_cons_self
  · rw [List.getElem?_set_ne (Ne.symm hj)] at h1
    refine h.2.2 _ (List.mem_cons_of_mem _ (List.mem_filter.mpr ⟨(lz_mem vs 0 j w).mpr ⟨Nat.zero_le _, by simpa using h1⟩, ?_⟩))
    have h2 : (j + 1 == i && w.category == 2) = false := by
      by_cases hji : j + 1 = i
      · subst hji
        simp only [okp, h1] at hp
        have : w.category = 1 := by simpa using hp
        simp [this]
      · simp [hji]
    simp [hj, h2]
theorem LL.st2 {ls : Array Slot} {n i : Nat} {v : Value} {vs : List (Option Value)} (h : lv_has ls n ((i, v) :: (lz 0 vs).filter (fun q => !(q.1 == i) && (!(q.1 == i + 1) && !(q.1 + 1 == i && q.2.category == 2))))) (hp : okp vs i = true) : LL ls n ((vs.set i (some v)).set (i + 1) none) := by
  refine ⟨h.1, h.2.1, fun q hq => ?_⟩
  obtain ⟨j, w⟩ := q
  have h1 := ((lz_mem _ 0 j w).mp hq).2
  rw [Nat.sub_zero] at h1
  have hj2 : j ≠ i + 1 := by
    rintro rfl
    have hl := (List.getElem?_eq_some_iff.mp h1).1
    rw [List.length_set] at hl
    rw [List.getElem?_set_self hl] at h1
    cases h1
  rw [List.getElem?_set_ne (Ne.symm hj2)] at h1
  by_cases hj : j = i
  · subst hj
    have hl : j < vs.length := by
      have := (List.getElem?_eq_some_iff.mp h1).1
      simpa using this
    rw [List.getElem?_set_self hl] at h1
    cases h1
    exact h.2.2 _ List.mem_cons_self
  · rw [List.getElem?_set_ne (Ne.symm hj)] at h1
    refine h.2.2 _ (List.mem_cons_of_mem _ (List.mem_filter.mpr ⟨(lz_mem vs 0 j w).mpr ⟨Nat.zero_le _, by simpa using h1⟩, ?_⟩))
    have h2 : (j + 1 == i && w.category == 2) = false := by
      by_cases hji : j + 1 = i
      · subst hji
        simp only [okp, h1] at hp
        have : w.category = 1 := by simpa using hp
        simp [this]
      · simp [hji]
    simp [hj, hj2, h2]
def lo : List Value → List (Option Value)
  | [] => []
  | v :: vs => if v.category = 2 then some v :: none :: lo vs else some v :: lo vs
theorem lz_lo (r : Nat) : ∀ (As : List Value) (i : Nat), lz i (lo As ++ List.replicate r none) = lv_args i As := by
  intro As
  induction As with
  | nil =>
    intro i
    simp only [lo, List.nil_append, lv_args]
    induction r generalizing i with
    | zero => rfl
    | succ r ih => simp only [List.replicate_succ, lz]; exact ih _
  | cons v vs ih =>
    intro i
    by_cases hc : v.category = 2
    · simp only [lo, hc, if_true, List.cons_append, lz, lv_args, ih]
    · simp only [lo, hc, if_false, List.cons_append, lz, lv_args, ih]
theorem LL.weak {ls : Array Slot} {n : Nat} {vs vs' : List (Option Value)} (h : LL ls n vs) (hv : ∀ (k : Nat) (v : Value), vs'[k]? = some (some v) → vs[k]? = some (some v)) : LL ls n vs' := by
  refine ⟨h.1, h.2.1, fun q hq => ?_⟩
  obtain ⟨j, w⟩ := q
  have h1 := ((lz_mem _ 0 j w).mp hq).2
  rw [Nat.sub_zero] at h1
  exact h.get (hv j w h1)
section LOC
variable {p : Program} {l : Launch} {e : Env} {R : Room} {s : State} {m : MethodId} {args : Array Value} {below : List Frame} {meth : Method} {c : Code} {H : Heap} {locs : List Loc} {cells slots : Nat} {Q : State → Prop}
variable {cc : ByteArray} {nL : Nat} {own : String} {rt : Option FieldType} {κ : KK} {pc : Nat} {ls : Array Slot} {rest : List Value} {vs : List (Option Value)}
theorem g_iload_n (hC : CX p s m args meth c cc nL own rt κ) (hl : LL ls nL vs) {k : Fin 4} {i : Nat} {x : Int32} (hdg : decode cc pc = .ok (.iload_n k, 1)) (hi : (k : Nat) = i) (hv : vs[i]? = some (some (.int x))) (kk : W p l e R s m args below meth c H locs cells slots Q (F0 m (pc + 1) ls (.int x :: rest))) : W p l e R s m args below meth c H locs cells slots Q (F0 m pc ls rest) := lv_iload_n hC.1 hC.2.1 hdg hi (hl.get hv) kk
theorem g_iload (hC : CX p s m args meth c cc nL own rt κ) (hl : LL ls nL vs) {i : Nat} {x : Int32} (hdg : decode cc pc = .ok (.iload i, 2)) (hv : vs[i]? = some (some (.int x))) (kk : W p l e R s m args below meth c H locs cells slots Q (F0 m (pc + 2) ls (.int x :: rest))) : W p l e R s m args below meth c H locs cells slots Q (F0 m pc ls rest) := lv_iload hC.1 hC.2.1 hdg (hl.get hv) kk
theorem g_lload_n (hC : CX p s m args meth c cc nL own rt κ) (hl : LL ls nL vs) {k : Fin 4} {i : Nat} {x : Int64} (hdg : decode cc pc = .ok (.lload_n k, 1)) (hi : (k : Nat) = i) (hv : vs[i]? = some (some (.long x))) (kk : W p l e R s m args below meth c H locs cells slots Q (F0 m (pc + 1) ls (.long x :: rest))) : W p l e R s m args below meth c H locs cells slots Q (F0 m pc ls rest) := lv_lload_n hC.1 hC.2.1 hdg hi (hl.get hv) kk
theorem g_lload (hC : CX p s m args meth c cc nL own rt κ) (hl : LL ls nL vs) {i : Nat} {x : Int64} (hdg : decode cc pc = .ok (.lload i, 2)) (hv : vs[i]? = some (some (.long x))) (kk : W p l e R s m args below meth c H locs cells slots Q (F0 m (pc + 2) ls (.long x :: rest))) : W p l e R s m args below meth c H locs cells slots Q (F0 m pc ls rest) := lv_lload hC.1 hC.2.1 hdg (hl.get hv) kk
theorem g_aload_n (hC : CX p s m args meth c cc nL own rt κ) (hl : LL ls nL vs) {k : Fin 4} {i : Nat} {x : Nat} (hdg : decode cc pc = .ok (.aload_n k, 1)) (hi : (k : Nat) = i) (hv : vs[i]? = some (some (.ref x))) (kk : W p l e R s m args below meth c H locs cells slots Q (F0 m (pc + 1) ls (.ref x :: rest))) : W p l e R s m args below meth c H locs cells slots Q (F0 m pc ls rest) := lv_aload_n hC.1 hC.2.1 hdg hi (hl.get hv) kk
theorem g_aload_nN (hC : CX p s m args meth c cc nL own rt κ) (hl : LL ls nL vs) {k : Fin 4} {i : Nat} (hdg : decode cc pc = .ok (.aload_n k, 1)) (hi : (k : Nat) = i) (hv : vs[i]? = some (some .null)) (kk : W p l e R s m args below meth c H locs cells slots Q (F0 m (pc + 1) ls (.null :: rest))) : W p l e R s m args below meth c H locs cells slots Q (F0 m pc ls rest) := lv_aload_nN hC.1 hC.2.1 hdg hi (hl.get hv) kk
theorem g_aload (hC : CX p s m args meth c cc nL own rt κ) (hl : LL ls nL vs) {i : Nat} {x : Nat} (hdg : decode cc pc = .ok (.aload i, 2)) (hv : vs[i]? = some (some (.ref x))) (kk : W p l e R s m args below meth c H locs cells slots Q (F0 m (pc + 2) ls (.ref x :: rest))) : W p l e R s m args below meth c H locs cells slots Q (F0 m pc ls rest) := lv_aload hC.1 hC.2.1 hdg (hl.get hv) kk
theorem g_aloadN (hC : CX p s m args meth c cc nL own rt κ) (hl : LL ls nL vs) {i : Nat} (hdg : decode cc pc = .ok (.aload i, 2)) (hv : vs[i]? = some (some .null)) (kk : W p l e R s m args below meth c H locs cells slots Q (F0 m (pc + 2) ls (.null :: rest))) : W p l e R s m args below meth c H locs cells slots Q (F0 m pc ls rest) := lv_aloadN hC.1 hC.2.1 hdg (hl.get hv) kk
theorem g_istore_n (hC : CX p s m args meth c cc nL own rt κ) (hl : LL ls nL vs) {k : Fin 4} {i : Nat} {x : Int32} (hdg : decode cc pc = .ok (.istore_n k, 1)) (hi : (k : Nat) = i) (hn : i < nL) (hp : okp vs i = true) (kk : ∀ ls', LL ls' nL (vs.set i (some (.int x))) → W p l e R s m args below meth c H locs cells slots Q (F0 m (pc + 1) ls' rest)) : W p l e R s m args below meth c H locs cells slots Q (F0 m pc ls (.int x :: rest)) := lv_istore_n hC.1 hC.2.1 hdg hi hl hn rfl (fun ls' h => kk ls' (LL.st1 h hp))
theorem g_istore (hC : CX p s m args meth c cc nL own rt κ) (hl : LL ls nL vs) {i : Nat} {x : Int32} (hdg : decode cc pc = .ok (.istore i, 2)) (hn : i < nL) (hp : okp vs i = true) (kk : ∀ ls', LL ls' nL (vs.set i (some (.int x))) → W p l e R s m args below meth c H locs cells slots Q (F0 m (pc + 2) ls' rest)) : W p l e R s m args below meth c H locs cells slots Q (F0 m pc ls (.int x :: rest)) := lv_istore hC.1 hC.2.1 hdg hl hn rfl (fun ls' h => kk ls' (LL.st1 h hp))
theorem g_lstore_n (hC : CX p s m args meth c cc nL own rt κ) (hl : LL ls nL vs) {k : Fin 4} {i : Nat} {x : Int64} (hdg : decode cc pc = .ok (.lstore_n k, 1)) (hi : (k : Nat) = i) (hn : i + 1 < nL) (hp : okp vs i = true) (kk : ∀ ls', LL ls' nL ((vs.set i (some (.long x))).set (i + 1) none) → W p l e R s m args below meth c H locs cells slots Q (F0 m (pc + 1) ls' rest)) : W p l e R s m args below meth c H locs cells slots Q (F0 m pc ls (.long x :: rest)) := lv_lstore_n hC.1 hC.2.1 hdg hi hl hn rfl (fun ls' h => kk ls' (LL.st2 h hp))
theorem g_lstore (hC : CX p s m args meth c cc nL own rt κ) (hl : LL ls nL vs) {i : Nat} {x : Int64} (hdg : decode cc pc = .ok (.lstore i, 2)) (hn : i + 1 < nL) (hp : okp vs i = true) (kk : ∀ ls', LL ls' nL ((vs.set i (some (.long x))).set (i + 1) none) → W p l e R s m args below meth c H locs cells slots Q (F0 m (pc + 2) ls' rest)) : W p l e R s m args below meth c H locs cells slots Q (F0 m pc ls (.long x :: rest)) := lv_lstore hC.1 hC.2.1 hdg hl hn rfl (fun ls' h => kk ls' (LL.st2 h hp))
theorem g_astore_n (hC : CX p s m args meth c cc nL own rt κ) (hl : LL ls nL vs) {k : Fin 4} {i : Nat} {x : Nat} (hdg : decode cc pc = .ok (.astore_n k, 1)) (hi : (k : Nat) = i) (hn : i < nL) (hp : okp vs i = true) (kk : ∀ ls', LL ls' nL (vs.set i (some (.ref x))) → W p l e R s m args below meth c H locs cells slots Q (F0 m (pc + 1) ls' rest)) : W p l e R s m args below meth c H locs cells slots Q (F0 m pc ls (.ref x :: rest)) := lv_astore_n hC.1 hC.2.1 hdg hi hl hn rfl (fun ls' h => kk ls' (LL.st1 h hp))
theorem g_astore_nN (hC : CX p s m args meth c cc nL own rt κ) (hl : LL ls nL vs) {k : Fin 4} {i : Nat} (hdg : decode cc pc = .ok (.astore_n k, 1)) (hi : (k : Nat) = i) (hn : i < nL) (hp : okp vs i = true) (kk : ∀ ls', LL ls' nL (vs.set i (some .null)) → W p l e R s m args below meth c H locs cells slots Q (F0 m (pc + 1) ls' rest)) : W p l e R s m args below meth c H locs cells slots Q (F0 m pc ls (.null :: rest)) := lv_astore_nN hC.1 hC.2.1 hdg hi hl hn rfl (fun ls' h => kk ls' (LL.st1 h hp))
theorem g_astore (hC : CX p s m args meth c cc nL own rt κ) (hl : LL ls nL vs) {i : Nat} {x : Nat} (hdg : decode cc pc = .ok (.astore i, 2)) (hn : i < nL) (hp : okp vs i = true) (kk : ∀ ls', LL ls' nL (vs.set i (some (.ref x))) → W p l e R s m args below meth c H locs cells slots Q (F0 m (pc + 2) ls' rest)) : W p l e R s m args below meth c H locs cells slots Q (F0 m pc ls (.ref x :: rest)) := lv_astore hC.1 hC.2.1 hdg hl hn rfl (fun ls' h => kk ls' (LL.st1 h hp))
theorem g_astoreN (hC : CX p s m args meth c cc nL own rt κ) (hl : LL ls nL vs) {i : Nat} (hdg : decode cc pc = .ok (.astore i, 2)) (hn : i < nL) (hp : okp vs i = true) (kk : ∀ ls', LL ls' nL (vs.set i (some .null)) → W p l e R s m args below meth c H locs cells slots Q (F0 m (pc + 2) ls' rest)) : W p l e R s m args below meth c H locs cells slots Q (F0 m pc ls (.null :: rest)) := lv_astoreN hC.1 hC.2.1 hdg hl hn rfl (fun ls' h => kk ls' (LL.st1 h hp))
theorem g_iinc (hC : CX p s m args meth c cc nL own rt κ) (hl : LL ls nL vs) {i : Nat} {n : Int} {x v : Int32} (hdg : decode cc pc = .ok (.iinc i n, 3)) (hx : vs[i]? = some (some (.int x))) (hv : x + Int32.ofInt n = v) (hn : i < nL) (hp : okp vs i = true) (kk : ∀ ls', LL ls' nL (vs.set i (some (.int v))) → W p l e R s m args below meth c H locs cells slots Q (F0 m (pc + 3) ls' rest)) : W p l e R s m args below meth c H locs cells slots Q (F0 m pc ls rest) := by
  obtain ⟨k, hk⟩ := List.getElem?_of_mem ((lz_mem vs 0 i (.int x)).mpr ⟨Nat.zero_le _, by simpa using hx⟩)
  exact lv_iinc (k := k) hC.1 hC.2.1 hdg hl hk hv hn rfl (fun ls' h => kk ls' (LL.st1 h hp))
end LOC
