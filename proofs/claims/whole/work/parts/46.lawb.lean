/-! THE CLAIM OUT OF ONE WALK OF THE LAW'S BODY. Your part is whole_start (and what it stands on); all else here is the same for every law, but numbers. -/
def R_law : String := "BagRowsLaw"
def lw_P (b : Addr) (xs : List Int32) (args : Array Value) (s : State) : Prop := args = #[.ref b] ∧ s.IntsAt b xs ∧ xs.length ≤ 3072 ∧ (Jvm.Cond.and given_1 narrow_1).before args s = true
def lw_Q (_ : Array Value) (s : State) (o : Outcome) (t : State) : Prop := o = .returned (some (.int 1)) ∧ Framed s o t [] 600000 7302250
def lw_Z (below : List Frame) (a : Array Value) (s : State) : State → Prop := fun t => ∃ o, t.status = .running ∧ Ended t below o ∧ lw_Q a s o t
/-- the law's own end, with 1 on the stack, nothing written that was there before, its room as the claim has it -/
theorem lw_ret {p : Program} {l : Launch} {e : Env} {s : State} {m : MethodId} {below : List Frame} {meth : Method} {c : Code} {b : Nat} (hx : p.tables.exec = Jvm.exec) (hb : c.code = code) (hr : meth.sig.returnType = ret) (hlocks : meth.locks = false) {pc : Nat} {H : Heap} {ls : Array Slot} (hdg : decode code pc = .ok (.ireturn, 1)) : W p l e room_1 s m #[Value.ref b] below meth c H [] 600000 7302250 (lw_Z below #[Value.ref b] s) (F0 m pc ls [.int 1]) := by
  intro T hT X
  obtain ⟨fs, hret, hrun, hended, hW, hframe⟩ := X.leave (v := some (.int 1)) (hlocks := hlocks) (fun h => by rw [hr] at h; cases h)
  have hmeth' : T.vm.method? m = some meth := X.method'
  refine ⟨T.setFrames fs, ?_, .returned (some (.int 1)), hrun, hended, rfl, ⟨_, rfl⟩, hW, hframe⟩
  jvm_step X.here [X.here.top, hx, hb, hdg, hmeth', hr, ret, narrow_b1]
  (try refine ⟨rfl, ?_⟩); (try refine ⟨rfl, ?_⟩)
  first | (intro acts; rw [hret _ acts rfl rfl rfl]) | rw [hret _ _ rfl rfl rfl]
  exact Steps.refl _
/-- what holds at the law's entry: the machine, the code, the tables' words (any of lw_tbl by 'hts w (by decide +kernel)'), the script of L ints xs at the cell b, what the Statement gives of the start (any of its parts by flat_of_before) -/
def lw_At (p : Program) (s : State) (m : MethodId) (meth : Method) (c : Code) (b L : Nat) (xs : Nat → Int32) : Prop :=
  p.tables.exec = Jvm.exec ∧ c.code = code ∧ meth.sig.returnType = ret ∧ c.maxLocals = 4 ∧ s.vm.findClass R_law = some m.cls ∧ (∀ w ∈ lw_tbl, w.before #[Value.ref b] s = true) ∧ va_X b L xs s s.heap ∧ b < s.heap.size ∧ meth.locks = false ∧ (Jvm.Cond.and given_1 narrow_1).before #[Value.ref b] s = true
/-! the law: what its frame knows at the start, and its arguments out of the script -/
theorem ar_known {s : State} {args : Array Value} {ty : FieldType} (hnr : ∀ C, ty ≠ .object C) (h : (Cond.arrayClass ty).before args s = true) : ∃ cA, ArrOfT s cA ty ∧ va_RA s cA ty := by
  obtain ⟨cA, kA, comp, h1, h2, h3⟩ := Cond.arrayClass_spec h
  refine ⟨cA, fun n z => ⟨fun k h => (by cases h), kA, h2, comp, h3⟩, ?_⟩
  cases ty <;> first | exact h1 | exact absurd rfl (hnr _)
theorem ar_obj {s : State} {args : Array Value} {C : String} (h : (Cond.arrayOver (.object C)).before args s = true) : ∃ cA, ArrOfT s cA (.object C) ∧ va_RA s cA (.object C) := by
  obtain ⟨comp, c, k, h1, h2, h3, h4, h5⟩ := Cond.arrayOver_spec h
  exact ⟨c, fun n z => ⟨fun k h => (by cases h), k, h3, comp, h4⟩, k, comp, h3, h4, h1, h5⟩
theorem cl_known {s : State} {args : Array Value} (hts : ∀ w ∈ lw_g, w.before args s = true) : ∃ D : va_G, ∀ (k : Nat) (q : vw_C), vwCl[k]? = some q → u_Kn s q.1 q.2.1 q.2.2 (D.1 k) (D.2 k) := by
  obtain ⟨c0, i0, h0⟩ := u_known (C := RX0) (T := TX0) (N := 3) (n := 3) hts inX0 (hts _ q_in_RX0)
  obtain ⟨c1, i1, h1⟩ := u_known (C := RX1) (T := TX1) (N := 11) (n := 11) hts inX1 (hts _ q_in_RX1)
  obtain ⟨c2, i2, h2⟩ := u_known (C := RX2) (T := TX2) (N := 2) (n := 2) hts inX2 (hts _ q_in_RX2)
  obtain ⟨c3, i3, h3⟩ := u_known (C := RX3) (T := TX3) (N := 6) (n := 6) hts inX3 (hts _ q_in_RX3)
  obtain ⟨c4, i4, h4⟩ := u_known (C := RX4) (T := TX4) (N := 23) (n := 23) hts inX4 (hts _ q_in_RX4)
  refine ⟨(fun k => if k = 0 then c0 else if k = 1 then c1 else if k = 2 then c2 else if k = 3 then c3 else c4, fun k => if k = 0 then i0 else if k = 1 then i1 else if k = 2 then i2 else if k = 3 then i3 else i4), ?_⟩
  intro k q hq
  match k, hq with
  | 0, hq => cases hq; exact h0
  | 1, hq => cases hq; exact h1
  | 2, hq => cases hq; exact h2
  | 3, hq => cases hq; exact h3
  | 4, hq => cases hq; exact h4
  | k + 5, hq => simp [vwCl] at hq
theorem la_and15 (x : Int32) : ∃ k, k < 16 ∧ x &&& 15 = nI k := by
  have e : x = nI x.toBitVec.toNat := by
    apply Int32.toBitVec_inj.1
    show x.toBitVec = BitVec.ofNat 32 x.toBitVec.toNat
    simp
  refine ⟨x.toBitVec.toNat % 16, Nat.mod_lt _ (by omega), ?_⟩
  have h : ∀ k : Nat, nI k &&& 15 = nI (k % 16) := by
    intro k
    apply Int32.toBitVec_inj.1
    show BitVec.ofNat 32 k &&& BitVec.ofNat 32 15 = BitVec.ofNat 32 (k % 16)
    rw [show k % 16 = k &&& 15 from (Nat.and_two_pow_sub_one_eq_mod k 4).symm]
    apply BitVec.eq_of_getLsbD_eq
    intro i hi
    simp [hi]
  rw [← h, ← e]
theorem la_gt {L j : Nat} (hL : L ≤ 3072) (hj : 6 * j ≤ 3072) : nI L - 6 < nI (6 * j) ↔ L < 6 * j + 6 := by
  rw [Int32.lt_iff_toInt_lt]
  have e1 : (nI (6 * j)).toInt = ((6 * j : Nat) : Int) := nI_toInt (by omega)
  have e2 : (nI L - 6).toInt = (L : Int) - 6 := by
    by_cases h : 6 ≤ L
    · rw [show (6 : Int32) = nI 6 from rfl, pk_sub h, nI_toInt (by omega)]
      omega
    · rcases (show L = 0 ∨ L = 1 ∨ L = 2 ∨ L = 3 ∨ L = 4 ∨ L = 5 by omega) with rfl | rfl | rfl | rfl | rfl | rfl <;> decide
  rw [e1, e2]
  omega
/-- a script's two ints as a long -/
def lJ (a b : Int32) : Int64 := (a.toInt64 <<< ((32 : Int32).toInt64 &&& 63)) ||| (b.toInt64 &&& 4294967295)
/-- the law's frame: the classes' words, the script, our cells begin behind all that was -/
def LW (p : Program) (s : State) (m : MethodId) (meth : Method) (c : Code) (b L : Nat) (xs : Nat → Int32) (κ : KK) : Prop := CX p s m #[Value.ref b] meth c cL_law 4 RL ret κ ∧ va_X b L xs s s.heap ∧ b < s.heap.size ∧ kS κ = s.heap.size ∧ L ≤ 3072
def LV (b x1 x2 j : Nat) : List (Option Value) := [some (.ref b), some (.ref x1), some (.ref x2), some (.int (nI (6 * j)))]
section LAWA
variable {p : Program} {l : Launch} {e : Env} {R : Room} {s : State} {m : MethodId} {b : Nat} {below : List Frame} {meth : Method} {c : Code} {H : Heap} {locs : List Loc} {cells slots : Nat} {Q : State → Prop}
variable {L : Nat} {xs : Nat → Int32} {κ : KK} {pc j : Nat} {ls : Array Slot} {rest : List Value} {x1 x2 : Nat}
theorem LW.nb (h : LW p s m meth c b L xs κ) : ¬ FA κ b := fun q => by
  have q : kS κ ≤ b := q
  rw [h.2.2.2.1] at q
  exact absurd h.2.2.1 (Nat.not_lt.mpr q)
theorem LW.same {κ2 : KK} {n : Nat} (h : LW p s m meth c b L xs κ) (hs : kSame κ κ2 n) : LW p s m meth c b L xs κ2 := ⟨h.1.same hs, h.2.1, h.2.2.1, (show kS κ2 = kS κ from hs.1).trans h.2.2.2.1, h.2.2.2.2⟩
theorem law_ld (hW : LW p s m meth c b L xs κ) (hS : va_S (FA κ) s.heap H locs) (hl : LL ls 4 (LV b x1 x2 j)) (hj : 6 * j + 6 ≤ L) (k : Nat) (hk : k < 6) {x : Int} (d0 : decode cL_law pc = .ok (.aload_n 0, 1)) (d1 : decode cL_law (pc + 1) = .ok (.iload_n 3, 1)) (d2 : decode cL_law (pc + 2) = .ok (.iconst x, 1)) (hx : Int32.ofInt x = nI k) (d3 : decode cL_law (pc + 3) = .ok (.iadd, 1)) (d4 : decode cL_law (pc + 4) = .ok (.iaload, 1))
    (kk : W p l e R s m #[Value.ref b] below meth c H locs cells slots Q (F0 m (pc + 5) ls (.int (xs (6 * j + k)) :: rest))) : W p l e R s m #[Value.ref b] below meth c H locs cells slots Q (F0 m pc ls rest) := by
  have hC := hW.1
  have h3 := hW.2.2.2.2
  refine g_aload_n hC hl d0 rfl rfl ?_
  refine g_iload_n hC hl d1 rfl rfl ?_
  refine lv_iconst (v := nI k) hC.1 hC.2.1 d2 hx ?_
  refine lv_iadd hC.1 hC.2.1 d3 ?_
  rw [nI_add]
  refine va_sld hC.1 hC.2.1 hW.2.1 hW.2.2.1 hW.nb hS (vp_in_nI (by omega) (by omega)) d4 ?_
  rw [nI_clamp (by omega)]
  exact kk
theorem law_l0 (hW : LW p s m meth c b L xs κ) (hS : va_S (FA κ) s.heap H locs) (hl : LL ls 4 (LV b x1 x2 j)) (hj : 6 * j + 6 ≤ L) (d0 : decode cL_law pc = .ok (.aload_n 0, 1)) (d1 : decode cL_law (pc + 1) = .ok (.iload_n 3, 1)) (d2 : decode cL_law (pc + 2) = .ok (.iaload, 1))
    (kk : W p l e R s m #[Value.ref b] below meth c H locs cells slots Q (F0 m (pc + 3) ls (.int (xs (6 * j)) :: rest))) : W p l e R s m #[Value.ref b] below meth c H locs cells slots Q (F0 m pc ls rest) := by
  have hC := hW.1
  have h3 := hW.2.2.2.2
  refine g_aload_n hC hl d0 rfl rfl ?_
  refine g_iload_n hC hl d1 rfl rfl ?_
  refine va_sld hC.1 hC.2.1 hW.2.1 hW.2.2.1 hW.nb hS (vp_in_nI (by omega) (by omega)) d2 ?_
  rw [nI_clamp (by omega)]
  exact kk
theorem law_lj (hW : LW p s m meth c b L xs κ) (hS : va_S (FA κ) s.heap H locs) (hl : LL ls 4 (LV b x1 x2 j)) (hj : 6 * j + 6 ≤ L) (k : Nat) (hk : k + 1 < 6) {x y : Int} (d0 : decode cL_law pc = .ok (.aload_n 0, 1)) (d1 : decode cL_law (pc + 1) = .ok (.iload_n 3, 1)) (d2 : decode cL_law (pc + 2) = .ok (.iconst x, 1)) (hx : Int32.ofInt x = nI k) (d3 : decode cL_law (pc + 3) = .ok (.iadd, 1)) (d4 : decode cL_law (pc + 4) = .ok (.iaload, 1)) (d5 : decode cL_law (pc + 5) = .ok (.i2l, 1)) (d6 : decode cL_law (pc + 6) = .ok (.bipush 32, 2)) (d8 : decode cL_law (pc + 8) = .ok (.lshl, 1))
    (d9 : decode cL_law (pc + 9) = .ok (.aload_n 0, 1)) (d10 : decode cL_law (pc + 10) = .ok (.iload_n 3, 1)) (d11 : decode cL_law (pc + 11) = .ok (.iconst y, 1)) (hy : Int32.ofInt y = nI (k + 1)) (d12 : decode cL_law (pc + 12) = .ok (.iadd, 1)) (d13 : decode cL_law (pc + 13) = .ok (.iaload, 1)) (d14 : decode cL_law (pc + 14) = .ok (.i2l, 1)) (d15 : decode cL_law (pc + 15) = .ok (.ldc2_w 27, 3)) (d18 : decode cL_law (pc + 18) = .ok (.land, 1)) (d19 : decode cL_law (pc + 19) = .ok (.lor, 1))
    (kk : W p l e R s m #[Value.ref b] below meth c H locs cells slots Q (F0 m (pc + 20) ls (.long (lJ (xs (6 * j + k)) (xs (6 * j + (k + 1)))) :: rest))) : W p l e R s m #[Value.ref b] below meth c H locs cells slots Q (F0 m pc ls rest) := by
  have hC := hW.1
  refine law_ld hW hS hl hj k (by omega) d0 d1 d2 hx d3 d4 ?_
  refine lv_i2l hC.1 hC.2.1 d5 rfl ?_
  refine lv_bipush (v := 32) hC.1 hC.2.1 d6 (by decide) ?_
  refine lv_lshl hC.1 hC.2.1 d8 rfl ?_
  refine law_ld (pc := pc + 9) hW hS hl hj (k + 1) hk d9 d10 d11 hy d12 d13 ?_
  refine lv_i2l hC.1 hC.2.1 d14 rfl ?_
  refine lv_ldc2 hC.1 hC.2.1 hC.2.2.2.1 (hC.2.2.2.2.1 _ q_kl_RL_27) d15 ?_
  refine lv_land hC.1 hC.2.1 d18 ?_
  refine lv_lor hC.1 hC.2.1 d19 ?_
  exact kk
/-- what a turn's calls go on with -/
def LK (p : Program) (l : Launch) (e : Env) (s : State) (m : MethodId) (b : Nat) (below : List Frame) (meth : Method) (c : Code) (Q : State → Prop) (L : Nat) (xs : Nat → Int32) (κ : KK) (j cells slots : Nat) (ls : Array Slot) : Prop := ∀ (κ2 : KK) (σ2 : ST) (F2 : Nat → Nat → Int32) (th2 : Int32) (H2 : Heap) (locs2 : List Loc), LW p s m meth c b L xs κ2 → kad κ2 0 = kad κ 0 → kad κ2 6 = kad κ 6 → OS κ2 s.heap σ2 F2 th2 H2 locs2 → Inv (j + 1) σ2 → IFr σ2 → W p l e room_1 s m #[Value.ref b] below meth c H2 locs2 (cells + 13) (slots + 78) Q (F0 m 639 ls [])
end LAWA
