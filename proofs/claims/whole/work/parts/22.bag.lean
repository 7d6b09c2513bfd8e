/-! the method bag: a receptacle is made -/
theorem wz_congr {ad : Nat → Nat} {C C2 : Nat → va_E} {n : Nat} (h : ∀ c, c < n → C c = C2 c) : wz ad C n = wz ad C2 n := by
  unfold wz
  apply List.map_congr_left
  intro c hc
  rw [h c (List.mem_range.mp hc)]
theorem kcI_same {κ κ2 : KK} {n : Nat} (h : kSame κ κ2 n) : kcI κ2 = kcI κ := by unfold kcI; rw [h.2.2.1]
theorem kcL_same {κ κ2 : KK} {n : Nat} (h : kSame κ κ2 n) : kcL κ2 = kcL κ := by unfold kcL; rw [h.2.2.1]
theorem kcZ_same {κ κ2 : KK} {n : Nat} (h : kSame κ κ2 n) : kcZ κ2 = kcZ κ := by unfold kcZ; rw [h.2.2.1]
theorem kcR_same {κ κ2 : KK} {n : Nat} (h : kSame κ κ2 n) : kcR κ2 = kcR κ := by unfold kcR; rw [h.2.2.1]
theorem kSame.trans {κ κ2 κ3 : KK} {n m : Nat} (h : kSame κ κ2 n) (h2 : kSame κ2 κ3 m) (hm : n ≤ m) : kSame κ κ3 n := ⟨h2.1.trans h.1, h2.2.1.trans h.2.1, h2.2.2.1.trans h.2.2.1, fun c hc => (h2.2.2.2 c (by omega)).trans (h.2.2.2 c hc)⟩
theorem kSame.mono {κ κ2 : KK} {n m : Nat} (h : kSame κ κ2 n) (hm : m ≤ n) : kSame κ κ2 m := ⟨h.1, h.2.1, h.2.2.1, fun c hc => h.2.2.2 c (by omega)⟩
theorem kSame_kup (κ : KK) (n q : Nat) : kSame κ (kup κ n q) n := ⟨rfl, rfl, rfl, fun c hc => by rw [kad_kup, if_neg (by omega)]⟩
theorem kT_same {κ κ2 : KK} {n : Nat} (h : kSame κ κ2 n) {U : State} (hK : va_K (kD κ) vwCl (kT κ) U) : va_K (kD κ2) vwCl (kT κ2) U := by
  unfold kT kD
  rw [kcI_same h, kcL_same h, kcZ_same h, kcR_same h, h.2.1]
  exact hK
set_option maxHeartbeats 4000000 in
theorem sh_same {κ κ2 : KK} {σ σ2 : ST} {F F2 : Nat → Nat → Int32} {th : Int32} {c : Nat} (hs : kSame κ κ2 (nn σ)) (hc : c < nn σ) (h0 : c ≠ 0) (h1 : c ≠ 1) (hI : sI σ2 c = sI σ c) (hJ : sJ σ2 c = sJ σ c) (hR : sR σ2 c = sR σ c) (hF : F2 c = F c) : sh κ2 σ2 F2 th c = sh κ σ F th c := by
  unfold sh
  rw [hI, hJ, hR, hF]
  have eI := kcI_same hs
  have eL := kcL_same hs
  have eZ := kcZ_same hs
  have hk : ∀ d, d < nn σ → kad κ2 d = kad κ d := hs.2.2.2
  by_cases h24 : c < 24
  · have k5 := hk 5 (nn_lt (by decide))
    have k7 := hk 7 (nn_lt (by decide))
    have k8 := hk 8 (nn_lt (by decide))
    have k9 := hk 9 (nn_lt (by decide))
    have k10 := hk 10 (nn_lt (by decide))
    have k11 := hk 11 (nn_lt (by decide))
    have k12 := hk 12 (nn_lt (by decide))
    have k13 := hk 13 (nn_lt (by decide))
    have k14 := hk 14 (nn_lt (by decide))
    have k15 := hk 15 (nn_lt (by decide))
    have k16 := hk 16 (nn_lt (by decide))
    have k17 := hk 17 (nn_lt (by decide))
    have k18 := hk 18 (nn_lt (by decide))
    have k19 := hk 19 (nn_lt (by decide))
    have k20 := hk 20 (nn_lt (by decide))
    have k21 := hk 21 (nn_lt (by decide))
    have k22 := hk 22 (nn_lt (by decide))
    have k23 := hk 23 (nn_lt (by decide))
    rcases (show c = 2 ∨ c = 3 ∨ c = 4 ∨ c = 5 ∨ c = 6 ∨ c = 7 ∨ c = 8 ∨ c = 9 ∨ c = 10 ∨ c = 11 ∨ c = 12 ∨ c = 13 ∨ c = 14 ∨ c = 15 ∨ c = 16 ∨ c = 17 ∨ c = 18 ∨ c = 19 ∨ c = 20 ∨ c = 21 ∨ c = 22 ∨ c = 23 by omega) with rfl | rfl | rfl | rfl | rfl | rfl | rfl | rfl | rfl | rfl | rfl | rfl | rfl | rfl | rfl | rfl | rfl | rfl | rfl | rfl | rfl | rfl <;> simp only [shc, eI, eL, eZ, k5, k7, k8, k9, k10, k11, k12, k13, k14, k15, k16, k17, k18, k19, k20, k21, k22, k23]
  · obtain ⟨d, rfl⟩ : ∃ d, c = d + 24 := ⟨c - 24, by omega⟩
    show shr κ2 (d % 13) (d + 24) _ _ _ _ = shr κ (d % 13) (d + 24) _ _ _ _
    unfold nn at hc
    unfold shr
    by_cases hd : d % 13 = 0
    · have k1 := hk (d + 24 + 1) (by unfold nn; omega)
      have k3 := hk (d + 24 + 3) (by unfold nn; omega)
      have k5 := hk (d + 24 + 5) (by unfold nn; omega)
      have k7 := hk (d + 24 + 7) (by unfold nn; omega)
      have k9 := hk (d + 24 + 9) (by unfold nn; omega)
      have k11 := hk (d + 24 + 11) (by unfold nn; omega)
      rw [if_pos hd, if_pos hd, k1, k3, k5, k7, k9, k11]
    · rw [if_neg hd, if_neg hd]
      by_cases h2 : d % 13 % 2 = 1
      · rw [if_pos h2, if_pos h2, hk (d + 24 + 1) (by unfold nn; omega)]
      · rw [if_neg h2, if_neg h2, eI]
def newR (σ : ST) (kd : Int32) : ST := (σ.1 + 1, va_up σ.2.1 (rb σ.1) (fun i => if i = 0 then kd else 0), va_up σ.2.2.1 (rb σ.1) (fun _ => 0), fun c => if rb σ.1 ≤ c then [] else sR σ c)
def xBag (σ : ST) (p : Int32) : Int32 × ST := if p < 0 ∨ 3 < p then (-12, σ) else if σ.1 < 60 then (1000 + nI (σ.1 + 1), newR σ p) else (-14, σ)
theorem rowsOK.newR {σ : ST} {F : Nat → Nat → Int32} (h : rowsOK σ F) (h60 : σ.1 < 60) (kd : Int32) : rowsOK (newR σ kd) (fun c => if rb σ.1 ≤ c then fun _ => 0 else F c) := by
  refine ⟨h60, fun k j hk hj => ?_⟩
  have hk : k < σ.1 + 1 := hk
  show ((if rb σ.1 ≤ rc k j then [] else sR σ (rc k j)) : List Int32).length ≤ capj j ∧ ∀ (i : Nat) (x : Int32), ((if rb σ.1 ≤ rc k j then [] else sR σ (rc k j)) : List Int32)[i]? = some x → _
  by_cases hr : rb σ.1 ≤ rc k j
  · rw [if_pos hr]
    exact ⟨Nat.zero_le _, fun i x hx => by simp at hx⟩
  · have hk2 : k < σ.1 := by unfold rb rc at hr; omega
    rw [if_neg hr]
    have h9 := h.2 k j hk2 hj
    refine ⟨h9.1, fun i x hx => ?_⟩
    have hr2 : ¬ rb σ.1 ≤ rc k j + 1 := by unfold rb rc at *; omega
    show (if rb σ.1 ≤ rc k j + 1 then fun _ => 0 else F (rc k j + 1)) i = x
    rw [if_neg hr2]
    exact h9.2 i x hx
theorem newWX {κ κ2 : KK} {σ : ST} {F : Nat → Nat → Int32} {th : Int32} {C2 : Nat → va_E} {H0 H : Heap} {locs : List Loc} {kd : Int32} (hR : rowsOK σ F) (h60 : σ.1 < 60) (hs : kSame κ κ2 (nn σ)) (hO : OR κ2 H0 C2 (nn σ + 13) H locs)
    (h0 : C2 0 = .inr (3, [.ref (kad κ 1), .int (nI (σ.1 + 1)), .ref (kad κ 2), .ref (kad κ 3), .ref (kad κ 4), .long (sJ σ 0 5)])) (h1 : C2 1 = .inl (kcR κ, 60, .inr (.inr (.inr (.inr (va_up (fun q => if q < σ.1 then some (kad κ (rb q)) else none) σ.1 (some (kad κ2 (nn σ)))))))))
    (hlo : ∀ c, c < nn σ → c ≠ 0 → c ≠ 1 → C2 c = sh κ σ F th c)
    (hr : C2 (nn σ) = .inr (1, [.int kd, .int 0, .int 0, .long 0, .int 0, .ref (kad κ2 (nn σ + 1)), .ref (kad κ2 (nn σ + 3)), .ref (kad κ2 (nn σ + 5)), .ref (kad κ2 (nn σ + 7)), .ref (kad κ2 (nn σ + 9)), .ref (kad κ2 (nn σ + 11))]))
    (hj : ∀ j, j < 6 → C2 (nn σ + 1 + 2 * j) = .inr (2, [.ref (kad κ2 (nn σ + 1 + 2 * j + 1)), .int 0]) ∧ C2 (nn σ + 1 + 2 * j + 1) = .inl (kcI κ, capj j, .inl (fun _ => 0)))
    {t : State} (ht : t.heap = H) (hK : va_K (kD κ) vwCl (kT κ) t) : WX κ2 (newR σ kd) t := by
  obtain ⟨hP, hA, hS, hz⟩ := hO
  refine ⟨kT_same hs hK, ⟨(fun c => if rb σ.1 ≤ c then fun _ => 0 else F c), th, hR.newR h60 kd, ?_⟩, ?_, ?_⟩
  · rw [ht]
    have e : nn (newR σ kd) = nn σ + 13 := by unfold nn newR; omega
    rw [e, ← wz_congr (ad := kad κ2) (C := C2) (n := nn σ + 13)]
    · exact hP
    intro c hc
    by_cases hlt : c < nn σ
    · by_cases hc0 : c = 0
      · subst hc0
        rw [h0]
        have k1 := hs.2.2.2 1 (nn_lt (by decide))
        have k2 := hs.2.2.2 2 (nn_lt (by decide))
        have k3 := hs.2.2.2 3 (nn_lt (by decide))
        have k4 := hs.2.2.2 4 (nn_lt (by decide))
        show (_ : va_E) = (Sum.inr (3, [.ref (kad κ2 1), .int (nI (σ.1 + 1)), .ref (kad κ2 2), .ref (kad κ2 3), .ref (kad κ2 4), .long (sJ (newR σ kd) 0 5)]) : va_E)
        rw [k1, k2, k3, k4]
        have e5 : sJ (newR σ kd) 0 5 = sJ σ 0 5 := by
          show va_up σ.2.2.1 (rb σ.1) (fun _ => 0) 0 5 = σ.2.2.1 0 5
          rw [va_up_ne _ _ (by unfold rb; omega)]
        rw [e5]
      · by_cases hc1 : c = 1
        · subst hc1
          rw [h1]
          show (_ : va_E) = (Sum.inl (kcR κ2, 60, .inr (.inr (.inr (.inr (fun q => if q < σ.1 + 1 then some (kad κ2 (rb q)) else none))))) : va_E)
          rw [kcR_same hs]
          have ef : va_up (fun q => if q < σ.1 then some (kad κ (rb q)) else none) σ.1 (some (kad κ2 (nn σ))) = fun q => if q < σ.1 + 1 then some (kad κ2 (rb q)) else none := by
            funext q
            by_cases hq : q = σ.1
            · subst hq
              rw [va_up_self, if_pos (by omega)]
              rfl
            · rw [va_up_ne _ _ hq]
              by_cases hq2 : q < σ.1
              · rw [if_pos hq2, if_pos (by omega), hs.2.2.2 (rb q) (nn_rb hq2)]
              · rw [if_neg hq2, if_neg (by omega)]
          rw [ef]
        · rw [hlo c hlt hc0 hc1]
          have hrb : ¬ rb σ.1 ≤ c := by unfold rb; unfold nn at hlt; omega
          have hne : c ≠ rb σ.1 := by unfold rb; unfold nn at hlt; omega
          refine (sh_same hs hlt hc0 hc1 ?_ ?_ ?_ ?_).symm
          · exact va_up_ne _ _ hne
          · exact va_up_ne _ _ hne
          · exact if_neg hrb
          · exact if_neg hrb
    · have hcases : c = nn σ ∨ ∃ j, j < 6 ∧ (c = nn σ + 1 + 2 * j ∨ c = nn σ + 1 + 2 * j + 1) := by
        by_cases hce : c = nn σ
        · exact Or.inl hce
        · exact Or.inr ⟨(c - nn σ - 1) / 2, by omega, by omega⟩
      rcases hcases with rfl | ⟨j, hj6, rfl | rfl⟩
      · rw [hr]
        have e9 := sh_rec κ2 (newR σ kd) (fun c => if rb σ.1 ≤ c then fun _ => 0 else F c) th σ.1
        have e8 : nn σ = rb σ.1 := rfl
        rw [e8, e9]
        have i0 : ∀ i, sI (newR σ kd) (rb σ.1) i = if i = 0 then kd else 0 := fun i => by show va_up σ.2.1 (rb σ.1) (fun i => if i = 0 then kd else 0) (rb σ.1) i = _; rw [va_up_self]
        have j0 : ∀ i, sJ (newR σ kd) (rb σ.1) i = 0 := fun i => by show va_up σ.2.2.1 (rb σ.1) (fun _ => 0) (rb σ.1) i = _; rw [va_up_self]
        rw [i0, i0, i0, i0, j0]
        rfl
      · rw [(hj j hj6).1]
        have e8 : nn σ + 1 + 2 * j = rc σ.1 j := by unfold nn rc; omega
        rw [e8, sh_row _ _ _ _ _ hj6]
        have er : sR (newR σ kd) (rc σ.1 j) = [] := if_pos (by unfold rb rc; omega)
        rw [er]
        rfl
      · rw [(hj j hj6).2]
        have e8 : nn σ + 1 + 2 * j = rc σ.1 j := by unfold nn rc; omega
        rw [e8, sh_arr _ _ _ _ _ hj6, kcI_same hs]
        have er : (if rb σ.1 ≤ rc σ.1 j + 1 then fun _ => 0 else F (rc σ.1 j + 1)) = fun _ : Nat => (0 : Int32) := if_pos (by unfold rb rc; omega)
        rw [er]
  · have e : nn (newR σ kd) = nn σ + 13 := by unfold nn newR; omega
    rw [e]
    exact hA
  · rw [ht]
    exact Nat.le_trans hz hS.1
theorem r_iret {S : Type} {post : Int32 → S → Prop} {B : S → State → Prop} {p : Program} {l : Launch} {e : Env} {R : Room} {s : State} {m : MethodId} {args : Array Value} {below : List Frame} {meth : Method} {c : Code} {H : Heap} {locs : List Loc} {cells slots : Nat} {cc : ByteArray} {nL : Nat} {own : String} {κ κ2 : KK} {pc n2 : Nat} {ls : Array Slot} {C2 : Nat → va_E} {x : Int32} (u : S) (hC : CX p s m args meth c cc nL own (some .int) κ) (hO : OR κ2 s.heap C2 n2 H locs) (hs : kS κ2 = kS κ) (hdg : decode cc pc = .ok (.ireturn, 1)) (hpost : post x u) (hB : ∀ t : State, t.heap = H → va_K (kD κ) vwCl (kT κ) t → B u t) : W p l e R s m args below meth c H locs cells slots (MQ below (va_Qi post B (FA κ)) args s cells slots (FA κ)) (F0 m pc ls [.int x]) := by
  have hS : va_S (FA κ) s.heap H locs := by
    have h := hO.2.2.1
    unfold FA at h ⊢
    rw [← hs]
    exact h
  exact W.iret (hlocks := hC.2.2.2.2.2.2.1) hC.1 hC.2.1 hC.2.2.2.2.2.2.2 (fun t ht hW => ⟨⟨x, u, rfl, hpost, hB t ht (va_K.moved hW.alike hC.2.2.2.2.2.1)⟩, hS.F ht⟩) hS.2.2 hdg
theorem OS.or {κ : KK} {H0 : Heap} {σ : ST} {F : Nat → Nat → Int32} {th : Int32} {H : Heap} {locs : List Loc} (h : OS κ H0 σ F th H locs) : OR κ H0 (sh κ σ F th) (nn σ) H locs := ⟨h.2.1, h.2.2.1, h.2.2.2.1, h.2.2.2.2⟩
theorem g_metN {l : Launch} {y : MethodName} {cc : ByteArray} {mx : Nat} {ret : Option FieldType} {rm : Room} {As : List Value} {Qc : Array Value → State → Outcome → State → Prop} {own : String} {κ : KK} {σ : ST} {mc ms : Nat} (r : Nat) (hy : plainName y.cls = true) (hc : y.cls = own) (hlen : (lg_sl As).length ≤ mx)
    (body : ∀ (p : Program) (e : Env) (s : State) (m : MethodId) (args : Array Value) (below : List Frame) (meth : Method) (c : Code), CX p s m args meth c cc mx own ret κ → ∀ (F : Nat → Nat → Int32) (th : Int32), OS κ s.heap σ F th s.heap [] → ∀ ls : Array Slot, LL ls mx (lo As ++ List.replicate r none) → W p l e rm s m args below meth c s.heap [] 0 0 (MQ below Qc args s mc ms (FA κ)) (F0 m 0 ls [])) : Met l y (wA y cc mx ret) rm (va_Pc As (WX κ σ)) Qc mc ms (FA κ) := by
  refine Met.ofW (cc := cc) (maxL := mx) (ret := ret) hy rfl ?_
  intro p e s m args below meth c s₁ B hml hv
  obtain ⟨rfl, hK, ⟨F, th, h1, h2⟩, h3, h4⟩ := hv
  have hts := atoms_spec (ws := wA y cc mx ret) B.pre
  have hown : s.vm.findClass own = some m.cls := by rw [← hc]; exact findClass_of_methodNamed B.named
  have hl := lv_entry As (n := mx) hlen
  rw [lg_entry_eq]
  refine body p e s m _ below meth c ⟨B.exec, B.bytes, hml, hown, fun w hw => hts w (List.mem_cons_of_mem _ hw), hK, B.notSynchronized, B.returns⟩ F th ⟨h1, h2, h3, va_S.rf, h4⟩ _ ?_
  show lv_has _ _ _
  rw [lz_lo]
  exact hl
set_option maxHeartbeats 4000000 in
set_option maxRecDepth 100000 in
theorem c_X3_bag (l : Launch) (κ : KK) (σ : ST) (p0 : Int32) : Met l yX3_bag (wA yX3_bag cX3_bag 3 (some .int)) ({ frames := 3, cells := 13, slots := 78, locals := 60 }) (va_Pc [.ref (kad κ 0), .int p0] (WX κ σ)) (va_Qi (fun (r : Int32) (u : KK × ST) => kSame κ u.1 (nn σ) ∧ (r, u.2) = xBag σ p0) (fun u t => WX u.1 u.2 t) (FA κ)) 13 78 (FA κ) := by
  refine g_metN 1 (by decide) rfl (Nat.le_of_ble_eq_true rfl) ?_
  intro p e s m args below meth c hC F th hO ls hl
  have hl : LL ls 3 [some (.ref (kad κ 0)), some (.int p0), none] := hl
  have h60 := hO.1.1
  have hno : ∀ (H : Heap) (locs : List Loc), OS κ s.heap σ F th H locs → ∀ (x : Int32) (pc : Nat) (ls : Array Slot), decode cX3_bag pc = .ok (.ireturn, 1) → (x, σ) = xBag σ p0 → W p l e ({ frames := 3, cells := 13, slots := 78, locals := 60 }) s m args below meth c H locs 0 0 (MQ below (va_Qi (fun (r : Int32) (u : KK × ST) => kSame κ u.1 (nn σ) ∧ (r, u.2) = xBag σ p0) (fun u t => WX u.1 u.2 t) (FA κ)) args s 13 78 (FA κ)) (F0 m pc ls [.int x]) := by
    intro H locs hO x pc ls hd hx
    refine W.widen (k := 13) (n := 78) (Nat.zero_le _) (Nat.zero_le _) ?_
    exact r_iret (κ, σ) hC hO.or rfl hd ⟨kSame.refl κ _, hx⟩ (fun t ht hK => hO.wx ht hK)
  refine g_iload_n hC hl dX3_bag_0 rfl rfl ?_
  refine lv_if_lt (tgt := 9) hC.1 hC.2.1 dX3_bag_1 (by decide) (fun c_1 => ?_) (fun c_1 => ?_)
  · refine lv_bipush (v := (-12)) hC.1 hC.2.1 dX3_bag_9 (by decide) ?_
    exact hno _ _ hO _ _ _ dX3_bag_11 (by unfold xBag; rw [if_pos (Or.inl c_1)])
  refine g_iload_n hC hl dX3_bag_4 rfl rfl ?_
  refine lv_iconst (v := 3) hC.1 hC.2.1 dX3_bag_5 (by decide) ?_
  refine lv_icmp_le (tgt := 12) hC.1 hC.2.1 dX3_bag_6 (by decide) (fun c_2 => ?_) (fun c_2 => ?_)
  rotate_left
  · refine lv_bipush (v := (-12)) hC.1 hC.2.1 dX3_bag_9 (by decide) ?_
    exact hno _ _ hO _ _ _ dX3_bag_11 (by unfold xBag; rw [if_pos (Or.inr (Int32.not_le.mp c_2))])
  have hkd : ¬ (p0 < 0 ∨ 3 < p0) := fun h => by
    rcases h with h | h
    · exact c_1 h
    · exact absurd c_2 (Int32.not_le.mpr h)
  refine g_aload_n hC hl dX3_bag_12 rfl rfl ?_
  refine g_get (ci := 3) (k := 1) (fs := [.ref (kad κ 1), .int (nI σ.1), .ref (kad κ 2), .ref (kad κ 3), .ref (kad κ 4), .long (sJ σ 0 5)]) hC hO rfl inX3 (by decide) q_fl_RX3_29 (nn_lt (by decide)) rfl rfl dX3_bag_13 ?_
  refine g_istore_n hC hl dX3_bag_16 rfl (Nat.le_of_ble_eq_true rfl) rfl (fun ls hl => ?_)
  have hl : LL ls 3 [some (.ref (kad κ 0)), some (.int p0), some (.int (nI σ.1))] := hl
  refine g_iload_n hC hl dX3_bag_17 rfl rfl ?_
  refine lv_if_lt (tgt := 30) hC.1 hC.2.1 dX3_bag_18 (by decide) (fun c_3 => absurd c_3 (nI_pos (by omega))) (fun _ => ?_)
  refine g_iload_n hC hl dX3_bag_21 rfl rfl ?_
  refine g_aload_n hC hl dX3_bag_22 rfl rfl ?_
  refine g_get (ci := 3) (k := 0) (fs := [.ref (kad κ 1), .int (nI σ.1), .ref (kad κ 2), .ref (kad κ 3), .ref (kad κ 4), .long (sJ σ 0 5)]) hC hO rfl inX3 (by decide) q_fl_RX3_11 (nn_lt (by decide)) rfl rfl dX3_bag_23 ?_
  refine g_alenR (v := nI 60) hC hO (nn_lt (by decide)) rfl rfl dX3_bag_26 ?_
  refine lv_icmp_lt (tgt := 33) hC.1 hC.2.1 dX3_bag_27 (by decide) (fun c_3 => ?_) (fun c_3 => ?_)
  rotate_left
  · rw [nI_ltI (by omega) (by omega)] at c_3
    refine lv_bipush (v := (-14)) hC.1 hC.2.1 dX3_bag_30 (by decide) ?_
    exact hno _ _ hO _ _ _ dX3_bag_32 (by unfold xBag; rw [if_neg hkd, if_neg c_3])
  rw [nI_ltI (by omega) (by omega)] at c_3
  refine g_aload_n hC hl dX3_bag_33 rfl rfl ?_
  refine g_get (ci := 3) (k := 0) (fs := [.ref (kad κ 1), .int (nI σ.1), .ref (kad κ 2), .ref (kad κ 3), .ref (kad κ 4), .long (sJ σ 0 5)]) hC hO rfl inX3 (by decide) q_fl_RX3_11 (nn_lt (by decide)) rfl rfl dX3_bag_34 ?_
  refine g_iload_n hC hl dX3_bag_37 rfl rfl ?_
  have hR := hO.1
  have hO := hO.or
  obtain ⟨C0, hC0⟩ : ∃ C0, C0 = sh κ σ F th := ⟨_, rfl⟩
  rw [← hC0] at hO
  have n24 : 24 ≤ nn σ := by unfold nn; omega
  refine r_new (ci := 1) (fs := [.int 0, .int 0, .int 0, .long 0, .int 0, .null, .null, .null, .null, .null, .null]) hC hO rfl inX1 tyX1_ok q_cl_RX3_9 q_in_RX1 q_ini_RX1 (fun j hj => by rcases (show j = 0 ∨ j = 1 ∨ j = 2 ∨ j = 3 ∨ j = 4 ∨ j = 5 ∨ j = 6 ∨ j = 7 ∨ j = 8 ∨ j = 9 ∨ j = 10 by omega) with rfl | rfl | rfl | rfl | rfl | rfl | rfl | rfl | rfl | rfl | rfl <;> rfl) (Nat.le_of_ble_eq_true rfl) (Nat.le_of_ble_eq_true rfl) dX3_bag_38 (fun q H hO => ?_)
  refine lv_dup hC.1 hC.2.1 dX3_bag_41 rfl ?_
  refine g_iload_n hC hl dX3_bag_42 rfl rfl ?_
  refine r_cI (As := [.int p0]) (hC.kup (nn σ) q) hO hl (k_X1_init l _ _ (nn σ + 1) (nn σ) q p0 (by omega) (by rw [kad_kup, if_pos rfl]) (by rw [va_up_self])) mi_X1_init rfl q_ml_RX3_33 (fun U g mk a h => ⟨h.1.blind g mk a, trivial⟩) (fun U hU _ hK => ⟨hO.wr hU hK, trivial⟩) rfl rfl rfl ⟨Nat.le_of_ble_eq_true rfl, Nat.le_of_ble_eq_true rfl⟩ (Nat.le_of_ble_eq_true rfl) ⟨Nat.le_of_ble_eq_true rfl, Nat.le_of_ble_eq_true rfl⟩ dX3_bag_43 (fun u t H locs ht hp hB hS => ?_)
  obtain ⟨hs, hlo, hr, hj⟩ := hp
  obtain ⟨κ2, C2⟩ := u
  have hs : kSame (kup κ (nn σ) q) κ2 (nn σ + 1) := hs
  have hO := OR.back (κ2 := κ2) hO hs.1 ht hB hS
  have hs0 : kSame κ κ2 (nn σ) := (kSame_kup κ (nn σ) q).trans hs (by omega)
  have hK2 := hC.same hs0
  have hq : kad κ2 (nn σ) = q := by rw [hs.2.2.2 (nn σ) (by omega), kad_kup, if_pos rfl]
  have hlo2 : ∀ c, c < nn σ → C2 c = sh κ σ F th c := fun c hc => by
    have h9 : C2 c = _ := hlo c (by omega) (by omega)
    rw [h9, va_up_ne _ _ (by omega), hC0]
  have e1 : C2 1 = .inl (kcR κ2, 60, .inr (.inr (.inr (.inr (fun q => if q < σ.1 then some (kad κ (rb q)) else none))))) := by
    rw [hlo2 1 (by omega), kcR_same hs0]
    rfl
  have e0 : C2 0 = .inr (3, [.ref (kad κ 1), .int (nI σ.1), .ref (kad κ 2), .ref (kad κ 3), .ref (kad κ 4), .long (sJ σ 0 5)]) := by
    rw [hlo2 0 (by omega)]
    rfl
  refine r_aast (co := 1) (cv := nn σ) (ci := 1) hK2 hO (hs0.2.2.2 1 (by omega)) hq (by omega) (by omega) e1 rfl hr (vp_in_nI (by omega) (by omega)) dX3_bag_46 (fun H locs hO => ?_)
  rw [nI_clamp (by omega)] at hO
  refine g_aload_n hC hl dX3_bag_47 rfl rfl ?_
  refine g_iload_n hC hl dX3_bag_48 rfl rfl ?_
  refine lv_iconst (v := 1) hC.1 hC.2.1 dX3_bag_49 (by decide) ?_
  refine lv_iadd hC.1 hC.2.1 dX3_bag_50 ?_
  rw [nI_1]
  refine r_put (co := 0) (ci := 3) (k := 1) (fs := [.ref (kad κ 1), .int (nI σ.1), .ref (kad κ 2), .ref (kad κ 3), .ref (kad κ 4), .long (sJ σ 0 5)]) hK2 hO (hs0.2.2.2 0 (by omega)) rfl inX3 tyX3_ok nmX3 (by decide) q_fl_RX3_29 rfl (by omega) (by rw [va_up_ne _ _ (by decide)]; exact e0) (Nat.le_of_ble_eq_true rfl) rfl rfl dX3_bag_51 (fun H locs hO => ?_)
  refine lv_sipush (v := 1000) hC.1 hC.2.1 dX3_bag_54 (by decide) ?_
  refine g_aload_n hC hl dX3_bag_57 rfl rfl ?_
  refine r_get (co := 0) (ci := 3) (k := 1) (v := .int (nI (σ.1 + 1))) hK2 hO (hs0.2.2.2 0 (by omega)) rfl inX3 (by decide) q_fl_RX3_29 (by omega) (by rw [va_up_self]) rfl dX3_bag_58 ?_
  refine lv_iadd hC.1 hC.2.1 dX3_bag_61 ?_
  refine r_iret (κ2, newR σ p0) hC hO hs0.1 dX3_bag_62 ⟨hs0, by unfold xBag; rw [if_neg hkd, if_pos c_3]⟩ (fun t ht hK => ?_)
  refine newWX (th := th) (kd := p0) hR c_3 hs0 (H := H) hO ?_ ?_ ?_ ?_ ?_ ht hK
  · rw [va_up_self]
    rfl
  · rw [va_up_ne _ _ (by decide), va_up_self, kcR_same hs0, hq]
  · intro c hc h0 h1
    rw [va_up_ne _ _ h0, va_up_ne _ _ h1]
    exact hlo2 c hc
  · rw [va_up_ne _ _ (by omega), va_up_ne _ _ (by omega)]
    exact hr
  · intro j hj6
    rw [va_up_ne _ _ (by omega), va_up_ne _ _ (by omega), va_up_ne _ _ (by omega), va_up_ne _ _ (by omega)]
    have h9 := hj j hj6
    have e9 : kcI (kup κ (nn σ) q) = kcI κ := rfl
    exact h9
