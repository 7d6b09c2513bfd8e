set_option maxHeartbeats 4000000 in
set_option maxRecDepth 100000 in
/-- isBag -/
theorem c_X4_isBag (l : Launch) (κ : KK) (σ : ST) (hM : MB σ) (p0 : Int32) : Met l yX4_isBag (wA yX4_isBag cX4_isBag 2 (some .boolean)) ({ frames := 0, cells := 0, slots := 0, locals := 0 }) (va_Pc [.ref (kad κ 6), .int p0] (WX κ σ)) (va_Qi (fun r σ' => σ = σ' ∧ r = bI (recOf σ p0).isSome) (WX κ) (FA κ)) 0 0 (FA κ) := by
  refine g_met 0 (by decide) rfl (Nat.le_of_ble_eq_true rfl) ?_
  intro p e s m args below meth c hC F th hO ls hl
  have hl : LL ls 2 [some _, some _] := hl
  have h60 := hM.2.1
  refine g_iload_n hC hl dX4_isBag_0 rfl rfl ?_
  refine lv_sipush (v := 1000) hC.1 hC.2.1 dX4_isBag_1 (by decide) ?_
  refine lv_icmp_le (tgt := 23) hC.1 hC.2.1 dX4_isBag_4 (by decide) (fun c_1 => ?_) (fun c_1 => ?_)
  · skip
    have h9 : (recOf σ p0).isSome = false := by rw [recOf_le (Int32.not_lt.mpr c_1)]; rfl
    refine lv_iconst (v := 0) hC.1 hC.2.1 dX4_isBag_23 (by decide) ?_
    exact g_zret hC hO dX4_isBag_24 (by decide) (⟨rfl, by first | exact bI_t h9 | exact bI_f h9⟩)
  · skip
    obtain ⟨j, hj, rfl⟩ := gt1000 (Int32.not_le.mp c_1)
    refine g_iload_n hC hl dX4_isBag_7 rfl rfl ?_
    refine lv_sipush (v := 1000) hC.1 hC.2.1 dX4_isBag_8 (by decide) ?_
    refine g_aload_n hC hl dX4_isBag_11 rfl rfl ?_
    refine g_get (ci := 4) (k := 5) hC hO rfl inX4 (by decide) q_fl_RX4_73 (nn_lt (Nat.le_of_ble_eq_true rfl)) rfl rfl dX4_isBag_12 ?_
    refine lv_iadd hC.1 hC.2.1 dX4_isBag_15 ?_
    refine lv_icmp_gt (tgt := 23) hC.1 hC.2.1 dX4_isBag_16 (by decide) (fun c_2 => ?_) (fun c_2 => ?_)
    · skip
      rw [hM.1, show (1000 : Int32) = nI 1000 from rfl, nI_add, nI_ltI (by omega) (by omega)] at c_2
      have h9 : (recOf σ (nI (1001 + j))).isSome = false := by rw [recOf_nI hj, if_neg (by omega)]; rfl
      refine lv_iconst (v := 0) hC.1 hC.2.1 dX4_isBag_23 (by decide) ?_
      exact g_zret hC hO dX4_isBag_24 (by decide) (⟨rfl, by first | exact bI_t h9 | exact bI_f h9⟩)
    · skip
      rw [hM.1, show (1000 : Int32) = nI 1000 from rfl, nI_add, nI_ltI (by omega) (by omega)] at c_2
      have h9 : (recOf σ (nI (1001 + j))).isSome = true := by rw [recOf_nI hj, if_pos (by omega)]; rfl
      refine lv_iconst (v := 1) hC.1 hC.2.1 dX4_isBag_19 (by decide) ?_
      refine lv_goto (tgt := 24) hC.1 hC.2.1 dX4_isBag_20 (by decide) ?_
      exact g_zret hC hO dX4_isBag_24 (by decide) (⟨rfl, by first | exact bI_t h9 | exact bI_f h9⟩)

set_option maxHeartbeats 4000000 in
set_option maxRecDepth 100000 in
/-- isThing -/
theorem c_X4_isThing (l : Launch) (κ : KK) (σ : ST) (hM : MB σ) (p0 : Int32) : Met l yX4_isThing (wA yX4_isThing cX4_isThing 2 (some .boolean)) ({ frames := 1, cells := 0, slots := 0, locals := 21 }) (va_Pc [.ref (kad κ 6), .int p0] (WX κ σ)) (va_Qi (fun r σ' => σ = σ' ∧ r = bI (thingB σ p0)) (WX κ) (FA κ)) 0 0 (FA κ) := by
  refine g_met 0 (by decide) rfl (Nat.le_of_ble_eq_true rfl) ?_
  intro p e s m args below meth c hC F th hO ls hl
  have hl : LL ls 2 [some _, some _] := hl
  refine g_iload_n hC hl dX4_isThing_0 rfl rfl ?_
  refine lv_if_le (tgt := 11) hC.1 hC.2.1 dX4_isThing_1 (by decide) (fun c_1 => ?_) (fun c_1 => ?_)
  · skip
    have hi9 : itemB p0 = false := by
      rw [Bool.eq_false_iff]
      intro h
      obtain ⟨h1, h2⟩ := itemB_iff.mp h
      have e0 : (0 : Int32).toInt = 0 := rfl
      have e1 : (1000 : Int32).toInt = 1000 := rfl
      have c_19 := c_1
      first
        | (rw [Int32.le_iff_toInt_le] at c_19; omega)
        | (rw [Int32.lt_iff_toInt_lt] at c_19; omega)
    refine g_aload_n hC hl dX4_isThing_11 rfl rfl ?_
    refine g_iload_n hC hl dX4_isThing_12 rfl rfl ?_
    refine g_cVi1 hC hO hl (ci := 4) rfl (nn_lt (Nat.le_of_ble_eq_true rfl)) rfl (c_X4_isBag l κ _ (by first | exact hM | exact hM.upA 9 _ (by decide) (by decide) (by decide)) _) mi_X4_isBag q_ml_RX4_76 rfl rfl ⟨Nat.le_of_ble_eq_true rfl, Nat.le_of_ble_eq_true rfl⟩ (Nat.le_of_ble_eq_true rfl) ⟨Nat.zero_le _, Nat.zero_le _⟩ dX4_isThing_13 (fun r σ1 F th H locs hr hO => ?_)
    obtain ⟨rfl, rfl⟩ := hr
    refine lv_if_eq (tgt := 23) hC.1 hC.2.1 dX4_isThing_16 (by decide) (fun c_2 => ?_) (fun c_2 => ?_)
    · skip
      have c_2 := bI_z c_2
      have h9 : thingB σ p0 = false := by unfold thingB; rw [hi9, c_2]; rfl
      refine lv_iconst (v := 0) hC.1 hC.2.1 dX4_isThing_23 (by decide) ?_
      exact g_zret hC hO dX4_isThing_24 (by decide) (⟨rfl, by first | exact bI_t h9 | exact bI_f h9⟩)
    · skip
      have c_2 := bI_nz c_2
      have h9 : thingB σ p0 = true := by unfold thingB; rw [hi9, c_2]; rfl
      refine lv_iconst (v := 1) hC.1 hC.2.1 dX4_isThing_19 (by decide) ?_
      refine lv_goto (tgt := 24) hC.1 hC.2.1 dX4_isThing_20 (by decide) ?_
      exact g_zret hC hO dX4_isThing_24 (by decide) (⟨rfl, by first | exact bI_t h9 | exact bI_f h9⟩)
  · skip
    have h0 := c_1
    refine g_iload_n hC hl dX4_isThing_4 rfl rfl ?_
    refine lv_sipush (v := 1000) hC.1 hC.2.1 dX4_isThing_5 (by decide) ?_
    refine lv_icmp_lt (tgt := 19) hC.1 hC.2.1 dX4_isThing_8 (by decide) (fun c_3 => ?_) (fun c_3 => ?_)
    · skip
      have h9 : thingB σ p0 = true := by
        unfold thingB
        rw [itemB_iff.mpr ?_]
        · rfl
        · have e0 : (0 : Int32).toInt = 0 := rfl
          have e1 : (1000 : Int32).toInt = 1000 := rfl
          have h1 := c_3
          rw [Int32.lt_iff_toInt_lt] at h1
          rw [Int32.le_iff_toInt_le] at h0
          omega
      refine lv_iconst (v := 1) hC.1 hC.2.1 dX4_isThing_19 (by decide) ?_
      refine lv_goto (tgt := 24) hC.1 hC.2.1 dX4_isThing_20 (by decide) ?_
      exact g_zret hC hO dX4_isThing_24 (by decide) (⟨rfl, by first | exact bI_t h9 | exact bI_f h9⟩)
    · skip
      have hi9 : itemB p0 = false := by
        rw [Bool.eq_false_iff]
        intro h
        obtain ⟨h1, h2⟩ := itemB_iff.mp h
        have e0 : (0 : Int32).toInt = 0 := rfl
        have e1 : (1000 : Int32).toInt = 1000 := rfl
        have c_39 := c_3
        first
          | (rw [Int32.le_iff_toInt_le] at c_39; omega)
          | (rw [Int32.lt_iff_toInt_lt] at c_39; omega)
      refine g_aload_n hC hl dX4_isThing_11 rfl rfl ?_
      refine g_iload_n hC hl dX4_isThing_12 rfl rfl ?_
      refine g_cVi1 hC hO hl (ci := 4) rfl (nn_lt (Nat.le_of_ble_eq_true rfl)) rfl (c_X4_isBag l κ _ (by first | exact hM | exact hM.upA 9 _ (by decide) (by decide) (by decide)) _) mi_X4_isBag q_ml_RX4_76 rfl rfl ⟨Nat.le_of_ble_eq_true rfl, Nat.le_of_ble_eq_true rfl⟩ (Nat.le_of_ble_eq_true rfl) ⟨Nat.zero_le _, Nat.zero_le _⟩ dX4_isThing_13 (fun r σ1 F th H locs hr hO => ?_)
      obtain ⟨rfl, rfl⟩ := hr
      refine lv_if_eq (tgt := 23) hC.1 hC.2.1 dX4_isThing_16 (by decide) (fun c_4 => ?_) (fun c_4 => ?_)
      · skip
        have c_4 := bI_z c_4
        have h9 : thingB σ p0 = false := by unfold thingB; rw [hi9, c_4]; rfl
        refine lv_iconst (v := 0) hC.1 hC.2.1 dX4_isThing_23 (by decide) ?_
        exact g_zret hC hO dX4_isThing_24 (by decide) (⟨rfl, by first | exact bI_t h9 | exact bI_f h9⟩)
      · skip
        have c_4 := bI_nz c_4
        have h9 : thingB σ p0 = true := by unfold thingB; rw [hi9, c_4]; rfl
        refine lv_iconst (v := 1) hC.1 hC.2.1 dX4_isThing_19 (by decide) ?_
        refine lv_goto (tgt := 24) hC.1 hC.2.1 dX4_isThing_20 (by decide) ?_
        exact g_zret hC hO dX4_isThing_24 (by decide) (⟨rfl, by first | exact bI_t h9 | exact bI_f h9⟩)

set_option maxHeartbeats 4000000 in
set_option maxRecDepth 100000 in
/-- kindOf -/
theorem c_X4_kindOf (l : Launch) (κ : KK) (σ : ST) (hM : MB σ) (p0 : Int32) (ht : thingB σ p0 = true) : Met l yX4_kindOf (wA yX4_kindOf cX4_kindOf 2 (some .int)) ({ frames := 0, cells := 0, slots := 0, locals := 0 }) (va_Pc [.ref (kad κ 6), .int p0] (WX κ σ)) (va_Qi (fun r σ' => σ = σ' ∧ r = mkF σ p0) (WX κ) (FA κ)) 0 0 (FA κ) := by
  refine g_met 0 (by decide) rfl (Nat.le_of_ble_eq_true rfl) ?_
  intro p e s m args below meth c hC F th hO ls hl
  have hl : LL ls 2 [some _, some _] := hl
  have h60 := hM.2.1
  refine g_iload_n hC hl dX4_kindOf_0 rfl rfl ?_
  refine lv_sipush (v := 1000) hC.1 hC.2.1 dX4_kindOf_1 (by decide) ?_
  refine lv_icmp_le (tgt := 20) hC.1 hC.2.1 dX4_kindOf_4 (by decide) (fun c_1 => ?_) (fun c_1 => ?_)
  · skip
    have h9 : mkF σ p0 = -1 := by unfold mkF; rw [recOf_le (Int32.not_lt.mpr c_1)]
    refine lv_iconst (v := (-1)) hC.1 hC.2.1 dX4_kindOf_20 (by decide) ?_
    exact g_iret hC hO dX4_kindOf_21 (⟨rfl, h9.symm⟩)
  · skip
    obtain ⟨j, hj, rfl⟩ := gt1000 (Int32.not_le.mp c_1)
    have hjk := thing_big hj ht
    have h9 : mkF σ (nI (1001 + j)) = sI σ 10 (nI j).toNatClampNeg := by unfold mkF; rw [recOf_nI hj, if_pos hjk, nI_clamp (by omega)]
    refine g_aload_n hC hl dX4_kindOf_7 rfl rfl ?_
    refine g_get (ci := 4) (k := 6) hC hO rfl inX4 (by decide) q_fl_RX4_19 (nn_lt (Nat.le_of_ble_eq_true rfl)) rfl rfl dX4_kindOf_8 ?_
    refine g_iload_n hC hl dX4_kindOf_11 rfl rfl ?_
    refine lv_sipush (v := 1001) hC.1 hC.2.1 dX4_kindOf_12 (by decide) ?_
    refine lv_isub hC.1 hC.2.1 dX4_kindOf_15 ?_
    rw [sub1001 hj]
    refine g_iald hC hO (nn_lt (Nat.le_of_ble_eq_true rfl)) rfl (vp_in_nI (by omega) (by omega)) dX4_kindOf_16 ?_
    refine lv_goto (tgt := 21) hC.1 hC.2.1 dX4_kindOf_17 (by decide) ?_
    exact g_iret hC hO dX4_kindOf_21 (⟨rfl, h9.symm⟩)

set_option maxHeartbeats 4000000 in
set_option maxRecDepth 100000 in
/-- outer -/
theorem c_X4_outer (l : Launch) (κ : KK) (σ : ST) (t : Nat) (ht : t < 1061) : Met l yX4_outer (wA yX4_outer cX4_outer 2 (some .int)) ({ frames := 0, cells := 0, slots := 0, locals := 0 }) (va_Pc [.ref (kad κ 6), .int (nI t)] (WX κ σ)) (va_Qi (fun r σ' => σ = σ' ∧ r = sI σ 7 t) (WX κ) (FA κ)) 0 0 (FA κ) := by
  refine g_met 0 (by decide) rfl (Nat.le_of_ble_eq_true rfl) ?_
  intro p e s m args below meth c hC F th hO ls hl
  have hl : LL ls 2 [some _, some _] := hl
  refine g_aload_n hC hl dX4_outer_0 rfl rfl ?_
  refine g_get (ci := 4) (k := 1) hC hO rfl inX4 (by decide) q_fl_RX4_7 (nn_lt (Nat.le_of_ble_eq_true rfl)) rfl rfl dX4_outer_1 ?_
  refine g_iload_n hC hl dX4_outer_4 rfl rfl ?_
  refine g_iald hC hO (nn_lt (Nat.le_of_ble_eq_true rfl)) rfl (vp_in_nI (by omega) (by omega)) dX4_outer_5 ?_
  exact g_iret hC hO dX4_outer_6 (⟨rfl, by rw [nI_clamp (by omega)]⟩)

set_option maxHeartbeats 4000000 in
set_option maxRecDepth 100000 in
/-- liesIn -/
theorem c_X4_liesIn (l : Launch) (κ : KK) (σ : ST) (hM : MB σ) (t : Nat) (ht : t < 1061) (p1 : Int32) : Met l yX4_liesIn (wA yX4_liesIn cX4_liesIn 5 (some .boolean)) ({ frames := 1, cells := 0, slots := 0, locals := 21 }) (va_Pc [.ref (kad κ 6), .int (nI t), .int p1] (WX κ σ)) (va_Qi (fun r σ' => σ = σ' ∧ r = bI (lieB σ t p1)) (WX κ) (FA κ)) 0 0 (FA κ) := by
  refine g_met 2 (by decide) rfl (Nat.le_of_ble_eq_true rfl) ?_
  intro p e s m args below meth c hC F th hO ls hl
  have hl : LL ls 5 [some _, some _, some _, none, none] := hl
  have h60 := hM.2.1
  have loop10 : ∀ (n f : Nat) (acc : Bool) (r : Int32), f + 1 ≤ n → okR σ f r → lieB σ t p1 = (acc || decide (p1 ∈ ancR σ f r)) → ∀ (F : Nat → Nat → Int32) (th : Int32) (H : Heap) (locs : List Loc), OS κ s.heap σ F th H locs → ∀ ls : Array Slot, LL ls 5 [some (.ref (kad κ 6)), some (.int (nI t)), some (.int p1), some (.int (bI acc)), some (.int r)] → W p l e ({ frames := 1, cells := 0, slots := 0, locals := 21 } : Room) s m args below meth c H locs 0 0 (MQ below (va_Qi (fun r σ' => σ = σ' ∧ r = bI (lieB σ t p1)) (WX κ) (FA κ)) args s 0 0 (FA κ)) (F0 m 10 ls []) := by
    intro n
    induction n with
    | zero => intro f acc r h1; exact absurd h1 (by omega)
    | succ n ih =>
      intro f acc r h1 h2 h3 F th H locs hO ls hl
      refine g_iload hC hl dX4_liesIn_10 rfl ?_
      refine lv_if_eq (tgt := 42) hC.1 hC.2.1 dX4_liesIn_12 (by decide) (fun c_1 => ?_) (fun c_1 => ?_)
      · skip
        have h9 : lieB σ t p1 = acc := by rw [h3, c_1, ancR_0]; simp
        refine g_iload_n hC hl dX4_liesIn_42 rfl rfl ?_
        exact g_zret hC hO dX4_liesIn_43 (bI_01 _) (⟨rfl, by rw [h9]⟩)
      · skip
        obtain ⟨k, d, hk, rfl, e2, hd, h4⟩ : ∃ k d, k < σ.1 ∧ r = nI (1001 + k) ∧ sI σ 10 k = nI d ∧ d ≤ 3 ∧ 4 ≤ f + d := h2.resolve_left c_1
        obtain ⟨f, rfl⟩ : ∃ f2, f = f2 + 1 := ⟨f - 1, by omega⟩
        rw [show ancR σ (f + 1) (nI (1001 + k)) = nI (1001 + k) :: ancR σ f (sI σ 7 (nI (1001 + k)).toNatClampNeg) from if_neg c_1, nI_clamp (by omega)] at h3
        have hn := hM.next hk e2 hd h4
        refine g_iload_n hC hl dX4_liesIn_15 rfl rfl ?_
        refine lv_if_ne (tgt := 25) hC.1 hC.2.1 dX4_liesIn_16 (by decide) (fun c_2 => ?_) (fun c_2 => ?_)
        · skip
          have c_2 := bI_nz c_2
          have hnew : lieB σ t p1 = (true || decide (p1 ∈ ancR σ f (sI σ 7 (1001 + k)))) := by rw [h3, c_2]; rfl
          refine lv_iconst (v := 1) hC.1 hC.2.1 dX4_liesIn_25 (by decide) ?_
          refine lv_goto (tgt := 30) hC.1 hC.2.1 dX4_liesIn_26 (by decide) ?_
          refine g_istore_n hC hl dX4_liesIn_30 rfl (Nat.le_of_ble_eq_true rfl) rfl (fun ls hl => ?_)
          have hl : LL ls 5 [some _, some _, some _, some _, some _] := hl
          refine g_aload_n hC hl dX4_liesIn_31 rfl rfl ?_
          refine g_iload hC hl dX4_liesIn_32 rfl ?_
          refine g_cVi1 hC hO hl (ci := 4) rfl (nn_lt (Nat.le_of_ble_eq_true rfl)) rfl (c_X4_outer l κ _ (1001 + k) (by omega)) mi_X4_outer q_ml_RX4_80 rfl rfl ⟨Nat.le_of_ble_eq_true rfl, Nat.le_of_ble_eq_true rfl⟩ (Nat.le_of_ble_eq_true rfl) ⟨Nat.zero_le _, Nat.zero_le _⟩ dX4_liesIn_34 (fun r σ1 F th H locs hr hO => ?_)
          obtain ⟨rfl, rfl⟩ := hr
          refine g_istore hC hl dX4_liesIn_37 (Nat.le_of_ble_eq_true rfl) rfl (fun ls hl => ?_)
          have hl : LL ls 5 [some _, some _, some _, some _, some _] := hl
          refine lv_goto (tgt := 10) hC.1 hC.2.1 dX4_liesIn_39 (by decide) ?_
          exact ih f _ _ (by omega) hn hnew _ _ _ _ hO ls hl
        · skip
          have c_2 := bI_z c_2
          rw [c_2] at h3
          refine g_iload hC hl dX4_liesIn_19 rfl ?_
          refine g_iload_n hC hl dX4_liesIn_21 rfl rfl ?_
          refine lv_icmp_ne (tgt := 29) hC.1 hC.2.1 dX4_liesIn_22 (by decide) (fun c_3 => ?_) (fun c_3 => ?_)
          · skip
            rw [mem_dec_f c_3] at h3
            have hnew := h3
            refine lv_iconst (v := 0) hC.1 hC.2.1 dX4_liesIn_29 (by decide) ?_
            refine g_istore_n hC hl dX4_liesIn_30 rfl (Nat.le_of_ble_eq_true rfl) rfl (fun ls hl => ?_)
            have hl : LL ls 5 [some _, some _, some _, some _, some _] := hl
            refine g_aload_n hC hl dX4_liesIn_31 rfl rfl ?_
            refine g_iload hC hl dX4_liesIn_32 rfl ?_
            refine g_cVi1 hC hO hl (ci := 4) rfl (nn_lt (Nat.le_of_ble_eq_true rfl)) rfl (c_X4_outer l κ _ (1001 + k) (by omega)) mi_X4_outer q_ml_RX4_80 rfl rfl ⟨Nat.le_of_ble_eq_true rfl, Nat.le_of_ble_eq_true rfl⟩ (Nat.le_of_ble_eq_true rfl) ⟨Nat.zero_le _, Nat.zero_le _⟩ dX4_liesIn_34 (fun r σ1 F th H locs hr hO => ?_)
            obtain ⟨rfl, rfl⟩ := hr
            refine g_istore hC hl dX4_liesIn_37 (Nat.le_of_ble_eq_true rfl) rfl (fun ls hl => ?_)
            have hl : LL ls 5 [some _, some _, some _, some _, some _] := hl
            refine lv_goto (tgt := 10) hC.1 hC.2.1 dX4_liesIn_39 (by decide) ?_
            exact ih f _ _ (by omega) hn hnew _ _ _ _ hO ls hl
          · skip
            have hnew : lieB σ t p1 = (true || decide (p1 ∈ ancR σ f (sI σ 7 (1001 + k)))) := by rw [h3, mem_dec_t c_3]; rfl
            refine lv_iconst (v := 1) hC.1 hC.2.1 dX4_liesIn_25 (by decide) ?_
            refine lv_goto (tgt := 30) hC.1 hC.2.1 dX4_liesIn_26 (by decide) ?_
            refine g_istore_n hC hl dX4_liesIn_30 rfl (Nat.le_of_ble_eq_true rfl) rfl (fun ls hl => ?_)
            have hl : LL ls 5 [some _, some _, some _, some _, some _] := hl
            refine g_aload_n hC hl dX4_liesIn_31 rfl rfl ?_
            refine g_iload hC hl dX4_liesIn_32 rfl ?_
            refine g_cVi1 hC hO hl (ci := 4) rfl (nn_lt (Nat.le_of_ble_eq_true rfl)) rfl (c_X4_outer l κ _ (1001 + k) (by omega)) mi_X4_outer q_ml_RX4_80 rfl rfl ⟨Nat.le_of_ble_eq_true rfl, Nat.le_of_ble_eq_true rfl⟩ (Nat.le_of_ble_eq_true rfl) ⟨Nat.zero_le _, Nat.zero_le _⟩ dX4_liesIn_34 (fun r σ1 F th H locs hr hO => ?_)
            obtain ⟨rfl, rfl⟩ := hr
            refine g_istore hC hl dX4_liesIn_37 (Nat.le_of_ble_eq_true rfl) rfl (fun ls hl => ?_)
            have hl : LL ls 5 [some _, some _, some _, some _, some _] := hl
            refine lv_goto (tgt := 10) hC.1 hC.2.1 dX4_liesIn_39 (by decide) ?_
            exact ih f _ _ (by omega) hn hnew _ _ _ _ hO ls hl
  refine lv_iconst (v := 0) hC.1 hC.2.1 dX4_liesIn_0 (by decide) ?_
  refine g_istore_n hC hl dX4_liesIn_1 rfl (Nat.le_of_ble_eq_true rfl) rfl (fun ls hl => ?_)
  have hl : LL ls 5 [some _, some _, some _, some _, none] := hl
  refine g_aload_n hC hl dX4_liesIn_2 rfl rfl ?_
  refine g_get (ci := 4) (k := 1) hC hO rfl inX4 (by decide) q_fl_RX4_7 (nn_lt (Nat.le_of_ble_eq_true rfl)) rfl rfl dX4_liesIn_3 ?_
  refine g_iload_n hC hl dX4_liesIn_6 rfl rfl ?_
  refine g_iald hC hO (nn_lt (Nat.le_of_ble_eq_true rfl)) rfl (vp_in_nI (by omega) (by omega)) dX4_liesIn_7 ?_
  rw [nI_clamp (n := t) (by omega)]
  refine g_istore hC hl dX4_liesIn_8 (Nat.le_of_ble_eq_true rfl) rfl (fun ls hl => ?_)
  have hl : LL ls 5 [some _, some _, some _, some _, some _] := hl
  exact loop10 5 4 false _ (by omega) (hM.start ht) rfl _ _ _ _ hO ls hl

set_option maxHeartbeats 4000000 in
set_option maxRecDepth 100000 in
/-- isShutIn -/
theorem c_X4_isShutIn (l : Launch) (κ : KK) (σ : ST) (hM : MB σ) (t : Nat) (ht : t < 1061) : Met l yX4_isShutIn (wA yX4_isShutIn cX4_isShutIn 4 (some .boolean)) ({ frames := 1, cells := 0, slots := 0, locals := 21 }) (va_Pc [.ref (kad κ 6), .int (nI t)] (WX κ σ)) (va_Qi (fun r σ' => σ = σ' ∧ r = bI (shutInB σ t)) (WX κ) (FA κ)) 0 0 (FA κ) := by
  refine g_met 2 (by decide) rfl (Nat.le_of_ble_eq_true rfl) ?_
  intro p e s m args below meth c hC F th hO ls hl
  have hl : LL ls 4 [some _, some _, none, none] := hl
  have h60 := hM.2.1
  have loop9 : ∀ (n f : Nat) (acc : Bool) (r : Int32), f + 1 ≤ n → okR σ f r → shutInB σ t = (acc || (ancR σ f r).any (clB σ)) → ∀ (F : Nat → Nat → Int32) (th : Int32) (H : Heap) (locs : List Loc), OS κ s.heap σ F th H locs → ∀ ls : Array Slot, LL ls 4 [some (.ref (kad κ 6)), some (.int (nI t)), some (.int (bI acc)), some (.int r)] → W p l e ({ frames := 1, cells := 0, slots := 0, locals := 21 } : Room) s m args below meth c H locs 0 0 (MQ below (va_Qi (fun r σ' => σ = σ' ∧ r = bI (shutInB σ t)) (WX κ) (FA κ)) args s 0 0 (FA κ)) (F0 m 9 ls []) := by
    intro n
    induction n with
    | zero => intro f acc r h1; exact absurd h1 (by omega)
    | succ n ih =>
      intro f acc r h1 h2 h3 F th H locs hO ls hl
      refine g_iload_n hC hl dX4_isShutIn_9 rfl rfl ?_
      refine lv_if_eq (tgt := 45) hC.1 hC.2.1 dX4_isShutIn_10 (by decide) (fun c_1 => ?_) (fun c_1 => ?_)
      · skip
        have h9 : shutInB σ t = acc := by rw [h3, c_1, ancR_0]; simp
        refine g_iload_n hC hl dX4_isShutIn_45 rfl rfl ?_
        exact g_zret hC hO dX4_isShutIn_46 (bI_01 _) (⟨rfl, by rw [h9]⟩)
      · skip
        obtain ⟨k, d, hk, rfl, e2, hd, h4⟩ : ∃ k d, k < σ.1 ∧ r = nI (1001 + k) ∧ sI σ 10 k = nI d ∧ d ≤ 3 ∧ 4 ≤ f + d := h2.resolve_left c_1
        obtain ⟨f, rfl⟩ : ∃ f2, f = f2 + 1 := ⟨f - 1, by omega⟩
        rw [show ancR σ (f + 1) (nI (1001 + k)) = nI (1001 + k) :: ancR σ f (sI σ 7 (nI (1001 + k)).toNatClampNeg) from if_neg c_1, nI_clamp (by omega)] at h3
        have hn := hM.next hk e2 hd h4
        rw [List.any_cons] at h3
        refine g_iload_n hC hl dX4_isShutIn_13 rfl rfl ?_
        refine lv_if_ne (tgt := 30) hC.1 hC.2.1 dX4_isShutIn_14 (by decide) (fun c_2 => ?_) (fun c_2 => ?_)
        · skip
          have c_2 := bI_nz c_2
          have hnew : shutInB σ t = (true || (ancR σ f (sI σ 7 (1001 + k))).any (clB σ)) := by rw [h3, c_2]; rfl
          refine lv_iconst (v := 1) hC.1 hC.2.1 dX4_isShutIn_30 (by decide) ?_
          refine lv_goto (tgt := 35) hC.1 hC.2.1 dX4_isShutIn_31 (by decide) ?_
          refine g_istore_n hC hl dX4_isShutIn_35 rfl (Nat.le_of_ble_eq_true rfl) rfl (fun ls hl => ?_)
          have hl : LL ls 4 [some _, some _, some _, some _] := hl
          refine g_aload_n hC hl dX4_isShutIn_36 rfl rfl ?_
          refine g_iload_n hC hl dX4_isShutIn_37 rfl rfl ?_
          refine g_cVi1 hC hO hl (ci := 4) rfl (nn_lt (Nat.le_of_ble_eq_true rfl)) rfl (c_X4_outer l κ _ (1001 + k) (by omega)) mi_X4_outer q_ml_RX4_80 rfl rfl ⟨Nat.le_of_ble_eq_true rfl, Nat.le_of_ble_eq_true rfl⟩ (Nat.le_of_ble_eq_true rfl) ⟨Nat.zero_le _, Nat.zero_le _⟩ dX4_isShutIn_38 (fun r σ1 F th H locs hr hO => ?_)
          obtain ⟨rfl, rfl⟩ := hr
          refine g_istore_n hC hl dX4_isShutIn_41 rfl (Nat.le_of_ble_eq_true rfl) rfl (fun ls hl => ?_)
          have hl : LL ls 4 [some _, some _, some _, some _] := hl
          refine lv_goto (tgt := 9) hC.1 hC.2.1 dX4_isShutIn_42 (by decide) ?_
          exact ih f _ _ (by omega) hn hnew _ _ _ _ hO ls hl
        · skip
          have c_2 := bI_z c_2
          rw [c_2] at h3
          refine g_aload_n hC hl dX4_isShutIn_17 rfl rfl ?_
          refine g_get (ci := 4) (k := 7) hC hO rfl inX4 (by decide) q_fl_RX4_22 (nn_lt (Nat.le_of_ble_eq_true rfl)) rfl rfl dX4_isShutIn_18 ?_
          refine g_iload_n hC hl dX4_isShutIn_21 rfl rfl ?_
          refine lv_sipush (v := 1001) hC.1 hC.2.1 dX4_isShutIn_22 (by decide) ?_
          refine lv_isub hC.1 hC.2.1 dX4_isShutIn_25 ?_
          rw [sub1001 (by omega)]
          refine g_zald hC hO (nn_lt (Nat.le_of_ble_eq_true rfl)) rfl (vp_in_nI (by omega) (by omega)) dX4_isShutIn_26 ?_
          refine lv_if_eq (tgt := 34) hC.1 hC.2.1 dX4_isShutIn_27 (by decide) (fun c_3 => ?_) (fun c_3 => ?_)
          · skip
            have hc9 : clB σ (nI (1001 + k)) = false := by unfold clB; rw [nI_clamp (by omega), show 1001 + k - 1001 = k by omega]; rw [nI_clamp (by omega)] at c_3; simp [c_3]
            rw [hc9] at h3
            have hnew : shutInB σ t = (false || (ancR σ f (sI σ 7 (1001 + k))).any (clB σ)) := h3
            refine lv_iconst (v := 0) hC.1 hC.2.1 dX4_isShutIn_34 (by decide) ?_
            refine g_istore_n hC hl dX4_isShutIn_35 rfl (Nat.le_of_ble_eq_true rfl) rfl (fun ls hl => ?_)
            have hl : LL ls 4 [some _, some _, some _, some _] := hl
            refine g_aload_n hC hl dX4_isShutIn_36 rfl rfl ?_
            refine g_iload_n hC hl dX4_isShutIn_37 rfl rfl ?_
            refine g_cVi1 hC hO hl (ci := 4) rfl (nn_lt (Nat.le_of_ble_eq_true rfl)) rfl (c_X4_outer l κ _ (1001 + k) (by omega)) mi_X4_outer q_ml_RX4_80 rfl rfl ⟨Nat.le_of_ble_eq_true rfl, Nat.le_of_ble_eq_true rfl⟩ (Nat.le_of_ble_eq_true rfl) ⟨Nat.zero_le _, Nat.zero_le _⟩ dX4_isShutIn_38 (fun r σ1 F th H locs hr hO => ?_)
            obtain ⟨rfl, rfl⟩ := hr
            refine g_istore_n hC hl dX4_isShutIn_41 rfl (Nat.le_of_ble_eq_true rfl) rfl (fun ls hl => ?_)
            have hl : LL ls 4 [some _, some _, some _, some _] := hl
            refine lv_goto (tgt := 9) hC.1 hC.2.1 dX4_isShutIn_42 (by decide) ?_
            exact ih f _ _ (by omega) hn hnew _ _ _ _ hO ls hl
          · skip
            have hc9 : clB σ (nI (1001 + k)) = true := by unfold clB; rw [nI_clamp (by omega), show 1001 + k - 1001 = k by omega]; rw [nI_clamp (by omega)] at c_3; simp [c_3]
            rw [hc9] at h3
            have hnew : shutInB σ t = (true || (ancR σ f (sI σ 7 (1001 + k))).any (clB σ)) := h3
            refine lv_iconst (v := 1) hC.1 hC.2.1 dX4_isShutIn_30 (by decide) ?_
            refine lv_goto (tgt := 35) hC.1 hC.2.1 dX4_isShutIn_31 (by decide) ?_
            refine g_istore_n hC hl dX4_isShutIn_35 rfl (Nat.le_of_ble_eq_true rfl) rfl (fun ls hl => ?_)
            have hl : LL ls 4 [some _, some _, some _, some _] := hl
            refine g_aload_n hC hl dX4_isShutIn_36 rfl rfl ?_
            refine g_iload_n hC hl dX4_isShutIn_37 rfl rfl ?_
            refine g_cVi1 hC hO hl (ci := 4) rfl (nn_lt (Nat.le_of_ble_eq_true rfl)) rfl (c_X4_outer l κ _ (1001 + k) (by omega)) mi_X4_outer q_ml_RX4_80 rfl rfl ⟨Nat.le_of_ble_eq_true rfl, Nat.le_of_ble_eq_true rfl⟩ (Nat.le_of_ble_eq_true rfl) ⟨Nat.zero_le _, Nat.zero_le _⟩ dX4_isShutIn_38 (fun r σ1 F th H locs hr hO => ?_)
            obtain ⟨rfl, rfl⟩ := hr
            refine g_istore_n hC hl dX4_isShutIn_41 rfl (Nat.le_of_ble_eq_true rfl) rfl (fun ls hl => ?_)
            have hl : LL ls 4 [some _, some _, some _, some _] := hl
            refine lv_goto (tgt := 9) hC.1 hC.2.1 dX4_isShutIn_42 (by decide) ?_
            exact ih f _ _ (by omega) hn hnew _ _ _ _ hO ls hl
  refine lv_iconst (v := 0) hC.1 hC.2.1 dX4_isShutIn_0 (by decide) ?_
  refine g_istore_n hC hl dX4_isShutIn_1 rfl (Nat.le_of_ble_eq_true rfl) rfl (fun ls hl => ?_)
  have hl : LL ls 4 [some _, some _, some _, none] := hl
  refine g_aload_n hC hl dX4_isShutIn_2 rfl rfl ?_
  refine g_get (ci := 4) (k := 1) hC hO rfl inX4 (by decide) q_fl_RX4_7 (nn_lt (Nat.le_of_ble_eq_true rfl)) rfl rfl dX4_isShutIn_3 ?_
  refine g_iload_n hC hl dX4_isShutIn_6 rfl rfl ?_
  refine g_iald hC hO (nn_lt (Nat.le_of_ble_eq_true rfl)) rfl (vp_in_nI (by omega) (by omega)) dX4_isShutIn_7 ?_
  rw [nI_clamp (n := t) (by omega)]
  refine g_istore_n hC hl dX4_isShutIn_8 rfl (Nat.le_of_ble_eq_true rfl) rfl (fun ls hl => ?_)
  have hl : LL ls 4 [some _, some _, some _, some _] := hl
  exact loop9 5 4 false _ (by omega) (hM.start ht) rfl _ _ _ _ hO ls hl

set_option maxHeartbeats 4000000 in
set_option maxRecDepth 100000 in
/-- count -/
theorem c_X4_count (l : Launch) (κ : KK) (σ : ST) (p0 : Int32) : Met l yX4_count (wA yX4_count cX4_count 4 (some .int)) ({ frames := 0, cells := 0, slots := 0, locals := 0 }) (va_Pc [.ref (kad κ 6), .int p0] (WX κ σ)) (va_Qi (fun r σ' => σ = σ' ∧ r = nI (cntN σ p0 1061)) (WX κ) (FA κ)) 0 0 (FA κ) := by
  refine g_met 2 (by decide) rfl (Nat.le_of_ble_eq_true rfl) ?_
  intro p e s m args below meth c hC F th hO ls hl
  have hl : LL ls 4 [some _, some _, none, none] := hl
  have loop4 : ∀ (n i : Nat), 1062 ≤ i + n → i ≤ 1061 → 1 ≤ i → ∀ (F : Nat → Nat → Int32) (th : Int32) (H : Heap) (locs : List Loc), OS κ s.heap σ F th H locs → ∀ ls : Array Slot, LL ls 4 [some (.ref (kad κ 6)), some (.int p0), some (.int (nI (cntN σ p0 i))), some (.int (nI i))] → W p l e ({ frames := 0, cells := 0, slots := 0, locals := 0 } : Room) s m args below meth c H locs 0 0 (MQ below (va_Qi (fun r σ' => σ = σ' ∧ r = nI (cntN σ p0 1061)) (WX κ) (FA κ)) args s 0 0 (FA κ)) (F0 m 4 ls []) := by
    intro n
    induction n with
    | zero => intro i h1 h2; exact absurd h1 (by omega)
    | succ n ih =>
      intro i h1 h2 h3 F th H locs hO ls hl
      refine g_iload_n hC hl dX4_count_4 rfl rfl ?_
      refine lv_sipush (v := 1061) hC.1 hC.2.1 dX4_count_5 (by decide) ?_
      refine lv_icmp_ge (tgt := 35) hC.1 hC.2.1 dX4_count_8 (by decide) (fun c_1 => ?_) (fun c_1 => ?_)
      · skip
        rw [show (1061 : Int32) = nI 1061 from rfl, nI_leI (by omega) (by omega)] at c_1
        refine g_iload_n hC hl dX4_count_35 rfl rfl ?_
        exact g_iret hC hO dX4_count_36 (⟨rfl, by rw [show i = 1061 by omega]⟩)
      · skip
        rw [show (1061 : Int32) = nI 1061 from rfl, nI_leI (by omega) (by omega)] at c_1
        refine g_aload_n hC hl dX4_count_11 rfl rfl ?_
        refine g_get (ci := 4) (k := 1) hC hO rfl inX4 (by decide) q_fl_RX4_7 (nn_lt (Nat.le_of_ble_eq_true rfl)) rfl rfl dX4_count_12 ?_
        refine g_iload_n hC hl dX4_count_15 rfl rfl ?_
        refine g_iald hC hO (nn_lt (Nat.le_of_ble_eq_true rfl)) rfl (vp_in_nI (by omega) (by omega)) dX4_count_16 ?_
        refine g_iload_n hC hl dX4_count_17 rfl rfl ?_
        refine lv_icmp_ne (tgt := 27) hC.1 hC.2.1 dX4_count_18 (by decide) (fun c_2 => ?_) (fun c_2 => ?_)
        · skip
          rw [nI_clamp (by omega)] at c_2
          have hw : nI (cntN σ p0 (i + 1)) = nI (cntN σ p0 i) := by rw [cntN, if_neg (fun q => c_2 q.2)]
          refine g_iload_n hC hl dX4_count_27 rfl rfl ?_
          refine g_istore_n hC hl dX4_count_28 rfl (Nat.le_of_ble_eq_true rfl) rfl (fun ls hl => ?_)
          have hl : LL ls 4 [some _, some _, some _, some _] := hl
          refine g_iinc (v := nI (i + 1)) hC hl dX4_count_29 rfl (nI_i1 i) (Nat.le_of_ble_eq_true rfl) rfl (fun ls hl => ?_)
          have hl : LL ls 4 [some _, some _, some _, some _] := hl
          refine lv_goto (tgt := 4) hC.1 hC.2.1 dX4_count_32 (by decide) ?_
          exact ih (i + 1) (by omega) (by omega) (by omega) _ _ _ _ hO ls (by rw [hw]; exact hl)
        · skip
          rw [nI_clamp (by omega)] at c_2
          have hw : nI (cntN σ p0 (i + 1)) = nI (cntN σ p0 i) + 1 := by rw [cntN, if_pos ⟨h3, c_2⟩, nI_1]
          refine g_iload_n hC hl dX4_count_21 rfl rfl ?_
          refine lv_iconst (v := 1) hC.1 hC.2.1 dX4_count_22 (by decide) ?_
          refine lv_iadd hC.1 hC.2.1 dX4_count_23 ?_
          refine lv_goto (tgt := 28) hC.1 hC.2.1 dX4_count_24 (by decide) ?_
          refine g_istore_n hC hl dX4_count_28 rfl (Nat.le_of_ble_eq_true rfl) rfl (fun ls hl => ?_)
          have hl : LL ls 4 [some _, some _, some _, some _] := hl
          refine g_iinc (v := nI (i + 1)) hC hl dX4_count_29 rfl (nI_i1 i) (Nat.le_of_ble_eq_true rfl) rfl (fun ls hl => ?_)
          have hl : LL ls 4 [some _, some _, some _, some _] := hl
          refine lv_goto (tgt := 4) hC.1 hC.2.1 dX4_count_32 (by decide) ?_
          exact ih (i + 1) (by omega) (by omega) (by omega) _ _ _ _ hO ls (by rw [hw]; exact hl)
  refine lv_iconst (v := 0) hC.1 hC.2.1 dX4_count_0 (by decide) ?_
  refine g_istore_n hC hl dX4_count_1 rfl (Nat.le_of_ble_eq_true rfl) rfl (fun ls hl => ?_)
  have hl : LL ls 4 [some _, some _, some _, none] := hl
  refine lv_iconst (v := 1) hC.1 hC.2.1 dX4_count_2 (by decide) ?_
  refine g_istore_n hC hl dX4_count_3 rfl (Nat.le_of_ble_eq_true rfl) rfl (fun ls hl => ?_)
  have hl : LL ls 4 [some _, some _, some _, some _] := hl
  exact loop4 1061 1 (by omega) (by omega) (by omega) _ _ _ _ hO ls (by rw [show cntN σ p0 1 = 0 from rfl]; exact hl)

set_option maxHeartbeats 4000000 in
set_option maxRecDepth 100000 in
/-- put -/
theorem c_X4_put (l : Launch) (κ : KK) (σ : ST) (t : Nat) (ht : t < 1061) (p0 : Int32) : Met l yX4_put (wA yX4_put cX4_put 3 none) ({ frames := 0, cells := 0, slots := 0, locals := 0 }) (va_Pc [.ref (kad κ 6), .int p0, .int (nI t)] (WX κ σ)) (va_Qv (fun σ' => σ' = mPut σ p0 t) (WX κ) (FA κ)) 0 0 (FA κ) := by
  refine g_met 0 (by decide) rfl (Nat.le_of_ble_eq_true rfl) ?_
  intro p e s m args below meth c hC F th hO ls hl
  have hl : LL ls 3 [some _, some _, some _] := hl
  refine g_aload_n hC hl dX4_put_0 rfl rfl ?_
  refine g_get (ci := 4) (k := 1) hC hO rfl inX4 (by decide) q_fl_RX4_7 (nn_lt (Nat.le_of_ble_eq_true rfl)) rfl rfl dX4_put_1 ?_
  refine g_iload_n hC hl dX4_put_4 rfl rfl ?_
  refine g_iload_n hC hl dX4_put_5 rfl rfl ?_
  refine g_iast hC hO (nn_lt (Nat.le_of_ble_eq_true rfl)) (fun _ _ => rfl) (vp_in_nI (by omega) (by omega)) dX4_put_6 (fun H locs hO => ?_)
  refine g_aload_n hC hl dX4_put_7 rfl rfl ?_
  refine lv_dup hC.1 hC.2.1 dX4_put_8 rfl ?_
  refine g_get (ci := 4) (k := 4) hC hO rfl inX4 (by decide) q_fl_RX4_84 (nn_lt (Nat.le_of_ble_eq_true rfl)) rfl rfl dX4_put_9 ?_
  refine lv_iconst (v := 1) hC.1 hC.2.1 dX4_put_12 (by decide) ?_
  refine lv_iadd hC.1 hC.2.1 dX4_put_13 ?_
  refine g_puti (ci := 4) (k := 4) hC hO rfl inX4 tyX4_ok nmX4 (by decide) q_fl_RX4_84 rfl (nn_lt (Nat.le_of_ble_eq_true rfl)) rfl (Nat.le_of_ble_eq_true rfl) rfl rfl rfl dX4_put_14 (fun H locs hO => ?_)
  refine g_aload_n hC hl dX4_put_17 rfl rfl ?_
  refine g_get (ci := 4) (k := 2) hC hO rfl inX4 (by decide) q_fl_RX4_13 (nn_lt (Nat.le_of_ble_eq_true rfl)) rfl rfl dX4_put_18 ?_
  refine g_iload_n hC hl dX4_put_21 rfl rfl ?_
  refine g_aload_n hC hl dX4_put_22 rfl rfl ?_
  refine g_get (ci := 4) (k := 4) hC hO rfl inX4 (by decide) q_fl_RX4_84 (nn_lt (Nat.le_of_ble_eq_true rfl)) rfl rfl dX4_put_23 ?_
  refine g_iast hC hO (nn_lt (Nat.le_of_ble_eq_true rfl)) (fun _ _ => rfl) (vp_in_nI (by omega) (by omega)) dX4_put_26 (fun H locs hO => ?_)
  exact g_vret hC hO dX4_put_27 (by rw [nI_clamp (by omega)]; rfl)

set_option maxHeartbeats 4000000 in
set_option maxRecDepth 100000 in
/-- addNote -/
theorem c_X4_addNote (l : Launch) (κ : KK) (σ : ST) (n : Nat) (hn : sI σ 6 21 = nI n) (hn2 : n < 2000) : Met l yX4_addNote (wA yX4_addNote cX4_addNote 1 none) ({ frames := 0, cells := 0, slots := 0, locals := 0 }) (va_Pc [.ref (kad κ 6)] (WX κ σ)) (va_Qv (fun σ' => σ' = mNote σ) (WX κ) (FA κ)) 0 0 (FA κ) := by
  refine g_met 0 (by decide) rfl (Nat.le_of_ble_eq_true rfl) ?_
  intro p e s m args below meth c hC F th hO ls hl
  have hl : LL ls 1 [some _] := hl
  refine g_aload_n hC hl dX4_addNote_0 rfl rfl ?_
  refine g_get (ci := 4) (k := 22) hC hO rfl inX4 (by decide) q_fl_RX4_66 (nn_lt (Nat.le_of_ble_eq_true rfl)) rfl rfl dX4_addNote_1 ?_
  refine g_aload_n hC hl dX4_addNote_4 rfl rfl ?_
  refine g_get (ci := 4) (k := 21) hC hO rfl inX4 (by decide) q_fl_RX4_87 (nn_lt (Nat.le_of_ble_eq_true rfl)) rfl rfl dX4_addNote_5 ?_
  refine g_aload_n hC hl dX4_addNote_8 rfl rfl ?_
  refine g_get (ci := 4) (k := 19) hC hO rfl inX4 (by decide) q_fl_RX4_90 (nn_lt (Nat.le_of_ble_eq_true rfl)) rfl rfl dX4_addNote_9 ?_
  refine lv_ldc2 hC.1 hC.2.1 hC.2.2.2.1 (hC.2.2.2.2.1 _ q_kl_RX4_93) dX4_addNote_12 ?_
  refine lv_ladd hC.1 hC.2.1 dX4_addNote_15 ?_
  refine g_last hC hO (nn_lt (Nat.le_of_ble_eq_true rfl)) (fun _ _ => rfl) (by rw [hn]; exact vp_in_nI (by omega) (by omega)) dX4_addNote_16 (fun H locs hO => ?_)
  refine g_aload_n hC hl dX4_addNote_17 rfl rfl ?_
  refine lv_dup hC.1 hC.2.1 dX4_addNote_18 rfl ?_
  refine g_get (ci := 4) (k := 21) hC hO rfl inX4 (by decide) q_fl_RX4_87 (nn_lt (Nat.le_of_ble_eq_true rfl)) rfl rfl dX4_addNote_19 ?_
  refine lv_iconst (v := 1) hC.1 hC.2.1 dX4_addNote_22 (by decide) ?_
  refine lv_iadd hC.1 hC.2.1 dX4_addNote_23 ?_
  refine g_puti (ci := 4) (k := 21) hC hO rfl inX4 tyX4_ok nmX4 (by decide) q_fl_RX4_87 rfl (nn_lt (Nat.le_of_ble_eq_true rfl)) rfl (Nat.le_of_ble_eq_true rfl) rfl rfl rfl dX4_addNote_24 (fun H locs hO => ?_)
  exact g_vret hC hO dX4_addNote_27 (rfl)

set_option maxHeartbeats 4000000 in
set_option maxRecDepth 100000 in
/-- listPlace -/
theorem c_X4_listPlace (l : Launch) (κ : KK) (σ : ST) (k : Nat) (hk : k < 60) (ln : Nat) (hl0 : sI σ 16 k = nI ln) (hln : ln ≤ 12) (p1 : Int32) : Met l yX4_listPlace (wA yX4_listPlace cX4_listPlace 5 (some .int)) ({ frames := 0, cells := 0, slots := 0, locals := 0 }) (va_Pc [.ref (kad κ 6), .int (nI k), .int p1] (WX κ σ)) (va_Qi (fun r σ' => σ = σ' ∧ r = lpF σ k p1 ln) (WX κ) (FA κ)) 0 0 (FA κ) := by
  refine g_met 2 (by decide) rfl (Nat.le_of_ble_eq_true rfl) ?_
  intro p e s m args below meth c hC F th hO ls hl
  have hl : LL ls 5 [some _, some _, some _, none, none] := hl
  have loop5 : ∀ (n i : Nat), ln + 1 ≤ i + n → i ≤ ln → ∀ (F : Nat → Nat → Int32) (th : Int32) (H : Heap) (locs : List Loc), OS κ s.heap σ F th H locs → ∀ ls : Array Slot, LL ls 5 [some (.ref (kad κ 6)), some (.int (nI k)), some (.int p1), some (.int (lpF σ k p1 i)), some (.int (nI i))] → W p l e ({ frames := 0, cells := 0, slots := 0, locals := 0 } : Room) s m args below meth c H locs 0 0 (MQ below (va_Qi (fun r σ' => σ = σ' ∧ r = lpF σ k p1 ln) (WX κ) (FA κ)) args s 0 0 (FA κ)) (F0 m 5 ls []) := by
    intro n
    induction n with
    | zero => intro i h1 h2; exact absurd h1 (by omega)
    | succ n ih =>
      intro i h1 h2 F th H locs hO ls hl
      refine g_iload hC hl dX4_listPlace_5 rfl ?_
      refine g_aload_n hC hl dX4_listPlace_7 rfl rfl ?_
      refine g_get (ci := 4) (k := 12) hC hO rfl inX4 (by decide) q_fl_RX4_39 (nn_lt (Nat.le_of_ble_eq_true rfl)) rfl rfl dX4_listPlace_8 ?_
      refine g_iload_n hC hl dX4_listPlace_11 rfl rfl ?_
      refine g_iald hC hO (nn_lt (Nat.le_of_ble_eq_true rfl)) rfl (vp_in_nI (by omega) (by omega)) dX4_listPlace_12 ?_
      refine lv_icmp_ge (tgt := 45) hC.1 hC.2.1 dX4_listPlace_13 (by decide) (fun c_1 => ?_) (fun c_1 => ?_)
      · skip
        rw [nI_clamp (n := k) (by omega), hl0, nI_leI (by omega) (by omega)] at c_1
        refine g_iload_n hC hl dX4_listPlace_45 rfl rfl ?_
        exact g_iret hC hO dX4_listPlace_46 (⟨rfl, by rw [show i = ln by omega]⟩)
      · skip
        rw [nI_clamp (n := k) (by omega), hl0, nI_leI (by omega) (by omega)] at c_1
        refine g_aload_n hC hl dX4_listPlace_16 rfl rfl ?_
        refine g_get (ci := 4) (k := 13) hC hO rfl inX4 (by decide) q_fl_RX4_42 (nn_lt (Nat.le_of_ble_eq_true rfl)) rfl rfl dX4_listPlace_17 ?_
        refine lv_bipush (v := 12) hC.1 hC.2.1 dX4_listPlace_20 (by decide) ?_
        refine g_iload_n hC hl dX4_listPlace_22 rfl rfl ?_
        refine lv_imul hC.1 hC.2.1 dX4_listPlace_23 ?_
        refine g_iload hC hl dX4_listPlace_24 rfl ?_
        refine lv_iadd hC.1 hC.2.1 dX4_listPlace_26 ?_
        rw [ix12]
        refine g_iald hC hO (nn_lt (Nat.le_of_ble_eq_true rfl)) rfl (vp_in_nI (by omega) (by omega)) dX4_listPlace_27 ?_
        refine g_iload_n hC hl dX4_listPlace_28 rfl rfl ?_
        refine lv_icmp_ne (tgt := 37) hC.1 hC.2.1 dX4_listPlace_29 (by decide) (fun c_2 => ?_) (fun c_2 => ?_)
        · skip
          rw [nI_clamp (by omega)] at c_2
          have hw : lpF σ k p1 (i + 1) = lpF σ k p1 i := by rw [lpF, if_neg c_2]
          refine g_iload_n hC hl dX4_listPlace_37 rfl rfl ?_
          refine g_istore_n hC hl dX4_listPlace_38 rfl (Nat.le_of_ble_eq_true rfl) rfl (fun ls hl => ?_)
          have hl : LL ls 5 [some _, some _, some _, some _, some _] := hl
          refine g_iinc (v := nI (i + 1)) hC hl dX4_listPlace_39 rfl (nI_i1 i) (Nat.le_of_ble_eq_true rfl) rfl (fun ls hl => ?_)
          have hl : LL ls 5 [some _, some _, some _, some _, some _] := hl
          refine lv_goto (tgt := 5) hC.1 hC.2.1 dX4_listPlace_42 (by decide) ?_
          exact ih (i + 1) (by omega) (by omega) _ _ _ _ hO ls (by rw [hw]; exact hl)
        · skip
          rw [nI_clamp (by omega)] at c_2
          have hw : lpF σ k p1 (i + 1) = nI i := by rw [lpF, if_pos c_2]
          refine g_iload hC hl dX4_listPlace_32 rfl ?_
          refine lv_goto (tgt := 38) hC.1 hC.2.1 dX4_listPlace_34 (by decide) ?_
          refine g_istore_n hC hl dX4_listPlace_38 rfl (Nat.le_of_ble_eq_true rfl) rfl (fun ls hl => ?_)
          have hl : LL ls 5 [some _, some _, some _, some _, some _] := hl
          refine g_iinc (v := nI (i + 1)) hC hl dX4_listPlace_39 rfl (nI_i1 i) (Nat.le_of_ble_eq_true rfl) rfl (fun ls hl => ?_)
          have hl : LL ls 5 [some _, some _, some _, some _, some _] := hl
          refine lv_goto (tgt := 5) hC.1 hC.2.1 dX4_listPlace_42 (by decide) ?_
          exact ih (i + 1) (by omega) (by omega) _ _ _ _ hO ls (by rw [hw]; exact hl)
  refine lv_iconst (v := (-1)) hC.1 hC.2.1 dX4_listPlace_0 (by decide) ?_
  refine g_istore_n hC hl dX4_listPlace_1 rfl (Nat.le_of_ble_eq_true rfl) rfl (fun ls hl => ?_)
  have hl : LL ls 5 [some _, some _, some _, some _, none] := hl
  refine lv_iconst (v := 0) hC.1 hC.2.1 dX4_listPlace_2 (by decide) ?_
  refine g_istore hC hl dX4_listPlace_3 (Nat.le_of_ble_eq_true rfl) rfl (fun ls hl => ?_)
  have hl : LL ls 5 [some _, some _, some _, some _, some _] := hl
  exact loop5 (ln + 1) 0 (by omega) (by omega) _ _ _ _ hO ls hl

set_option maxHeartbeats 4000000 in
set_option maxRecDepth 100000 in
/-- isExtra -/
theorem c_X4_isExtra (l : Launch) (κ : KK) (σ : ST) (k : Nat) (hk : k < 60) (ex : Nat) (hx0 : sI σ 19 k = nI ex) (hex : ex ≤ 12) (p1 : Int32) : Met l yX4_isExtra (wA yX4_isExtra cX4_isExtra 5 (some .boolean)) ({ frames := 0, cells := 0, slots := 0, locals := 0 }) (va_Pc [.ref (kad κ 6), .int (nI k), .int p1] (WX κ σ)) (va_Qi (fun r σ' => σ = σ' ∧ r = bI (exF σ k p1 ex)) (WX κ) (FA κ)) 0 0 (FA κ) := by
  refine g_met 2 (by decide) rfl (Nat.le_of_ble_eq_true rfl) ?_
  intro p e s m args below meth c hC F th hO ls hl
  have hl : LL ls 5 [some _, some _, some _, none, none] := hl
  have loop5 : ∀ (n i : Nat), ex + 1 ≤ i + n → i ≤ ex → ∀ (F : Nat → Nat → Int32) (th : Int32) (H : Heap) (locs : List Loc), OS κ s.heap σ F th H locs → ∀ ls : Array Slot, LL ls 5 [some (.ref (kad κ 6)), some (.int (nI k)), some (.int p1), some (.int (bI (exF σ k p1 i))), some (.int (nI i))] → W p l e ({ frames := 0, cells := 0, slots := 0, locals := 0 } : Room) s m args below meth c H locs 0 0 (MQ below (va_Qi (fun r σ' => σ = σ' ∧ r = bI (exF σ k p1 ex)) (WX κ) (FA κ)) args s 0 0 (FA κ)) (F0 m 5 ls []) := by
    intro n
    induction n with
    | zero => intro i h1 h2; exact absurd h1 (by omega)
    | succ n ih =>
      intro i h1 h2 F th H locs hO ls hl
      refine g_iload hC hl dX4_isExtra_5 rfl ?_
      refine g_aload_n hC hl dX4_isExtra_7 rfl rfl ?_
      refine g_get (ci := 4) (k := 15) hC hO rfl inX4 (by decide) q_fl_RX4_48 (nn_lt (Nat.le_of_ble_eq_true rfl)) rfl rfl dX4_isExtra_8 ?_
      refine g_iload_n hC hl dX4_isExtra_11 rfl rfl ?_
      refine g_iald hC hO (nn_lt (Nat.le_of_ble_eq_true rfl)) rfl (vp_in_nI (by omega) (by omega)) dX4_isExtra_12 ?_
      refine lv_icmp_ge (tgt := 48) hC.1 hC.2.1 dX4_isExtra_13 (by decide) (fun c_1 => ?_) (fun c_1 => ?_)
      · skip
        rw [nI_clamp (n := k) (by omega), hx0, nI_leI (by omega) (by omega)] at c_1
        refine g_iload_n hC hl dX4_isExtra_48 rfl rfl ?_
        exact g_zret hC hO dX4_isExtra_49 (bI_01 _) (⟨rfl, by rw [show i = ex by omega]⟩)
      · skip
        rw [nI_clamp (n := k) (by omega), hx0, nI_leI (by omega) (by omega)] at c_1
        refine g_iload_n hC hl dX4_isExtra_16 rfl rfl ?_
        refine lv_if_ne (tgt := 36) hC.1 hC.2.1 dX4_isExtra_17 (by decide) (fun c_2 => ?_) (fun c_2 => ?_)
        · skip
          have c_2 := bI_nz c_2
          have hw : exF σ k p1 (i + 1) = true := by rw [exF, c_2]; rfl
          refine lv_iconst (v := 1) hC.1 hC.2.1 dX4_isExtra_36 (by decide) ?_
          refine lv_goto (tgt := 41) hC.1 hC.2.1 dX4_isExtra_37 (by decide) ?_
          refine g_istore_n hC hl dX4_isExtra_41 rfl (Nat.le_of_ble_eq_true rfl) rfl (fun ls hl => ?_)
          have hl : LL ls 5 [some _, some _, some _, some _, some _] := hl
          refine g_iinc (v := nI (i + 1)) hC hl dX4_isExtra_42 rfl (nI_i1 i) (Nat.le_of_ble_eq_true rfl) rfl (fun ls hl => ?_)
          have hl : LL ls 5 [some _, some _, some _, some _, some _] := hl
          refine lv_goto (tgt := 5) hC.1 hC.2.1 dX4_isExtra_45 (by decide) ?_
          exact ih (i + 1) (by omega) (by omega) _ _ _ _ hO ls (by rw [hw]; exact hl)
        · skip
          have c_2 := bI_z c_2
          have hf := c_2
          refine g_aload_n hC hl dX4_isExtra_20 rfl rfl ?_
          refine g_get (ci := 4) (k := 16) hC hO rfl inX4 (by decide) q_fl_RX4_51 (nn_lt (Nat.le_of_ble_eq_true rfl)) rfl rfl dX4_isExtra_21 ?_
          refine lv_bipush (v := 12) hC.1 hC.2.1 dX4_isExtra_24 (by decide) ?_
          refine g_iload_n hC hl dX4_isExtra_26 rfl rfl ?_
          refine lv_imul hC.1 hC.2.1 dX4_isExtra_27 ?_
          refine g_iload hC hl dX4_isExtra_28 rfl ?_
          refine lv_iadd hC.1 hC.2.1 dX4_isExtra_30 ?_
          rw [ix12]
          refine g_iald hC hO (nn_lt (Nat.le_of_ble_eq_true rfl)) rfl (vp_in_nI (by omega) (by omega)) dX4_isExtra_31 ?_
          refine g_iload_n hC hl dX4_isExtra_32 rfl rfl ?_
          refine lv_icmp_ne (tgt := 40) hC.1 hC.2.1 dX4_isExtra_33 (by decide) (fun c_3 => ?_) (fun c_3 => ?_)
          · skip
            rw [nI_clamp (by omega)] at c_3
            have hw : exF σ k p1 (i + 1) = false := by rw [exF, hf, decide_eq_false c_3]; rfl
            refine lv_iconst (v := 0) hC.1 hC.2.1 dX4_isExtra_40 (by decide) ?_
            refine g_istore_n hC hl dX4_isExtra_41 rfl (Nat.le_of_ble_eq_true rfl) rfl (fun ls hl => ?_)
            have hl : LL ls 5 [some _, some _, some _, some _, some _] := hl
            refine g_iinc (v := nI (i + 1)) hC hl dX4_isExtra_42 rfl (nI_i1 i) (Nat.le_of_ble_eq_true rfl) rfl (fun ls hl => ?_)
            have hl : LL ls 5 [some _, some _, some _, some _, some _] := hl
            refine lv_goto (tgt := 5) hC.1 hC.2.1 dX4_isExtra_45 (by decide) ?_
            exact ih (i + 1) (by omega) (by omega) _ _ _ _ hO ls (by rw [hw]; exact hl)
          · skip
            rw [nI_clamp (by omega)] at c_3
            have hw : exF σ k p1 (i + 1) = true := by rw [exF, hf, decide_eq_true c_3]; rfl
            refine lv_iconst (v := 1) hC.1 hC.2.1 dX4_isExtra_36 (by decide) ?_
            refine lv_goto (tgt := 41) hC.1 hC.2.1 dX4_isExtra_37 (by decide) ?_
            refine g_istore_n hC hl dX4_isExtra_41 rfl (Nat.le_of_ble_eq_true rfl) rfl (fun ls hl => ?_)
            have hl : LL ls 5 [some _, some _, some _, some _, some _] := hl
            refine g_iinc (v := nI (i + 1)) hC hl dX4_isExtra_42 rfl (nI_i1 i) (Nat.le_of_ble_eq_true rfl) rfl (fun ls hl => ?_)
            have hl : LL ls 5 [some _, some _, some _, some _, some _] := hl
            refine lv_goto (tgt := 5) hC.1 hC.2.1 dX4_isExtra_45 (by decide) ?_
            exact ih (i + 1) (by omega) (by omega) _ _ _ _ hO ls (by rw [hw]; exact hl)
  refine lv_iconst (v := 0) hC.1 hC.2.1 dX4_isExtra_0 (by decide) ?_
  refine g_istore_n hC hl dX4_isExtra_1 rfl (Nat.le_of_ble_eq_true rfl) rfl (fun ls hl => ?_)
  have hl : LL ls 5 [some _, some _, some _, some _, none] := hl
  refine lv_iconst (v := 0) hC.1 hC.2.1 dX4_isExtra_2 (by decide) ?_
  refine g_istore hC hl dX4_isExtra_3 (Nat.le_of_ble_eq_true rfl) rfl (fun ls hl => ?_)
  have hl : LL ls 5 [some _, some _, some _, some _, some _] := hl
  exact loop5 (ex + 1) 0 (by omega) (by omega) _ _ _ _ hO ls hl

set_option maxHeartbeats 4000000 in
set_option maxRecDepth 100000 in
/-- bring -/
theorem c_X4_bring (l : Launch) (κ : KK) (σ : ST) (hM : MB σ) (tn : Nat) (h1 : 1 ≤ tn) (htn : tn < 1061) (p1 : Int32) : Met l yX4_bring (wA yX4_bring cX4_bring 5 (some .int)) ({ frames := 2, cells := 0, slots := 0, locals := 45 }) (va_Pc [.ref (kad κ 6), .int (nI tn), .int p1] (WX κ σ)) (va_Qi (fun r σ' => σ' = mBring σ tn p1 ∧ r = nI (brN σ tn 1061)) (WX κ) (FA κ)) 0 0 (FA κ) := by
  refine g_met 2 (by decide) rfl (Nat.le_of_ble_eq_true rfl) ?_
  intro p e s m args below meth c hC F th hO ls hl
  have hl : LL ls 5 [some _, some _, some _, none, none] := hl
  have loop5 : ∀ (n i : Nat), 1062 ≤ i + n → i ≤ 1061 → 1 ≤ i → ∀ (F : Nat → Nat → Int32) (th : Int32) (H : Heap) (locs : List Loc), OS κ s.heap (upA σ 9 (brP σ tn p1 i)) F th H locs → ∀ ls : Array Slot, LL ls 5 [some (.ref (kad κ 6)), some (.int (nI tn)), some (.int p1), some (.int (nI (brN σ tn i))), some (.int (nI i))] → W p l e ({ frames := 2, cells := 0, slots := 0, locals := 45 } : Room) s m args below meth c H locs 0 0 (MQ below (va_Qi (fun r σ' => σ' = mBring σ tn p1 ∧ r = nI (brN σ tn 1061)) (WX κ) (FA κ)) args s 0 0 (FA κ)) (F0 m 5 ls []) := by
    intro n
    induction n with
    | zero => intro i h1 h2; exact absurd h1 (by omega)
    | succ n ih =>
      intro i h1 h2 h3 F th H locs hO ls hl
      refine g_iload hC hl dX4_bring_5 rfl ?_
      refine lv_sipush (v := 1061) hC.1 hC.2.1 dX4_bring_7 (by decide) ?_
      refine lv_icmp_ge (tgt := 55) hC.1 hC.2.1 dX4_bring_10 (by decide) (fun c_1 => ?_) (fun c_1 => ?_)
      · skip
        rw [show (1061 : Int32) = nI 1061 from rfl, nI_leI (by omega) (by omega)] at c_1
        refine g_iload_n hC hl dX4_bring_55 rfl rfl ?_
        exact g_iret hC hO dX4_bring_56 (⟨by rw [show i = 1061 by omega]; rfl, by rw [show i = 1061 by omega]⟩)
      · skip
        rw [show (1061 : Int32) = nI 1061 from rfl, nI_leI (by omega) (by omega)] at c_1
        refine g_aload_n hC hl dX4_bring_13 rfl rfl ?_
        refine g_iload hC hl dX4_bring_14 rfl ?_
        refine g_cVi1 hC hO hl (ci := 4) rfl (nn_lt (Nat.le_of_ble_eq_true rfl)) rfl (c_X4_isThing l κ _ (by first | exact hM | exact hM.upA 9 _ (by decide) (by decide) (by decide)) _) mi_X4_isThing q_ml_RX4_95 rfl rfl ⟨Nat.le_of_ble_eq_true rfl, Nat.le_of_ble_eq_true rfl⟩ (Nat.le_of_ble_eq_true rfl) ⟨Nat.zero_le _, Nat.zero_le _⟩ dX4_bring_16 (fun r σ1 F th H locs hr hO => ?_)
        obtain ⟨rfl, rfl⟩ := hr
        refine lv_if_eq (tgt := 49) hC.1 hC.2.1 dX4_bring_19 (by decide) (fun c_2 => ?_) (fun c_2 => ?_)
        · skip
          have c_2 := bI_z c_2
          have hc : brC σ tn i = false := by unfold brC; rw [show thingB σ (nI i) = false from c_2]; rfl
          have hp := brP_f (w := p1) hc
          have hw := brN_f hc
          refine g_iinc (v := nI (i + 1)) hC hl dX4_bring_49 rfl (nI_i1 i) (Nat.le_of_ble_eq_true rfl) rfl (fun ls hl => ?_)
          have hl : LL ls 5 [some _, some _, some _, some _, some _] := hl
          refine lv_goto (tgt := 5) hC.1 hC.2.1 dX4_bring_52 (by decide) ?_
          exact ih (i + 1) (by omega) (by omega) (by omega) _ _ _ _ (by rw [hp]; exact hO) ls (by rw [hw]; exact hl)
        · skip
          have c_2 := bI_nz c_2
          have hth : thingB σ (nI i) = true := c_2
          refine g_iload hC hl dX4_bring_22 rfl ?_
          refine g_iload_n hC hl dX4_bring_24 rfl rfl ?_
          refine lv_icmp_eq (tgt := 38) hC.1 hC.2.1 dX4_bring_25 (by decide) (fun c_3 => ?_) (fun c_3 => ?_)
          · skip
            rw [nI_eq (by omega) (by omega)] at c_3
            have hc : brC σ tn i = true := by unfold brC; rw [hth, decide_eq_true c_3]; rfl
            have hp := brP_t (w := p1) h3 hc
            have hw := brN_t h3 hc
            refine g_aload_n hC hl dX4_bring_38 rfl rfl ?_
            refine g_get (ci := 4) (k := 3) hC hO rfl inX4 (by decide) q_fl_RX4_16 (nn_lt (Nat.le_of_ble_eq_true rfl)) rfl rfl dX4_bring_39 ?_
            refine g_iload hC hl dX4_bring_42 rfl ?_
            refine g_iload_n hC hl dX4_bring_44 rfl rfl ?_
            refine g_iast hC hO (nn_lt (Nat.le_of_ble_eq_true rfl)) (fun _ _ => rfl) (vp_in_nI (by omega) (by omega)) dX4_bring_45 (fun H locs hO => ?_)
            rw [nI_clamp (n := i) (by omega), upI_upA] at hO
            refine g_iinc (v := nI (brN σ tn i + 1)) hC hl dX4_bring_46 rfl (nI_i1 _) (Nat.le_of_ble_eq_true rfl) rfl (fun ls hl => ?_)
            have hl : LL ls 5 [some _, some _, some _, some _, some _] := hl
            refine g_iinc (v := nI (i + 1)) hC hl dX4_bring_49 rfl (nI_i1 i) (Nat.le_of_ble_eq_true rfl) rfl (fun ls hl => ?_)
            have hl : LL ls 5 [some _, some _, some _, some _, some _] := hl
            refine lv_goto (tgt := 5) hC.1 hC.2.1 dX4_bring_52 (by decide) ?_
            exact ih (i + 1) (by omega) (by omega) (by omega) _ _ _ _ (by rw [hp]; exact hO) ls (by rw [hw]; exact hl)
          · skip
            rw [nI_eq (by omega) (by omega)] at c_3
            have hne := c_3
            refine g_aload_n hC hl dX4_bring_28 rfl rfl ?_
            refine g_iload hC hl dX4_bring_29 rfl ?_
            refine g_iload_n hC hl dX4_bring_31 rfl rfl ?_
            refine g_cVi2 hC hO hl (ci := 4) rfl (nn_lt (Nat.le_of_ble_eq_true rfl)) rfl (c_X4_liesIn l κ _ (by first | exact hM | exact hM.upA 9 _ (by decide) (by decide) (by decide)) i (by omega) _) mi_X4_liesIn q_ml_RX4_116 rfl rfl ⟨Nat.le_of_ble_eq_true rfl, Nat.le_of_ble_eq_true rfl⟩ (Nat.le_of_ble_eq_true rfl) ⟨Nat.zero_le _, Nat.zero_le _⟩ dX4_bring_32 (fun r σ1 F th H locs hr hO => ?_)
            obtain ⟨rfl, rfl⟩ := hr
            refine lv_if_eq (tgt := 49) hC.1 hC.2.1 dX4_bring_35 (by decide) (fun c_4 => ?_) (fun c_4 => ?_)
            · skip
              have c_4 := bI_z c_4
              have hl9 : lieB σ i (nI tn) = false := by rw [← c_4]; unfold lieB; rw [ancR_congr (σ := σ) (σ' := upA σ 9 (brP σ tn p1 i)) (fun t => rfl)]; rfl
              have hc : brC σ tn i = false := by unfold brC; rw [hth, decide_eq_false hne, hl9]; rfl
              have hp := brP_f (w := p1) hc
              have hw := brN_f hc
              refine g_iinc (v := nI (i + 1)) hC hl dX4_bring_49 rfl (nI_i1 i) (Nat.le_of_ble_eq_true rfl) rfl (fun ls hl => ?_)
              have hl : LL ls 5 [some _, some _, some _, some _, some _] := hl
              refine lv_goto (tgt := 5) hC.1 hC.2.1 dX4_bring_52 (by decide) ?_
              exact ih (i + 1) (by omega) (by omega) (by omega) _ _ _ _ (by rw [hp]; exact hO) ls (by rw [hw]; exact hl)
            · skip
              have c_4 := bI_nz c_4
              have hl9 : lieB σ i (nI tn) = true := by rw [← c_4]; unfold lieB; rw [ancR_congr (σ := σ) (σ' := upA σ 9 (brP σ tn p1 i)) (fun t => rfl)]; rfl
              have hc : brC σ tn i = true := by unfold brC; rw [hth, decide_eq_false hne, hl9]; rfl
              have hp := brP_t (w := p1) h3 hc
              have hw := brN_t h3 hc
              refine g_aload_n hC hl dX4_bring_38 rfl rfl ?_
              refine g_get (ci := 4) (k := 3) hC hO rfl inX4 (by decide) q_fl_RX4_16 (nn_lt (Nat.le_of_ble_eq_true rfl)) rfl rfl dX4_bring_39 ?_
              refine g_iload hC hl dX4_bring_42 rfl ?_
              refine g_iload_n hC hl dX4_bring_44 rfl rfl ?_
              refine g_iast hC hO (nn_lt (Nat.le_of_ble_eq_true rfl)) (fun _ _ => rfl) (vp_in_nI (by omega) (by omega)) dX4_bring_45 (fun H locs hO => ?_)
              rw [nI_clamp (n := i) (by omega), upI_upA] at hO
              refine g_iinc (v := nI (brN σ tn i + 1)) hC hl dX4_bring_46 rfl (nI_i1 _) (Nat.le_of_ble_eq_true rfl) rfl (fun ls hl => ?_)
              have hl : LL ls 5 [some _, some _, some _, some _, some _] := hl
              refine g_iinc (v := nI (i + 1)) hC hl dX4_bring_49 rfl (nI_i1 i) (Nat.le_of_ble_eq_true rfl) rfl (fun ls hl => ?_)
              have hl : LL ls 5 [some _, some _, some _, some _, some _] := hl
              refine lv_goto (tgt := 5) hC.1 hC.2.1 dX4_bring_52 (by decide) ?_
              exact ih (i + 1) (by omega) (by omega) (by omega) _ _ _ _ (by rw [hp]; exact hO) ls (by rw [hw]; exact hl)
  refine lv_iconst (v := 0) hC.1 hC.2.1 dX4_bring_0 (by decide) ?_
  refine g_istore_n hC hl dX4_bring_1 rfl (Nat.le_of_ble_eq_true rfl) rfl (fun ls hl => ?_)
  have hl : LL ls 5 [some _, some _, some _, some _, none] := hl
  refine lv_iconst (v := 1) hC.1 hC.2.1 dX4_bring_2 (by decide) ?_
  refine g_istore hC hl dX4_bring_3 (Nat.le_of_ble_eq_true rfl) rfl (fun ls hl => ?_)
  have hl : LL ls 5 [some _, some _, some _, some _, some _] := hl
  exact loop5 1061 1 (by omega) (by omega) (by omega) _ _ _ _ (by rw [brP_1, upA_self]; exact hO) ls (by rw [show brN σ tn 1 = 0 from rfl]; exact hl)

set_option maxHeartbeats 4000000 in
set_option maxRecDepth 100000 in
/-- pick -/
theorem c_X4_pick (l : Launch) (κ : KK) (σ : ST) (p0 p1 : Int32) (p2 : Int64) : Met l yX4_pick (wA yX4_pick cX4_pick 5 (some .int)) ({ frames := 0, cells := 0, slots := 0, locals := 0 }) (va_Pc [.ref (kad κ 6), .int p0, .int p1, .long p2] (WX κ σ)) (va_Qi (fun r σ' => σ = σ' ∧ r = pickF p0 p1 p2) (WX κ) (FA κ)) 0 0 (FA κ) := by
  refine g_met 0 (by decide) rfl (Nat.le_of_ble_eq_true rfl) ?_
  intro p e s m args below meth c hC F th hO ls hl
  have hl : LL ls 5 [some _, some _, some _, some _, none] := hl
  refine g_iload_n hC hl dX4_pick_0 rfl rfl ?_
  refine lv_if_ne (tgt := 8) hC.1 hC.2.1 dX4_pick_1 (by decide) (fun c_1 => ?_) (fun c_1 => ?_)
  · skip
    refine g_lload_n hC hl dX4_pick_8 rfl rfl ?_
    refine lv_l2i hC.1 hC.2.1 dX4_pick_9 rfl ?_
    exact g_iret hC hO dX4_pick_10 (⟨rfl, by unfold pickF; first | rw [if_pos c_1] | rw [if_neg c_1]⟩)
  · skip
    refine g_iload_n hC hl dX4_pick_4 rfl rfl ?_
    refine lv_goto (tgt := 10) hC.1 hC.2.1 dX4_pick_5 (by decide) ?_
    exact g_iret hC hO dX4_pick_10 (⟨rfl, by unfold pickF; first | rw [if_pos c_1] | rw [if_neg c_1]⟩)

set_option maxHeartbeats 4000000 in
set_option maxRecDepth 100000 in
/-- own -/
theorem c_X4_own (l : Launch) (κ : KK) (σ : ST) (t : Nat) (ht : t < 1061) : Met l yX4_own (wA yX4_own cX4_own 2 (some .long)) ({ frames := 0, cells := 0, slots := 0, locals := 0 }) (va_Pc [.ref (kad κ 6), .int (nI t)] (WX κ σ)) (va_Ql (fun r σ' => σ = σ' ∧ r = ownM σ t) (WX κ) (FA κ)) 0 0 (FA κ) := by
  refine g_met 0 (by decide) rfl (Nat.le_of_ble_eq_true rfl) ?_
  intro p e s m args below meth c hC F th hO ls hl
  have hl : LL ls 2 [some _, some _] := hl
  refine g_iload_n hC hl dX4_own_0 rfl rfl ?_
  refine lv_sipush (v := 1000) hC.1 hC.2.1 dX4_own_1 (by decide) ?_
  refine lv_icmp_le (tgt := 29) hC.1 hC.2.1 dX4_own_4 (by decide) (fun c_1 => ?_) (fun c_1 => ?_)
  · skip
    rw [show (1000 : Int32) = nI 1000 from rfl, nI_leI (by omega) (by omega)] at c_1
    have h9 : ownM σ t = 5 + 10 * (nI t - nI t / 50 * 50).toInt64 := by
      unfold ownM
      rw [if_pos c_1, show (50 : Int32) = nI 50 from rfl, pk_rem (by omega) (by omega) (by omega)]
    refine lv_ldc2 hC.1 hC.2.1 hC.2.2.2.1 (hC.2.2.2.2.1 _ q_kl_RX4_138) dX4_own_29 ?_
    refine lv_ldc2 hC.1 hC.2.1 hC.2.2.2.1 (hC.2.2.2.2.1 _ q_kl_RX4_140) dX4_own_32 ?_
    refine g_iload_n hC hl dX4_own_35 rfl rfl ?_
    refine lv_bipush (v := 50) hC.1 hC.2.1 dX4_own_36 (by decide) ?_
    refine lv_irem hC.1 hC.2.1 dX4_own_38 (by decide) ?_
    refine lv_i2l hC.1 hC.2.1 dX4_own_39 rfl ?_
    refine lv_lmul hC.1 hC.2.1 dX4_own_40 ?_
    refine lv_ladd hC.1 hC.2.1 dX4_own_41 ?_
    exact g_lret hC hO dX4_own_42 (⟨rfl, h9.symm⟩)
  · skip
    rw [show (1000 : Int32) = nI 1000 from rfl, nI_leI (by omega) (by omega)] at c_1
    obtain ⟨j, rfl⟩ : ∃ j, t = 1001 + j := ⟨t - 1001, by omega⟩
    have h9 : ownM σ (1001 + j) = 100 * (sI σ 10 (nI j).toNatClampNeg).toInt64 + 100 := by
      unfold ownM
      rw [if_neg (by omega), nI_clamp (by omega), show 1001 + j - 1001 = j by omega]
    refine lv_ldc2 hC.1 hC.2.1 hC.2.2.2.1 (hC.2.2.2.2.1 _ q_kl_RX4_93) dX4_own_7 ?_
    refine g_aload_n hC hl dX4_own_10 rfl rfl ?_
    refine g_get (ci := 4) (k := 6) hC hO rfl inX4 (by decide) q_fl_RX4_19 (nn_lt (Nat.le_of_ble_eq_true rfl)) rfl rfl dX4_own_11 ?_
    refine g_iload_n hC hl dX4_own_14 rfl rfl ?_
    refine lv_sipush (v := 1001) hC.1 hC.2.1 dX4_own_15 (by decide) ?_
    refine lv_isub hC.1 hC.2.1 dX4_own_18 ?_
    rw [sub1001 (by omega)]
    refine g_iald hC hO (nn_lt (Nat.le_of_ble_eq_true rfl)) rfl (vp_in_nI (by omega) (by omega)) dX4_own_19 ?_
    refine lv_i2l hC.1 hC.2.1 dX4_own_20 rfl ?_
    refine lv_lmul hC.1 hC.2.1 dX4_own_21 ?_
    refine lv_ldc2 hC.1 hC.2.1 hC.2.2.2.1 (hC.2.2.2.2.1 _ q_kl_RX4_93) dX4_own_22 ?_
    refine lv_ladd hC.1 hC.2.1 dX4_own_25 ?_
    refine lv_goto (tgt := 42) hC.1 hC.2.1 dX4_own_26 (by decide) ?_
    exact g_lret hC hO dX4_own_42 (⟨rfl, h9.symm⟩)

set_option maxHeartbeats 4000000 in
set_option maxRecDepth 100000 in
/-- difference -/
theorem c_X4_difference (l : Launch) (κ : KK) (σ : ST) (k : Nat) (hk : k < 60) (ln : Nat) (hl0 : sI σ 16 k = nI ln) (hln : ln ≤ 12) (ex : Nat) (hx0 : sI σ 19 k = nI ex) (hex : ex ≤ 12) (we : Nat) (hw0 : sI σ 21 k = nI we) (hwe : we ≤ 6) (i : Nat) (hi : i < 2 ^ 31) (p2 : Int32) : Met l yX4_difference (wA yX4_difference cX4_difference 6 (some .int)) ({ frames := 1, cells := 0, slots := 0, locals := 24 }) (va_Pc [.ref (kad κ 6), .int (nI k), .int (nI i), .int p2] (WX κ σ)) (va_Qi (fun r σ' => σ = σ' ∧ r = mdF σ k ln ex we i p2) (WX κ) (FA κ)) 0 0 (FA κ) := by
  refine g_met 2 (by decide) rfl (Nat.le_of_ble_eq_true rfl) ?_
  intro p e s m args below meth c hC F th hO ls hl
  have hl : LL ls 6 [some _, some _, some _, some _, none, none] := hl
  have ck : (nI k).toNatClampNeg = k := nI_clamp (by omega)
  have loop84 : ∀ (L0 : Nat), L0 < 2 ^ 31 → mdF σ k ln ex we i p2 = mdT σ k ln ex L0 p2 → ∀ (n q lf : Nat), ln + 1 ≤ q + n → q ≤ ln → lf + (misL σ k q).length = L0 → ∀ (F : Nat → Nat → Int32) (th : Int32) (H : Heap) (locs : List Loc), OS κ s.heap σ F th H locs → ∀ ls : Array Slot, LL ls 6 [some (.ref (kad κ 6)), some (.int (nI k)), some (.int (nI i)), some (.int p2), some (.int (nI lf)), some (.int (nI q))] → W p l e ({ frames := 1, cells := 0, slots := 0, locals := 24 } : Room) s m args below meth c H locs 0 0 (MQ below (va_Qi (fun r σ' => σ = σ' ∧ r = mdF σ k ln ex we i p2) (WX κ) (FA κ)) args s 0 0 (FA κ)) (F0 m 84 ls []) := by
    intro L0 hL0 hres n
    induction n with
    | zero => intro q lf h1 h2; exact absurd h1 (by omega)
    | succ n ih =>
      intro q lf h1 h2 h3 F th H locs hO ls hl
      refine g_iload hC hl dX4_difference_84 rfl ?_
      refine g_aload_n hC hl dX4_difference_86 rfl rfl ?_
      refine g_get (ci := 4) (k := 12) hC hO rfl inX4 (by decide) q_fl_RX4_39 (nn_lt (Nat.le_of_ble_eq_true rfl)) rfl rfl dX4_difference_87 ?_
      refine g_iload_n hC hl dX4_difference_90 rfl rfl ?_
      refine g_iald hC hO (nn_lt (Nat.le_of_ble_eq_true rfl)) rfl (vp_in_nI (by omega) (by omega)) dX4_difference_91 ?_
      refine lv_icmp_ge (tgt := 144) hC.1 hC.2.1 dX4_difference_92 (by decide) (fun c_1 => ?_) (fun c_1 => ?_)
      · skip
        rw [ck, hl0, nI_leI (by omega) (by omega)] at c_1
        have eq9 : q = ln := by omega
        subst eq9
        refine g_iload hC hl dX4_difference_144 rfl ?_
        refine g_aload_n hC hl dX4_difference_146 rfl rfl ?_
        refine g_get (ci := 4) (k := 15) hC hO rfl inX4 (by decide) q_fl_RX4_48 (nn_lt (Nat.le_of_ble_eq_true rfl)) rfl rfl dX4_difference_147 ?_
        refine g_iload_n hC hl dX4_difference_150 rfl rfl ?_
        refine g_iald hC hO (nn_lt (Nat.le_of_ble_eq_true rfl)) rfl (vp_in_nI (by omega) (by omega)) dX4_difference_151 ?_
        refine lv_icmp_ge (tgt := 177) hC.1 hC.2.1 dX4_difference_152 (by decide) (fun c_2 => ?_) (fun c_2 => ?_)
        · skip
          rw [ck, hx0, nI_leI (by omega) (by omega)] at c_2
          have h9 : mdF σ k q ex we i p2 = -1 := by rw [hres, mdT, if_neg (by omega), if_neg (by omega)]
          refine lv_iconst (v := (-1)) hC.1 hC.2.1 dX4_difference_177 (by decide) ?_
          exact g_iret hC hO dX4_difference_178 (⟨rfl, by first | rw [h9, nI_clamp (by omega)] | exact h9.symm⟩)
        · skip
          rw [ck, hx0, nI_leI (by omega) (by omega)] at c_2
          have h9 : mdF σ k q ex we i p2 = pickF p2 3 (sI σ 20 (12 * k + lf)).toInt64 := by rw [hres, mdT, if_neg (by omega), if_pos (by omega), show L0 - (misL σ k q).length = lf by omega]
          refine g_aload_n hC hl dX4_difference_155 rfl rfl ?_
          refine g_iload_n hC hl dX4_difference_156 rfl rfl ?_
          refine lv_iconst (v := 3) hC.1 hC.2.1 dX4_difference_157 (by decide) ?_
          refine g_aload_n hC hl dX4_difference_158 rfl rfl ?_
          refine g_get (ci := 4) (k := 16) hC hO rfl inX4 (by decide) q_fl_RX4_51 (nn_lt (Nat.le_of_ble_eq_true rfl)) rfl rfl dX4_difference_159 ?_
          refine lv_bipush (v := 12) hC.1 hC.2.1 dX4_difference_162 (by decide) ?_
          refine g_iload_n hC hl dX4_difference_164 rfl rfl ?_
          refine lv_imul hC.1 hC.2.1 dX4_difference_165 ?_
          refine g_iload hC hl dX4_difference_166 rfl ?_
          refine lv_iadd hC.1 hC.2.1 dX4_difference_168 ?_
          rw [ix12]
          refine g_iald hC hO (nn_lt (Nat.le_of_ble_eq_true rfl)) rfl (vp_in_nI (by omega) (by omega)) dX4_difference_169 ?_
          refine lv_i2l hC.1 hC.2.1 dX4_difference_170 rfl ?_
          refine g_cVi3 hC hO hl (ci := 4) rfl (nn_lt (Nat.le_of_ble_eq_true rfl)) rfl (c_X4_pick l κ _ _ _ _) mi_X4_pick q_ml_RX4_130 rfl rfl ⟨Nat.le_of_ble_eq_true rfl, Nat.le_of_ble_eq_true rfl⟩ (Nat.le_of_ble_eq_true rfl) ⟨Nat.zero_le _, Nat.zero_le _⟩ dX4_difference_171 (fun r σ1 F th H locs hr hO => ?_)
          obtain ⟨rfl, rfl⟩ := hr
          refine lv_goto (tgt := 178) hC.1 hC.2.1 dX4_difference_174 (by decide) ?_
          exact g_iret hC hO dX4_difference_178 (⟨rfl, by first | rw [h9, nI_clamp (by omega)] | exact h9.symm⟩)
      · skip
        rw [ck, hl0, nI_leI (by omega) (by omega)] at c_1
        have hqln := c_1
        refine g_aload_n hC hl dX4_difference_95 rfl rfl ?_
        refine g_get (ci := 4) (k := 14) hC hO rfl inX4 (by decide) q_fl_RX4_45 (nn_lt (Nat.le_of_ble_eq_true rfl)) rfl rfl dX4_difference_96 ?_
        refine lv_bipush (v := 12) hC.1 hC.2.1 dX4_difference_99 (by decide) ?_
        refine g_iload_n hC hl dX4_difference_101 rfl rfl ?_
        refine lv_imul hC.1 hC.2.1 dX4_difference_102 ?_
        refine g_iload hC hl dX4_difference_103 rfl ?_
        refine lv_iadd hC.1 hC.2.1 dX4_difference_105 ?_
        rw [ix12]
        refine g_zald hC hO (nn_lt (Nat.le_of_ble_eq_true rfl)) rfl (vp_in_nI (by omega) (by omega)) dX4_difference_106 ?_
        refine lv_if_ne (tgt := 138) hC.1 hC.2.1 dX4_difference_107 (by decide) (fun c_3 => ?_) (fun c_3 => ?_)
        · skip
          rw [nI_clamp (by omega)] at c_3
          have h5 : lf + (misL σ k (q + 1)).length = L0 := by rw [misL, if_neg c_3]; exact h3
          refine g_iinc (v := nI (q + 1)) hC hl dX4_difference_138 rfl (nI_i1 q) (Nat.le_of_ble_eq_true rfl) rfl (fun ls hl => ?_)
          have hl : LL ls 6 [some _, some _, some _, some _, some _, some _] := hl
          refine lv_goto (tgt := 84) hC.1 hC.2.1 dX4_difference_141 (by decide) ?_
          exact ih (q + 1) _ (by omega) (by omega) h5 _ _ _ _ hO ls hl
        · skip
          rw [nI_clamp (by omega)] at c_3
          have hmg := misL_get (q := ln) (by omega) c_3
          refine g_iload hC hl dX4_difference_110 rfl ?_
          refine lv_if_ne (tgt := 135) hC.1 hC.2.1 dX4_difference_112 (by decide) (fun c_4 => ?_) (fun c_4 => ?_)
          · skip
            rw [nI_eq0 (by omega)] at c_4
            have h5 : lf - 1 + (misL σ k (q + 1)).length = L0 := by
              rw [misL, if_pos (by assumption), List.length_append, List.length_singleton]; omega
            refine g_iinc (v := nI (lf - 1)) hC hl dX4_difference_135 rfl (nI_m1 (by omega)) (Nat.le_of_ble_eq_true rfl) rfl (fun ls hl => ?_)
            have hl : LL ls 6 [some _, some _, some _, some _, some _, some _] := hl
            refine g_iinc (v := nI (q + 1)) hC hl dX4_difference_138 rfl (nI_i1 q) (Nat.le_of_ble_eq_true rfl) rfl (fun ls hl => ?_)
            have hl : LL ls 6 [some _, some _, some _, some _, some _, some _] := hl
            refine lv_goto (tgt := 84) hC.1 hC.2.1 dX4_difference_141 (by decide) ?_
            exact ih (q + 1) _ (by omega) (by omega) h5 _ _ _ _ hO ls hl
          · skip
            rw [nI_eq0 (by omega)] at c_4
            have h9 : mdF σ k ln ex we i p2 = pickF p2 2 (sI σ 17 (12 * k + q)).toInt64 := by
              have e0 : L0 = (misL σ k q).length := by omega
              rw [hres, mdT, e0, if_pos hmg.1, hmg.2]
            refine g_aload_n hC hl dX4_difference_115 rfl rfl ?_
            refine g_iload_n hC hl dX4_difference_116 rfl rfl ?_
            refine lv_iconst (v := 2) hC.1 hC.2.1 dX4_difference_117 (by decide) ?_
            refine g_aload_n hC hl dX4_difference_118 rfl rfl ?_
            refine g_get (ci := 4) (k := 13) hC hO rfl inX4 (by decide) q_fl_RX4_42 (nn_lt (Nat.le_of_ble_eq_true rfl)) rfl rfl dX4_difference_119 ?_
            refine lv_bipush (v := 12) hC.1 hC.2.1 dX4_difference_122 (by decide) ?_
            refine g_iload_n hC hl dX4_difference_124 rfl rfl ?_
            refine lv_imul hC.1 hC.2.1 dX4_difference_125 ?_
            refine g_iload hC hl dX4_difference_126 rfl ?_
            refine lv_iadd hC.1 hC.2.1 dX4_difference_128 ?_
            rw [ix12]
            refine g_iald hC hO (nn_lt (Nat.le_of_ble_eq_true rfl)) rfl (vp_in_nI (by omega) (by omega)) dX4_difference_129 ?_
            refine lv_i2l hC.1 hC.2.1 dX4_difference_130 rfl ?_
            refine g_cVi3 hC hO hl (ci := 4) rfl (nn_lt (Nat.le_of_ble_eq_true rfl)) rfl (c_X4_pick l κ _ _ _ _) mi_X4_pick q_ml_RX4_130 rfl rfl ⟨Nat.le_of_ble_eq_true rfl, Nat.le_of_ble_eq_true rfl⟩ (Nat.le_of_ble_eq_true rfl) ⟨Nat.zero_le _, Nat.zero_le _⟩ dX4_difference_131 (fun r σ1 F th H locs hr hO => ?_)
            obtain ⟨rfl, rfl⟩ := hr
            exact g_iret hC hO dX4_difference_134 (⟨rfl, by rw [h9, nI_clamp (by omega)]⟩)
  refine g_iload_n hC hl dX4_difference_0 rfl rfl ?_
  refine g_istore hC hl dX4_difference_1 (Nat.le_of_ble_eq_true rfl) rfl (fun ls hl => ?_)
  have hl : LL ls 6 [some _, some _, some _, some _, some _, none] := hl
  refine g_aload_n hC hl dX4_difference_3 rfl rfl ?_
  refine g_get (ci := 4) (k := 11) hC hO rfl inX4 (by decide) q_fl_RX4_36 (nn_lt (Nat.le_of_ble_eq_true rfl)) rfl rfl dX4_difference_4 ?_
  refine g_iload_n hC hl dX4_difference_7 rfl rfl ?_
  refine g_lald hC hO (nn_lt (Nat.le_of_ble_eq_true rfl)) rfl (vp_in_nI (by omega) (by omega)) dX4_difference_8 ?_
  refine g_aload_n hC hl dX4_difference_9 rfl rfl ?_
  refine g_get (ci := 4) (k := 9) hC hO rfl inX4 (by decide) q_fl_RX4_29 (nn_lt (Nat.le_of_ble_eq_true rfl)) rfl rfl dX4_difference_10 ?_
  refine g_iload_n hC hl dX4_difference_13 rfl rfl ?_
  refine g_lald hC hO (nn_lt (Nat.le_of_ble_eq_true rfl)) rfl (vp_in_nI (by omega) (by omega)) dX4_difference_14 ?_
  refine W.lcmp hC.1 hC.2.1 dX4_difference_15 ?_
  refine lv_if_eq (tgt := 40) hC.1 hC.2.1 dX4_difference_16 (by decide) (fun c_5 => ?_) (fun c_5 => ?_)
  · skip
    rw [lg_cmp_eq] at c_5
    rw [ck] at c_5
    obtain ⟨j, hj, h3, hl⟩ : ∃ j, j < 2 ^ 31 ∧ mdF σ k ln ex we i p2 = mdW σ k ln ex we j p2 ∧ LL ls 6 [some (.ref (kad κ 6)), some (.int (nI k)), some (.int (nI i)), some (.int p2), some (.int (nI j)), none] := ⟨i, hi, by rw [mdF, if_pos c_5], hl⟩
    refine g_iload hC hl dX4_difference_40 rfl ?_
    refine g_aload_n hC hl dX4_difference_42 rfl rfl ?_
    refine g_get (ci := 4) (k := 17) hC hO rfl inX4 (by decide) q_fl_RX4_54 (nn_lt (Nat.le_of_ble_eq_true rfl)) rfl rfl dX4_difference_43 ?_
    refine g_iload_n hC hl dX4_difference_46 rfl rfl ?_
    refine g_iald hC hO (nn_lt (Nat.le_of_ble_eq_true rfl)) rfl (vp_in_nI (by omega) (by omega)) dX4_difference_47 ?_
    refine lv_icmp_ge (tgt := 70) hC.1 hC.2.1 dX4_difference_48 (by decide) (fun c_6 => ?_) (fun c_6 => ?_)
    · skip
      rw [ck, hw0, nI_leI (by omega) (by omega)] at c_6
      have hjw := c_6
      have h6 : mdF σ k ln ex we i p2 = mdT σ k ln ex (j - we) p2 := by rw [h3, mdW, if_neg (by omega)]
      refine g_iload hC hl dX4_difference_70 rfl ?_
      refine g_aload_n hC hl dX4_difference_72 rfl rfl ?_
      refine g_get (ci := 4) (k := 17) hC hO rfl inX4 (by decide) q_fl_RX4_54 (nn_lt (Nat.le_of_ble_eq_true rfl)) rfl rfl dX4_difference_73 ?_
      refine g_iload_n hC hl dX4_difference_76 rfl rfl ?_
      refine g_iald hC hO (nn_lt (Nat.le_of_ble_eq_true rfl)) rfl (vp_in_nI (by omega) (by omega)) dX4_difference_77 ?_
      refine lv_isub hC.1 hC.2.1 dX4_difference_78 ?_
      rw [ck, hw0, pk_sub (show we ≤ j by omega)]
      refine g_istore hC hl dX4_difference_79 (Nat.le_of_ble_eq_true rfl) rfl (fun ls hl => ?_)
      have hl : LL ls 6 [some _, some _, some _, some _, some _, none] := hl
      refine lv_iconst (v := 0) hC.1 hC.2.1 dX4_difference_81 (by decide) ?_
      refine g_istore hC hl dX4_difference_82 (Nat.le_of_ble_eq_true rfl) rfl (fun ls hl => ?_)
      have hl : LL ls 6 [some _, some _, some _, some _, some _, some _] := hl
      exact loop84 (j - we) (by omega) h6 (ln + 1) 0 (j - we) (by omega) (by omega) rfl _ _ _ _ hO ls hl
    · skip
      rw [ck, hw0, nI_leI (by omega) (by omega)] at c_6
      have h9 : mdF σ k ln ex we i p2 = pickF p2 1 (sJ σ 22 (6 * k + j)) := by rw [h3, mdW, if_pos (by omega)]
      refine g_aload_n hC hl dX4_difference_51 rfl rfl ?_
      refine g_iload_n hC hl dX4_difference_52 rfl rfl ?_
      refine lv_iconst (v := 1) hC.1 hC.2.1 dX4_difference_53 (by decide) ?_
      refine g_aload_n hC hl dX4_difference_54 rfl rfl ?_
      refine g_get (ci := 4) (k := 18) hC hO rfl inX4 (by decide) q_fl_RX4_57 (nn_lt (Nat.le_of_ble_eq_true rfl)) rfl rfl dX4_difference_55 ?_
      refine lv_bipush (v := 6) hC.1 hC.2.1 dX4_difference_58 (by decide) ?_
      refine g_iload_n hC hl dX4_difference_60 rfl rfl ?_
      refine lv_imul hC.1 hC.2.1 dX4_difference_61 ?_
      refine g_iload hC hl dX4_difference_62 rfl ?_
      refine lv_iadd hC.1 hC.2.1 dX4_difference_64 ?_
      rw [ix6]
      refine g_lald hC hO (nn_lt (Nat.le_of_ble_eq_true rfl)) rfl (vp_in_nI (by omega) (by omega)) dX4_difference_65 ?_
      refine g_cVi3 hC hO hl (ci := 4) rfl (nn_lt (Nat.le_of_ble_eq_true rfl)) rfl (c_X4_pick l κ _ _ _ _) mi_X4_pick q_ml_RX4_130 rfl rfl ⟨Nat.le_of_ble_eq_true rfl, Nat.le_of_ble_eq_true rfl⟩ (Nat.le_of_ble_eq_true rfl) ⟨Nat.zero_le _, Nat.zero_le _⟩ dX4_difference_66 (fun r σ1 F th H locs hr hO => ?_)
      obtain ⟨rfl, rfl⟩ := hr
      exact g_iret hC hO dX4_difference_69 (⟨rfl, by rw [h9, nI_clamp (by omega)]⟩)
  · skip
    rw [lg_cmp_eq] at c_5
    rw [ck] at c_5
    have hrs := c_5
    refine g_iload hC hl dX4_difference_19 rfl ?_
    refine lv_if_ne (tgt := 37) hC.1 hC.2.1 dX4_difference_21 (by decide) (fun c_7 => ?_) (fun c_7 => ?_)
    · skip
      rw [nI_eq0 hi] at c_7
      have hi0 := c_7
      refine g_iinc (v := nI (i - 1)) hC hl dX4_difference_37 rfl (nI_m1 (by omega)) (Nat.le_of_ble_eq_true rfl) rfl (fun ls hl => ?_)
      have hl : LL ls 6 [some _, some _, some _, some _, some _, none] := hl
      obtain ⟨j, hj, h3, hl⟩ : ∃ j, j < 2 ^ 31 ∧ mdF σ k ln ex we i p2 = mdW σ k ln ex we j p2 ∧ LL ls 6 [some (.ref (kad κ 6)), some (.int (nI k)), some (.int (nI i)), some (.int p2), some (.int (nI j)), none] := ⟨i - 1, by omega, by rw [mdF, if_neg hrs, if_neg hi0], hl⟩
      refine g_iload hC hl dX4_difference_40 rfl ?_
      refine g_aload_n hC hl dX4_difference_42 rfl rfl ?_
      refine g_get (ci := 4) (k := 17) hC hO rfl inX4 (by decide) q_fl_RX4_54 (nn_lt (Nat.le_of_ble_eq_true rfl)) rfl rfl dX4_difference_43 ?_
      refine g_iload_n hC hl dX4_difference_46 rfl rfl ?_
      refine g_iald hC hO (nn_lt (Nat.le_of_ble_eq_true rfl)) rfl (vp_in_nI (by omega) (by omega)) dX4_difference_47 ?_
      refine lv_icmp_ge (tgt := 70) hC.1 hC.2.1 dX4_difference_48 (by decide) (fun c_8 => ?_) (fun c_8 => ?_)
      · skip
        rw [ck, hw0, nI_leI (by omega) (by omega)] at c_8
        have hjw := c_8
        have h6 : mdF σ k ln ex we i p2 = mdT σ k ln ex (j - we) p2 := by rw [h3, mdW, if_neg (by omega)]
        refine g_iload hC hl dX4_difference_70 rfl ?_
        refine g_aload_n hC hl dX4_difference_72 rfl rfl ?_
        refine g_get (ci := 4) (k := 17) hC hO rfl inX4 (by decide) q_fl_RX4_54 (nn_lt (Nat.le_of_ble_eq_true rfl)) rfl rfl dX4_difference_73 ?_
        refine g_iload_n hC hl dX4_difference_76 rfl rfl ?_
        refine g_iald hC hO (nn_lt (Nat.le_of_ble_eq_true rfl)) rfl (vp_in_nI (by omega) (by omega)) dX4_difference_77 ?_
        refine lv_isub hC.1 hC.2.1 dX4_difference_78 ?_
        rw [ck, hw0, pk_sub (show we ≤ j by omega)]
        refine g_istore hC hl dX4_difference_79 (Nat.le_of_ble_eq_true rfl) rfl (fun ls hl => ?_)
        have hl : LL ls 6 [some _, some _, some _, some _, some _, none] := hl
        refine lv_iconst (v := 0) hC.1 hC.2.1 dX4_difference_81 (by decide) ?_
        refine g_istore hC hl dX4_difference_82 (Nat.le_of_ble_eq_true rfl) rfl (fun ls hl => ?_)
        have hl : LL ls 6 [some _, some _, some _, some _, some _, some _] := hl
        exact loop84 (j - we) (by omega) h6 (ln + 1) 0 (j - we) (by omega) (by omega) rfl _ _ _ _ hO ls hl
      · skip
        rw [ck, hw0, nI_leI (by omega) (by omega)] at c_8
        have h9 : mdF σ k ln ex we i p2 = pickF p2 1 (sJ σ 22 (6 * k + j)) := by rw [h3, mdW, if_pos (by omega)]
        refine g_aload_n hC hl dX4_difference_51 rfl rfl ?_
        refine g_iload_n hC hl dX4_difference_52 rfl rfl ?_
        refine lv_iconst (v := 1) hC.1 hC.2.1 dX4_difference_53 (by decide) ?_
        refine g_aload_n hC hl dX4_difference_54 rfl rfl ?_
        refine g_get (ci := 4) (k := 18) hC hO rfl inX4 (by decide) q_fl_RX4_57 (nn_lt (Nat.le_of_ble_eq_true rfl)) rfl rfl dX4_difference_55 ?_
        refine lv_bipush (v := 6) hC.1 hC.2.1 dX4_difference_58 (by decide) ?_
        refine g_iload_n hC hl dX4_difference_60 rfl rfl ?_
        refine lv_imul hC.1 hC.2.1 dX4_difference_61 ?_
        refine g_iload hC hl dX4_difference_62 rfl ?_
        refine lv_iadd hC.1 hC.2.1 dX4_difference_64 ?_
        rw [ix6]
        refine g_lald hC hO (nn_lt (Nat.le_of_ble_eq_true rfl)) rfl (vp_in_nI (by omega) (by omega)) dX4_difference_65 ?_
        refine g_cVi3 hC hO hl (ci := 4) rfl (nn_lt (Nat.le_of_ble_eq_true rfl)) rfl (c_X4_pick l κ _ _ _ _) mi_X4_pick q_ml_RX4_130 rfl rfl ⟨Nat.le_of_ble_eq_true rfl, Nat.le_of_ble_eq_true rfl⟩ (Nat.le_of_ble_eq_true rfl) ⟨Nat.zero_le _, Nat.zero_le _⟩ dX4_difference_66 (fun r σ1 F th H locs hr hO => ?_)
        obtain ⟨rfl, rfl⟩ := hr
        exact g_iret hC hO dX4_difference_69 (⟨rfl, by rw [h9, nI_clamp (by omega)]⟩)
    · skip
      rw [nI_eq0 hi] at c_7
      have h9 : mdF σ k ln ex we i p2 = pickF p2 0 (sJ σ 15 k) := by rw [mdF, if_neg hrs, if_pos c_7]
      refine g_aload_n hC hl dX4_difference_24 rfl rfl ?_
      refine g_iload_n hC hl dX4_difference_25 rfl rfl ?_
      refine lv_iconst (v := 0) hC.1 hC.2.1 dX4_difference_26 (by decide) ?_
      refine g_aload_n hC hl dX4_difference_27 rfl rfl ?_
      refine g_get (ci := 4) (k := 11) hC hO rfl inX4 (by decide) q_fl_RX4_36 (nn_lt (Nat.le_of_ble_eq_true rfl)) rfl rfl dX4_difference_28 ?_
      refine g_iload_n hC hl dX4_difference_31 rfl rfl ?_
      refine g_lald hC hO (nn_lt (Nat.le_of_ble_eq_true rfl)) rfl (vp_in_nI (by omega) (by omega)) dX4_difference_32 ?_
      refine g_cVi3 hC hO hl (ci := 4) rfl (nn_lt (Nat.le_of_ble_eq_true rfl)) rfl (c_X4_pick l κ _ _ _ _) mi_X4_pick q_ml_RX4_130 rfl rfl ⟨Nat.le_of_ble_eq_true rfl, Nat.le_of_ble_eq_true rfl⟩ (Nat.le_of_ble_eq_true rfl) ⟨Nat.zero_le _, Nat.zero_le _⟩ dX4_difference_33 (fun r σ1 F th H locs hr hO => ?_)
      obtain ⟨rfl, rfl⟩ := hr
      exact g_iret hC hO dX4_difference_36 (⟨rfl, by rw [h9, ck]⟩)
