set_option maxHeartbeats 4000000 in
set_option maxRecDepth 100000 in
/-- Row.size -/
theorem c_X2_size (l : Launch) (κ : KK) (σ : ST) (k j : Nat) (hk : k < σ.1) (hj : j < 6) : Met l yX2_size (wA yX2_size cX2_size 1 (some .int)) ({ frames := 0, cells := 0, slots := 0, locals := 0 }) (va_Pc [.ref (kad κ (rc k j))] (WX κ σ)) (va_Qi (fun r σ' => σ = σ' ∧ r = nI (sR σ (rc k j)).length) (WX κ) (FA κ)) 0 0 (FA κ) := by
  refine g_met 0 (by decide) rfl (Nat.le_of_ble_eq_true rfl) ?_
  intro p e s m args below meth c hC F th hO ls hl
  have hl : LL ls 1 [some _] := hl
  refine g_aload_n hC hl dX2_size_0 rfl rfl ?_
  refine g_get (ci := 2) (k := 1) hC hO rfl inX2 (by decide) q_fl_RX2_13 (nn_rc hk hj) (sh_row _ _ _ _ _ hj) rfl dX2_size_1 ?_
  exact g_iret hC hO dX2_size_4 (⟨rfl, rfl⟩)

set_option maxHeartbeats 4000000 in
set_option maxRecDepth 100000 in
/-- Row.isFull -/
theorem c_X2_isFull (l : Launch) (κ : KK) (σ : ST) (k j : Nat) (hk : k < σ.1) (hj : j < 6) : Met l yX2_isFull (wA yX2_isFull cX2_isFull 1 (some .boolean)) ({ frames := 0, cells := 0, slots := 0, locals := 0 }) (va_Pc [.ref (kad κ (rc k j))] (WX κ σ)) (va_Qi (fun r σ' => σ = σ' ∧ r = bI (decide (capj j ≤ (sR σ (rc k j)).length))) (WX κ) (FA κ)) 0 0 (FA κ) := by
  refine g_met 0 (by decide) rfl (Nat.le_of_ble_eq_true rfl) ?_
  intro p e s m args below meth c hC F th hO ls hl
  have hl : LL ls 1 [some _] := hl
  have hlen := hO.1.len hk hj
  have hcap := capj_le j
  refine g_aload_n hC hl dX2_isFull_0 rfl rfl ?_
  refine g_get (ci := 2) (k := 1) hC hO rfl inX2 (by decide) q_fl_RX2_13 (nn_rc hk hj) (sh_row _ _ _ _ _ hj) rfl dX2_isFull_1 ?_
  refine g_aload_n hC hl dX2_isFull_4 rfl rfl ?_
  refine g_get (ci := 2) (k := 0) hC hO rfl inX2 (by decide) q_fl_RX2_7 (nn_rc hk hj) (sh_row _ _ _ _ _ hj) rfl dX2_isFull_5 ?_
  refine g_alenI (v := nI (capj j)) hC hO (nn_ra hk hj) (sh_arr _ _ _ _ _ hj) rfl dX2_isFull_8 ?_
  refine lv_icmp_lt (tgt := 16) hC.1 hC.2.1 dX2_isFull_9 (by decide) (fun c_1 => ?_) (fun c_1 => ?_)
  · skip
    rw [nI_ltI (by omega) (by omega)] at c_1
    refine lv_iconst (v := 0) hC.1 hC.2.1 dX2_isFull_16 (by decide) ?_
    exact g_zret hC hO dX2_isFull_17 (by decide) (⟨rfl, by first | exact bI_t (decide_eq_true (by omega)) | exact bI_f (decide_eq_false (by omega))⟩)
  · skip
    rw [nI_ltI (by omega) (by omega)] at c_1
    refine lv_iconst (v := 1) hC.1 hC.2.1 dX2_isFull_12 (by decide) ?_
    refine lv_goto (tgt := 17) hC.1 hC.2.1 dX2_isFull_13 (by decide) ?_
    exact g_zret hC hO dX2_isFull_17 (by decide) (⟨rfl, by first | exact bI_t (decide_eq_true (by omega)) | exact bI_f (decide_eq_false (by omega))⟩)

set_option maxHeartbeats 4000000 in
set_option maxRecDepth 100000 in
/-- Row.at -/
theorem c_X2_at (l : Launch) (κ : KK) (σ : ST) (k j : Nat) (hk : k < σ.1) (hj : j < 6) (p0 : Int32) : Met l yX2_at (wA yX2_at cX2_at 2 (some .int)) ({ frames := 0, cells := 0, slots := 0, locals := 0 }) (va_Pc [.ref (kad κ (rc k j)), .int p0] (WX κ σ)) (va_Qi (fun r σ' => σ = σ' ∧ r = rowAt (sR σ (rc k j)) p0) (WX κ) (FA κ)) 0 0 (FA κ) := by
  refine g_met 0 (by decide) rfl (Nat.le_of_ble_eq_true rfl) ?_
  intro p e s m args below meth c hC F th hO ls hl
  have hl : LL ls 2 [some _, some _] := hl
  have hlen := hO.1.len hk hj
  have hcap := capj_le j
  refine g_iload_n hC hl dX2_at_0 rfl rfl ?_
  refine lv_if_lt (tgt := 30) hC.1 hC.2.1 dX2_at_1 (by decide) (fun c_1 => ?_) (fun c_1 => ?_)
  · skip
    have h1 : rowAt (sR σ (rc k j)) p0 = 0 := by unfold rowAt; rw [if_pos c_1]
    refine lv_iconst (v := 0) hC.1 hC.2.1 dX2_at_30 (by decide) ?_
    exact g_iret hC hO dX2_at_31 (⟨rfl, by first | exact h1 | exact h1.symm⟩)
  · skip
    obtain ⟨i, hi, rfl⟩ := nI_of c_1
    refine g_iload_n hC hl dX2_at_4 rfl rfl ?_
    refine g_aload_n hC hl dX2_at_5 rfl rfl ?_
    refine g_get (ci := 2) (k := 1) hC hO rfl inX2 (by decide) q_fl_RX2_13 (nn_rc hk hj) (sh_row _ _ _ _ _ hj) rfl dX2_at_6 ?_
    refine lv_icmp_ge (tgt := 30) hC.1 hC.2.1 dX2_at_9 (by decide) (fun c_2 => ?_) (fun c_2 => ?_)
    · skip
      have h1 : rowAt (sR σ (rc k j)) (nI i) = 0 := rowAt_ge (by omega) c_2
      refine lv_iconst (v := 0) hC.1 hC.2.1 dX2_at_30 (by decide) ?_
      exact g_iret hC hO dX2_at_31 (⟨rfl, by first | exact h1 | exact h1.symm⟩)
    · skip
      rw [nI_leI (by omega) (by omega)] at c_2
      refine g_iload_n hC hl dX2_at_12 rfl rfl ?_
      refine g_aload_n hC hl dX2_at_13 rfl rfl ?_
      refine g_get (ci := 2) (k := 0) hC hO rfl inX2 (by decide) q_fl_RX2_7 (nn_rc hk hj) (sh_row _ _ _ _ _ hj) rfl dX2_at_14 ?_
      refine g_alenI (v := nI (capj j)) hC hO (nn_ra hk hj) (sh_arr _ _ _ _ _ hj) rfl dX2_at_17 ?_
      refine lv_icmp_ge (tgt := 30) hC.1 hC.2.1 dX2_at_18 (by decide) (fun c_3 => ?_) (fun c_3 => ?_)
      · skip
        rw [nI_leI (by omega) (by omega)] at c_3
        exact absurd c_3 (by omega)
      · skip
        have h1 : F (rc k j + 1) (nI i).toNatClampNeg = rowAt (sR σ (rc k j)) (nI i) := by
          rw [nI_clamp (by omega), hO.1.get hk hj (by omega)]
          unfold rowAt
          rw [if_neg (nI_pos (by omega)), nI_clamp (by omega)]
        refine g_aload_n hC hl dX2_at_21 rfl rfl ?_
        refine g_get (ci := 2) (k := 0) hC hO rfl inX2 (by decide) q_fl_RX2_7 (nn_rc hk hj) (sh_row _ _ _ _ _ hj) rfl dX2_at_22 ?_
        refine g_iload_n hC hl dX2_at_25 rfl rfl ?_
        refine g_iald hC hO (nn_ra hk hj) (sh_arr _ _ _ _ _ hj) (vp_in_nI (by omega) (by omega)) dX2_at_26 ?_
        refine lv_goto (tgt := 31) hC.1 hC.2.1 dX2_at_27 (by decide) ?_
        exact g_iret hC hO dX2_at_31 (⟨rfl, by first | exact h1 | exact h1.symm⟩)

set_option maxHeartbeats 4000000 in
set_option maxRecDepth 100000 in
/-- Row.holds -/
theorem c_X2_holds (l : Launch) (κ : KK) (σ : ST) (k j : Nat) (hk : k < σ.1) (hj : j < 6) (p0 : Int32) : Met l yX2_holds (wA yX2_holds cX2_holds 3 (some .boolean)) ({ frames := 0, cells := 0, slots := 0, locals := 0 }) (va_Pc [.ref (kad κ (rc k j)), .int p0] (WX κ σ)) (va_Qi (fun r σ' => σ = σ' ∧ r = bI (decide (p0 ∈ sR σ (rc k j)))) (WX κ) (FA κ)) 0 0 (FA κ) := by
  refine g_met 1 (by decide) rfl (Nat.le_of_ble_eq_true rfl) ?_
  intro p e s m args below meth c hC F th hO ls hl
  have hl : LL ls 3 [some _, some _, none] := hl
  have hlen := hO.1.len hk hj
  have hcap := capj_le j
  have loop2 : ∀ (n i : Nat), (sR σ (rc k j)).length + 1 ≤ i + n → i ≤ (sR σ (rc k j)).length → (∀ a, a < i → (sR σ (rc k j)).getD a 0 ≠ p0) → ∀ ls : Array Slot, LL ls 3 [some (.ref (kad κ (rc k j))), some (.int p0), some (.int (nI i))] → W p l e ({ frames := 0, cells := 0, slots := 0, locals := 0 } : Room) s m args below meth c s.heap [] 0 0 (MQ below (va_Qi (fun r σ' => σ = σ' ∧ r = bI (decide (p0 ∈ sR σ (rc k j)))) (WX κ) (FA κ)) args s 0 0 (FA κ)) (F0 m 2 ls []) := by
    intro n
    induction n with
    | zero => intro i h1 h2; exact absurd h1 (by omega)
    | succ n ih =>
      intro i h1 h2 h3 ls hl
      --
      refine g_iload_n hC hl dX2_holds_2 rfl rfl ?_
      refine g_aload_n hC hl dX2_holds_3 rfl rfl ?_
      refine g_get (ci := 2) (k := 1) hC hO rfl inX2 (by decide) q_fl_RX2_13 (nn_rc hk hj) (sh_row _ _ _ _ _ hj) rfl dX2_holds_4 ?_
      refine lv_icmp_ge (tgt := 37) hC.1 hC.2.1 dX2_holds_7 (by decide) (fun c_1 => ?_) (fun c_1 => ?_)
      · skip
        rw [nI_leI (by omega) (by omega)] at c_1
        have hno : ¬ p0 ∈ sR σ (rc k j) := fun h => by
          obtain ⟨a, ha, hx⟩ := row_mem.mp h
          exact h3 a (by omega) hx
        refine lv_iconst (v := 0) hC.1 hC.2.1 dX2_holds_37 (by decide) ?_
        exact g_zret hC hO dX2_holds_38 (by decide) (⟨rfl, bI_f (decide_eq_false hno)⟩)
      · skip
        rw [nI_leI (by omega) (by omega)] at c_1
        refine g_iload_n hC hl dX2_holds_10 rfl rfl ?_
        refine g_aload_n hC hl dX2_holds_11 rfl rfl ?_
        refine g_get (ci := 2) (k := 0) hC hO rfl inX2 (by decide) q_fl_RX2_7 (nn_rc hk hj) (sh_row _ _ _ _ _ hj) rfl dX2_holds_12 ?_
        refine g_alenI (v := nI (capj j)) hC hO (nn_ra hk hj) (sh_arr _ _ _ _ _ hj) rfl dX2_holds_15 ?_
        refine lv_icmp_ge (tgt := 37) hC.1 hC.2.1 dX2_holds_16 (by decide) (fun c_2 => ?_) (fun c_2 => ?_)
        · skip
          rw [nI_leI (by omega) (by omega)] at c_2
          exact absurd c_2 (by omega)
        · skip
          refine g_aload_n hC hl dX2_holds_19 rfl rfl ?_
          refine g_get (ci := 2) (k := 0) hC hO rfl inX2 (by decide) q_fl_RX2_7 (nn_rc hk hj) (sh_row _ _ _ _ _ hj) rfl dX2_holds_20 ?_
          refine g_iload_n hC hl dX2_holds_23 rfl rfl ?_
          refine g_iald hC hO (nn_ra hk hj) (sh_arr _ _ _ _ _ hj) (vp_in_nI (by omega) (by omega)) dX2_holds_24 ?_
          refine g_iload_n hC hl dX2_holds_25 rfl rfl ?_
          refine lv_icmp_ne (tgt := 31) hC.1 hC.2.1 dX2_holds_26 (by decide) (fun c_3 => ?_) (fun c_3 => ?_)
          · skip
            rw [nI_clamp (by omega), hO.1.get hk hj (by omega)] at c_3
            have hne : (sR σ (rc k j)).getD i 0 ≠ p0 := c_3
            refine g_iinc (v := nI (i + 1)) hC hl dX2_holds_31 rfl (nI_i1 i) (Nat.le_of_ble_eq_true rfl) rfl (fun ls hl => ?_)
            have hl : LL ls 3 [some _, some _, some _] := hl
            refine lv_goto (tgt := 2) hC.1 hC.2.1 dX2_holds_34 (by decide) ?_
            exact ih (i + 1) (by omega) (by omega) (fun a ha => by
              rcases Nat.lt_succ_iff_lt_or_eq.mp ha with h | rfl
              · exact h3 a h
              · exact hne) ls hl
          · skip
            rw [nI_clamp (by omega), hO.1.get hk hj (by omega)] at c_3
            have hyes : p0 ∈ sR σ (rc k j) := row_mem.mpr ⟨i, by omega, c_3⟩
            refine lv_iconst (v := 1) hC.1 hC.2.1 dX2_holds_29 (by decide) ?_
            exact g_zret hC hO dX2_holds_30 (by decide) (⟨rfl, bI_t (decide_eq_true hyes)⟩)
  refine lv_iconst (v := 0) hC.1 hC.2.1 dX2_holds_0 (by decide) ?_
  refine g_istore_n hC hl dX2_holds_1 rfl (Nat.le_of_ble_eq_true rfl) rfl (fun ls hl => ?_)
  have hl : LL ls 3 [some _, some _, some _] := hl
  exact loop2 ((sR σ (rc k j)).length + 1) 0 (by omega) (by omega) (fun a ha => absurd ha (by omega)) ls hl

set_option maxHeartbeats 4000000 in
set_option maxRecDepth 100000 in
/-- Row.append -/
theorem c_X2_append (l : Launch) (κ : KK) (σ : ST) (k j : Nat) (hk : k < σ.1) (hj : j < 6) (p0 : Int32) : Met l yX2_append (wA yX2_append cX2_append 2 none) ({ frames := 0, cells := 0, slots := 0, locals := 0 }) (va_Pc [.ref (kad κ (rc k j)), .int p0] (WX κ σ)) (va_Qv (fun σ' => σ' = upR σ (rc k j) (if (sR σ (rc k j)).length < capj j then sR σ (rc k j) ++ [p0] else sR σ (rc k j))) (WX κ) (FA κ)) 0 0 (FA κ) := by
  refine g_met 0 (by decide) rfl (Nat.le_of_ble_eq_true rfl) ?_
  intro p e s m args below meth c hC F th hO ls hl
  have hl : LL ls 2 [some _, some _] := hl
  have hlen := hO.1.len hk hj
  have hcap := capj_le j
  refine g_aload_n hC hl dX2_append_0 rfl rfl ?_
  refine g_get (ci := 2) (k := 1) hC hO rfl inX2 (by decide) q_fl_RX2_13 (nn_rc hk hj) (sh_row _ _ _ _ _ hj) rfl dX2_append_1 ?_
  refine lv_if_lt (tgt := 39) hC.1 hC.2.1 dX2_append_4 (by decide) (fun c_1 => ?_) (fun c_1 => ?_)
  · skip
    exact absurd c_1 (nI_pos (by omega))
  · skip
    refine g_aload_n hC hl dX2_append_7 rfl rfl ?_
    refine g_get (ci := 2) (k := 1) hC hO rfl inX2 (by decide) q_fl_RX2_13 (nn_rc hk hj) (sh_row _ _ _ _ _ hj) rfl dX2_append_8 ?_
    refine g_aload_n hC hl dX2_append_11 rfl rfl ?_
    refine g_get (ci := 2) (k := 0) hC hO rfl inX2 (by decide) q_fl_RX2_7 (nn_rc hk hj) (sh_row _ _ _ _ _ hj) rfl dX2_append_12 ?_
    refine g_alenI (v := nI (capj j)) hC hO (nn_ra hk hj) (sh_arr _ _ _ _ _ hj) rfl dX2_append_15 ?_
    refine lv_icmp_ge (tgt := 39) hC.1 hC.2.1 dX2_append_16 (by decide) (fun c_2 => ?_) (fun c_2 => ?_)
    · skip
      rw [nI_leI (by omega) (by omega)] at c_2
      have h1 : σ = upR σ (rc k j) (if (sR σ (rc k j)).length < capj j then sR σ (rc k j) ++ [p0] else sR σ (rc k j)) := by rw [if_neg (by omega), upR_self]
      exact g_vret hC hO dX2_append_39 (h1)
    · skip
      rw [nI_leI (by omega) (by omega)] at c_2
      refine g_aload_n hC hl dX2_append_19 rfl rfl ?_
      refine g_get (ci := 2) (k := 0) hC hO rfl inX2 (by decide) q_fl_RX2_7 (nn_rc hk hj) (sh_row _ _ _ _ _ hj) rfl dX2_append_20 ?_
      refine g_aload_n hC hl dX2_append_23 rfl rfl ?_
      refine g_get (ci := 2) (k := 1) hC hO rfl inX2 (by decide) q_fl_RX2_13 (nn_rc hk hj) (sh_row _ _ _ _ _ hj) rfl dX2_append_24 ?_
      refine g_iload_n hC hl dX2_append_27 rfl rfl ?_
      refine g_iastF (sR σ (rc k j)) hC hO hk hj (vp_in_nI (by omega) (by omega)) rfl (fun a y h => ?_) dX2_append_28 (fun H locs hO2 => ?_)
      · have ha := (List.getElem?_eq_some_iff.mp h).1
        rw [nI_clamp (by omega), upd, if_neg (by omega)]
        exact (hO.1.2 k j hk hj).2 a y h
      rw [upR_self] at hO2
      have hval : ∀ (a : Nat) (y : Int32), (sR σ (rc k j) ++ [p0])[a]? = some y → va_up F (rc k j + 1) (upd (F (rc k j + 1)) (nI (sR σ (rc k j)).length).toNatClampNeg p0) (rc k j + 1) a = y := by
        intro a y h
        rw [va_up_self, nI_clamp (by omega), upd]
        split
        · subst a
          rw [List.getElem?_concat_length] at h
          exact Option.some.inj h
        · have ha := (List.getElem?_eq_some_iff.mp h).1
          rw [List.length_append, List.length_singleton] at ha
          rw [List.getElem?_append_left (by omega)] at h
          exact (hO.1.2 k j hk hj).2 a y h
      generalize va_up F (rc k j + 1) (upd (F (rc k j + 1)) (nI (sR σ (rc k j)).length).toNatClampNeg p0) = F2 at hO2 hval
      have hO := hO2
      refine g_aload_n hC hl dX2_append_29 rfl rfl ?_
      refine lv_dup hC.1 hC.2.1 dX2_append_30 rfl ?_
      refine g_get (ci := 2) (k := 1) hC hO rfl inX2 (by decide) q_fl_RX2_13 (nn_rc hk hj) (sh_row _ _ _ _ _ hj) rfl dX2_append_31 ?_
      refine lv_iconst (v := 1) hC.1 hC.2.1 dX2_append_34 (by decide) ?_
      refine lv_iadd hC.1 hC.2.1 dX2_append_35 ?_
      refine g_putR (sR σ (rc k j) ++ [p0]) hC hO hk hj (by rw [List.length_append, List.length_singleton]; exact (nI_1 _).symm) (by rw [List.length_append, List.length_singleton]; omega) hval q_fl_RX2_13 dX2_append_36 (fun H locs hO => ?_)
      have h1 : upR σ (rc k j) (sR σ (rc k j) ++ [p0]) = upR σ (rc k j) (if (sR σ (rc k j)).length < capj j then sR σ (rc k j) ++ [p0] else sR σ (rc k j)) := by rw [if_pos (by omega)]
      exact g_vret hC hO dX2_append_39 (h1)

set_option maxHeartbeats 4000000 in
set_option maxRecDepth 100000 in
/-- Row.clear -/
theorem c_X2_clear (l : Launch) (κ : KK) (σ : ST) (k j : Nat) (hk : k < σ.1) (hj : j < 6) : Met l yX2_clear (wA yX2_clear cX2_clear 1 none) ({ frames := 0, cells := 0, slots := 0, locals := 0 }) (va_Pc [.ref (kad κ (rc k j))] (WX κ σ)) (va_Qv (fun σ' => σ' = upR σ (rc k j) []) (WX κ) (FA κ)) 0 0 (FA κ) := by
  refine g_met 0 (by decide) rfl (Nat.le_of_ble_eq_true rfl) ?_
  intro p e s m args below meth c hC F th hO ls hl
  have hl : LL ls 1 [some _] := hl
  refine g_aload_n hC hl dX2_clear_0 rfl rfl ?_
  refine lv_iconst (v := 0) hC.1 hC.2.1 dX2_clear_1 (by decide) ?_
  refine g_putR [] hC hO hk hj rfl (Nat.zero_le _) (fun a y h => by simp at h) q_fl_RX2_13 dX2_clear_2 (fun H locs hO => ?_)
  exact g_vret hC hO dX2_clear_5 (rfl)

set_option maxHeartbeats 4000000 in
set_option maxRecDepth 100000 in
/-- Row.remove -/
theorem c_X2_remove (l : Launch) (κ : KK) (σ : ST) (k j : Nat) (hk : k < σ.1) (hj : j < 6) (p0 : Int32) : Met l yX2_remove (wA yX2_remove cX2_remove 4 none) ({ frames := 0, cells := 0, slots := 0, locals := 0 }) (va_Pc [.ref (kad κ (rc k j)), .int p0] (WX κ σ)) (va_Qv (fun σ' => σ' = upR σ (rc k j) ((sR σ (rc k j)).filter (fun y => decide (y ≠ p0)))) (WX κ) (FA κ)) 0 0 (FA κ) := by
  refine g_met 2 (by decide) rfl (Nat.le_of_ble_eq_true rfl) ?_
  intro p e s m args below meth c hC F th hO ls hl
  have hl : LL ls 4 [some _, some _, none, none] := hl
  have hlen := hO.1.len hk hj
  have hcap := capj_le j
  have loop4 : ∀ (n i kept : Nat) (r : List Int32), (sR σ (rc k j)).length + 1 ≤ i + n → i ≤ (sR σ (rc k j)).length → kept ≤ i → r.length = (sR σ (rc k j)).length → r.take kept = ((sR σ (rc k j)).take i).filter (fun y => decide (y ≠ p0)) → r.drop i = (sR σ (rc k j)).drop i → ∀ (F : Nat → Nat → Int32) (th : Int32) (H : Heap) (locs : List Loc), OS κ s.heap (upR σ (rc k j) r) F th H locs → ∀ ls : Array Slot, LL ls 4 [some (.ref (kad κ (rc k j))), some (.int p0), some (.int (nI kept)), some (.int (nI i))] → W p l e ({ frames := 0, cells := 0, slots := 0, locals := 0 } : Room) s m args below meth c H locs 0 0 (MQ below (va_Qv (fun σ' => σ' = upR σ (rc k j) ((sR σ (rc k j)).filter (fun y => decide (y ≠ p0)))) (WX κ) (FA κ)) args s 0 0 (FA κ)) (F0 m 4 ls []) := by
    intro n
    induction n with
    | zero => intro i kept r h1 h2; exact absurd h1 (by omega)
    | succ n ih =>
      intro i kept r h1 h2 hki hr ht hd F th H locs hO ls hl
      refine g_iload_n hC hl dX2_remove_4 rfl rfl ?_
      refine g_aload_n hC hl dX2_remove_5 rfl rfl ?_
      refine g_get (ci := 2) (k := 1) hC hO rfl inX2 (by decide) q_fl_RX2_13 (nn_rc hk hj) (sh_row _ _ _ _ _ hj) rfl dX2_remove_6 ?_
      refine lv_icmp_ge (tgt := 57) hC.1 hC.2.1 dX2_remove_9 (by decide) (fun c_1 => ?_) (fun c_1 => ?_)
      · skip
        rw [sR_upR_self, hr, nI_leI (by omega) (by omega)] at c_1
        have hfin : r.take kept = (sR σ (rc k j)).filter (fun y => decide (y ≠ p0)) := by rw [ht, List.take_of_length_le (by omega)]
        refine g_aload_n hC hl dX2_remove_57 rfl rfl ?_
        refine g_iload_n hC hl dX2_remove_58 rfl rfl ?_
        refine g_putR (r.take kept) hC hO hk hj (by rw [List.length_take, Nat.min_eq_left (by omega)]) (by rw [List.length_take]; omega) (fun a y h => (hO.1.2 k j hk hj).2 a y (by
          rw [sR_upR_self]
          have ha := (List.getElem?_eq_some_iff.mp h).1
          rw [List.length_take] at ha
          rw [List.getElem?_take_of_lt (by omega)] at h
          exact h)) q_fl_RX2_13 dX2_remove_59 (fun H locs hO => ?_)
        exact g_vret hC hO dX2_remove_62 (by rw [upR_upR, hfin])
      · skip
        rw [sR_upR_self, hr, nI_leI (by omega) (by omega)] at c_1
        refine g_iload_n hC hl dX2_remove_12 rfl rfl ?_
        refine g_aload_n hC hl dX2_remove_13 rfl rfl ?_
        refine g_get (ci := 2) (k := 0) hC hO rfl inX2 (by decide) q_fl_RX2_7 (nn_rc hk hj) (sh_row _ _ _ _ _ hj) rfl dX2_remove_14 ?_
        refine g_alenI (v := nI (capj j)) hC hO (nn_ra hk hj) (sh_arr _ _ _ _ _ hj) rfl dX2_remove_17 ?_
        refine lv_icmp_ge (tgt := 57) hC.1 hC.2.1 dX2_remove_18 (by decide) (fun c_2 => ?_) (fun c_2 => ?_)
        · skip
          rw [nI_leI (by omega) (by omega)] at c_2
          exact absurd c_2 (by omega)
        · skip
          have hg : F (rc k j + 1) (nI i).toNatClampNeg = (sR σ (rc k j)).getD i 0 := by
            have h5 := hO.1.get (k := k) (j := j) (i := i) hk hj (by rw [sR_upR_self]; omega)
            rw [sR_upR_self] at h5
            rw [nI_clamp (by omega), h5, drop_getD hd]
          refine g_aload_n hC hl dX2_remove_21 rfl rfl ?_
          refine g_get (ci := 2) (k := 0) hC hO rfl inX2 (by decide) q_fl_RX2_7 (nn_rc hk hj) (sh_row _ _ _ _ _ hj) rfl dX2_remove_22 ?_
          refine g_iload_n hC hl dX2_remove_25 rfl rfl ?_
          refine g_iald hC hO (nn_ra hk hj) (sh_arr _ _ _ _ _ hj) (vp_in_nI (by omega) (by omega)) dX2_remove_26 ?_
          refine g_iload_n hC hl dX2_remove_27 rfl rfl ?_
          refine lv_icmp_eq (tgt := 51) hC.1 hC.2.1 dX2_remove_28 (by decide) (fun c_3 => ?_) (fun c_3 => ?_)
          · skip
            rw [hg] at c_3
            have hs := rem_eq (by omega) ht hd c_3
            have hki2 : kept ≤ i + 1 := by omega
            have hr2 := hr
            refine g_iinc (v := nI (i + 1)) hC hl dX2_remove_51 rfl (nI_i1 i) (Nat.le_of_ble_eq_true rfl) rfl (fun ls hl => ?_)
            have hl : LL ls 4 [some _, some _, some _, some _] := hl
            refine lv_goto (tgt := 4) hC.1 hC.2.1 dX2_remove_54 (by decide) ?_
            exact ih (i + 1) _ _ (by omega) (by omega) hki2 hr2 hs.1 hs.2 _ _ _ _ hO ls hl
          · skip
            rw [hg] at c_3
            have hs := rem_ne hr (by omega) hki ht hd c_3
            have hki2 : kept + 1 ≤ i + 1 := by omega
            have hr2 : (r.set kept ((sR σ (rc k j)).getD i 0)).length = (sR σ (rc k j)).length := by rw [List.length_set, hr]
            refine g_iload_n hC hl dX2_remove_31 rfl rfl ?_
            refine g_iload_n hC hl dX2_remove_32 rfl rfl ?_
            refine lv_icmp_gt (tgt := 51) hC.1 hC.2.1 dX2_remove_33 (by decide) (fun c_4 => ?_) (fun c_4 => ?_)
            · skip
              rw [nI_ltI (by omega) (by omega)] at c_4
              exact absurd c_4 (by omega)
            · skip
              refine g_aload_n hC hl dX2_remove_36 rfl rfl ?_
              refine g_get (ci := 2) (k := 0) hC hO rfl inX2 (by decide) q_fl_RX2_7 (nn_rc hk hj) (sh_row _ _ _ _ _ hj) rfl dX2_remove_37 ?_
              refine g_iload_n hC hl dX2_remove_40 rfl rfl ?_
              refine g_aload_n hC hl dX2_remove_41 rfl rfl ?_
              refine g_get (ci := 2) (k := 0) hC hO rfl inX2 (by decide) q_fl_RX2_7 (nn_rc hk hj) (sh_row _ _ _ _ _ hj) rfl dX2_remove_42 ?_
              refine g_iload_n hC hl dX2_remove_45 rfl rfl ?_
              refine g_iald hC hO (nn_ra hk hj) (sh_arr _ _ _ _ _ hj) (vp_in_nI (by omega) (by omega)) dX2_remove_46 ?_
              refine g_iastF (r.set kept ((sR σ (rc k j)).getD i 0)) hC hO hk hj (vp_in_nI (by omega) (by omega)) (by rw [sR_upR_self, List.length_set]) (fun a y h => ?_) dX2_remove_47 (fun H locs hO => ?_)
              · rw [nI_clamp (by omega), hg, upd]
                split
                · subst a
                  rw [List.getElem?_set_self (by omega)] at h
                  exact Option.some.inj h
                · rw [List.getElem?_set_ne (by omega)] at h
                  exact (hO.1.2 k j hk hj).2 a y (by rw [sR_upR_self]; exact h)
              rw [upR_upR] at hO
              refine g_iinc (v := nI (kept + 1)) hC hl dX2_remove_48 rfl (nI_i1 kept) (Nat.le_of_ble_eq_true rfl) rfl (fun ls hl => ?_)
              have hl : LL ls 4 [some _, some _, some _, some _] := hl
              refine g_iinc (v := nI (i + 1)) hC hl dX2_remove_51 rfl (nI_i1 i) (Nat.le_of_ble_eq_true rfl) rfl (fun ls hl => ?_)
              have hl : LL ls 4 [some _, some _, some _, some _] := hl
              refine lv_goto (tgt := 4) hC.1 hC.2.1 dX2_remove_54 (by decide) ?_
              exact ih (i + 1) _ _ (by omega) (by omega) hki2 hr2 hs.1 hs.2 _ _ _ _ hO ls hl
  refine lv_iconst (v := 0) hC.1 hC.2.1 dX2_remove_0 (by decide) ?_
  refine g_istore_n hC hl dX2_remove_1 rfl (Nat.le_of_ble_eq_true rfl) rfl (fun ls hl => ?_)
  have hl : LL ls 4 [some _, some _, some _, none] := hl
  refine lv_iconst (v := 0) hC.1 hC.2.1 dX2_remove_2 (by decide) ?_
  refine g_istore_n hC hl dX2_remove_3 rfl (Nat.le_of_ble_eq_true rfl) rfl (fun ls hl => ?_)
  have hl : LL ls 4 [some _, some _, some _, some _] := hl
  exact loop4 ((sR σ (rc k j)).length + 1) 0 0 (sR σ (rc k j)) (by omega) (by omega) (by omega) rfl rfl rfl _ _ _ _ (by rw [upR_self]; exact hO) ls hl

set_option maxHeartbeats 4000000 in
set_option maxRecDepth 100000 in
/-- Row.becomeLike: another row of the same receptacle -/
theorem c_X2_becomeLike (l : Launch) (κ : KK) (σ : ST) (k j j2 : Nat) (hk : k < σ.1) (hj : j < 6) (hj2 : j2 < 6) (hne : j ≠ j2) (hc2 : (sR σ (rc k j2)).length ≤ capj j) : Met l yX2_becomeLike (wA yX2_becomeLike cX2_becomeLike 3 none) ({ frames := 1, cells := 0, slots := 0, locals := 21 }) (va_Pc [.ref (kad κ (rc k j)), .ref (kad κ (rc k j2))] (WX κ σ)) (va_Qv (fun σ' => σ' = upR σ (rc k j) (sR σ (rc k j2))) (WX κ) (FA κ)) 0 0 (FA κ) := by
  refine g_met 1 (by decide) rfl (Nat.le_of_ble_eq_true rfl) ?_
  intro p e s m args below meth c hC F th hO ls hl
  have hl : LL ls 3 [some _, some _, none] := hl
  have hlen := hO.1.len hk hj2
  have hcap := capj_le j2
  have hcne : rc k j2 ≠ rc k j := fun h => hne (rc_inj hj2 hj h).2.symm
  have loop6 : ∀ (n i : Nat), (sR σ (rc k j2)).length + 1 ≤ i + n → i ≤ (sR σ (rc k j2)).length → ∀ (F : Nat → Nat → Int32) (th : Int32) (H : Heap) (locs : List Loc), OS κ s.heap (upR σ (rc k j) ((sR σ (rc k j2)).take i)) F th H locs → ∀ ls : Array Slot, LL ls 3 [some (.ref (kad κ (rc k j))), some (.ref (kad κ (rc k j2))), some (.int (nI i))] → W p l e ({ frames := 1, cells := 0, slots := 0, locals := 21 } : Room) s m args below meth c H locs 0 0 (MQ below (va_Qv (fun σ' => σ' = upR σ (rc k j) (sR σ (rc k j2))) (WX κ) (FA κ)) args s 0 0 (FA κ)) (F0 m 6 ls []) := by
    intro n
    induction n with
    | zero => intro i h1 h2; exact absurd h1 (by omega)
    | succ n ih =>
      intro i h1 h2 F th H locs hO ls hl
      refine g_iload_n hC hl dX2_becomeLike_6 rfl rfl ?_
      refine g_aload_n hC hl dX2_becomeLike_7 rfl rfl ?_
      refine g_cVi0 hC hO hl (ci := 2) rfl (nn_rc hk hj2) (sh_row _ _ _ _ _ hj2) (c_X2_size l κ _ (k) (j2) (by exact hk) hj2) mi_X2_size q_ml_RX2_20 rfl rfl ⟨Nat.le_of_ble_eq_true rfl, Nat.le_of_ble_eq_true rfl⟩ (Nat.le_of_ble_eq_true rfl) ⟨Nat.zero_le _, Nat.zero_le _⟩ dX2_becomeLike_8 (fun r σ1 F th H locs hr hO => ?_)
      obtain ⟨rfl, rfl⟩ := hr
      refine lv_icmp_ge (tgt := 29) hC.1 hC.2.1 dX2_becomeLike_11 (by decide) (fun c_1 => ?_) (fun c_1 => ?_)
      · skip
        rw [sR_upR_ne _ _ hcne, nI_leI (by omega) (by omega)] at c_1
        exact g_vret hC hO dX2_becomeLike_29 (by rw [List.take_of_length_le (by omega)])
      · skip
        rw [sR_upR_ne _ _ hcne, nI_leI (by omega) (by omega)] at c_1
        refine g_aload_n hC hl dX2_becomeLike_14 rfl rfl ?_
        refine g_aload_n hC hl dX2_becomeLike_15 rfl rfl ?_
        refine g_iload_n hC hl dX2_becomeLike_16 rfl rfl ?_
        refine g_cVi1 hC hO hl (ci := 2) rfl (nn_rc hk hj2) (sh_row _ _ _ _ _ hj2) (c_X2_at l κ _ (k) (j2) (by exact hk) hj2 _) mi_X2_at q_ml_RX2_23 rfl rfl ⟨Nat.le_of_ble_eq_true rfl, Nat.le_of_ble_eq_true rfl⟩ (Nat.le_of_ble_eq_true rfl) ⟨Nat.zero_le _, Nat.zero_le _⟩ dX2_becomeLike_17 (fun r σ1 F th H locs hr hO => ?_)
        obtain ⟨rfl, rfl⟩ := hr
        refine g_cVv1 hC hO hl (ci := 2) rfl (nn_rc hk hj) (sh_row _ _ _ _ _ hj) (c_X2_append l κ _ (k) (j) (by exact hk) hj _) mi_X2_append q_ml_RX2_27 rfl rfl ⟨Nat.le_of_ble_eq_true rfl, Nat.le_of_ble_eq_true rfl⟩ (Nat.le_of_ble_eq_true rfl) ⟨Nat.zero_le _, Nat.zero_le _⟩ dX2_becomeLike_20 (fun σ1 F th H locs hr hO => ?_)
        subst hr
        rw [sR_upR_self, upR_upR, sR_upR_ne _ _ hcne, if_pos (by rw [List.length_take]; omega)] at hO
        have e9 : rowAt (sR σ (rc k j2)) (nI i) = (sR σ (rc k j2)).getD i 0 := by
          unfold rowAt
          rw [if_neg (nI_pos (by omega)), nI_clamp (by omega)]
        rw [e9, ← take_succ_getD (by omega)] at hO
        refine g_iinc (v := nI (i + 1)) hC hl dX2_becomeLike_23 rfl (nI_i1 i) (Nat.le_of_ble_eq_true rfl) rfl (fun ls hl => ?_)
        have hl : LL ls 3 [some _, some _, some _] := hl
        refine lv_goto (tgt := 6) hC.1 hC.2.1 dX2_becomeLike_26 (by decide) ?_
        exact ih (i + 1) (by omega) (by omega) _ _ _ _ hO ls hl
  refine g_aload_n hC hl dX2_becomeLike_0 rfl rfl ?_
  refine g_cVv0 hC hO hl (ci := 2) rfl (nn_rc hk hj) (sh_row _ _ _ _ _ hj) (c_X2_clear l κ _ (k) (j) (by exact hk) hj) mi_X2_clear q_ml_RX2_17 rfl rfl ⟨Nat.le_of_ble_eq_true rfl, Nat.le_of_ble_eq_true rfl⟩ (Nat.le_of_ble_eq_true rfl) ⟨Nat.zero_le _, Nat.zero_le _⟩ dX2_becomeLike_1 (fun σ1 F th H locs hr hO => ?_)
  subst hr
  refine lv_iconst (v := 0) hC.1 hC.2.1 dX2_becomeLike_4 (by decide) ?_
  refine g_istore_n hC hl dX2_becomeLike_5 rfl (Nat.le_of_ble_eq_true rfl) rfl (fun ls hl => ?_)
  have hl : LL ls 3 [some _, some _, some _] := hl
  exact loop6 ((sR σ (rc k j2)).length + 1) 0 (by omega) (by omega) _ _ _ _ hO ls hl

set_option maxHeartbeats 4000000 in
set_option maxRecDepth 100000 in
/-- Notes.add -/
theorem c_X0_add (l : Launch) (κ : KK) (σ : ST) (n : Nat) (hn : sI σ 4 1 = nI n) (hn2 : n < 512) (p0 : Int64) : Met l yX0_add (wA yX0_add cX0_add 3 none) ({ frames := 0, cells := 0, slots := 0, locals := 0 }) (va_Pc [.ref (kad κ 4), .long p0] (WX κ σ)) (va_Qv (fun σ' => σ' = upI (upJ σ 5 n p0) 4 1 (nI (n + 1))) (WX κ) (FA κ)) 0 0 (FA κ) := by
  refine g_met 0 (by decide) rfl (Nat.le_of_ble_eq_true rfl) ?_
  intro p e s m args below meth c hC F th hO ls hl
  have hl : LL ls 3 [some _, some _, none] := hl
  refine g_aload_n hC hl dX0_add_0 rfl rfl ?_
  refine g_get (ci := 0) (k := 1) hC hO rfl inX0 (by decide) q_fl_RX0_15 (nn_lt (Nat.le_of_ble_eq_true rfl)) rfl rfl dX0_add_1 ?_
  refine lv_if_lt (tgt := 39) hC.1 hC.2.1 dX0_add_4 (by decide) (fun c_1 => ?_) (fun c_1 => ?_)
  · skip
    rw [hn] at c_1
    exact absurd c_1 (nI_pos (by omega))
  · skip
    refine g_aload_n hC hl dX0_add_7 rfl rfl ?_
    refine g_get (ci := 0) (k := 1) hC hO rfl inX0 (by decide) q_fl_RX0_15 (nn_lt (Nat.le_of_ble_eq_true rfl)) rfl rfl dX0_add_8 ?_
    refine g_aload_n hC hl dX0_add_11 rfl rfl ?_
    refine g_get (ci := 0) (k := 0) hC hO rfl inX0 (by decide) q_fl_RX0_9 (nn_lt (Nat.le_of_ble_eq_true rfl)) rfl rfl dX0_add_12 ?_
    refine g_alenL (v := nI 512) hC hO (nn_lt (Nat.le_of_ble_eq_true rfl)) rfl rfl dX0_add_15 ?_
    refine lv_icmp_ge (tgt := 39) hC.1 hC.2.1 dX0_add_16 (by decide) (fun c_2 => ?_) (fun c_2 => ?_)
    · skip
      rw [hn, nI_leI (by omega) (by omega)] at c_2
      exact absurd c_2 (by omega)
    · skip
      refine g_aload_n hC hl dX0_add_19 rfl rfl ?_
      refine g_get (ci := 0) (k := 0) hC hO rfl inX0 (by decide) q_fl_RX0_9 (nn_lt (Nat.le_of_ble_eq_true rfl)) rfl rfl dX0_add_20 ?_
      refine g_aload_n hC hl dX0_add_23 rfl rfl ?_
      refine g_get (ci := 0) (k := 1) hC hO rfl inX0 (by decide) q_fl_RX0_15 (nn_lt (Nat.le_of_ble_eq_true rfl)) rfl rfl dX0_add_24 ?_
      refine g_lload_n hC hl dX0_add_27 rfl rfl ?_
      refine g_last hC hO (nn_lt (Nat.le_of_ble_eq_true rfl)) (fun _ _ => rfl) (by rw [hn]; exact vp_in_nI (by omega) (by omega)) dX0_add_28 (fun H locs hO => ?_)
      refine g_aload_n hC hl dX0_add_29 rfl rfl ?_
      refine lv_dup hC.1 hC.2.1 dX0_add_30 rfl ?_
      refine g_get (ci := 0) (k := 1) hC hO rfl inX0 (by decide) q_fl_RX0_15 (nn_lt (Nat.le_of_ble_eq_true rfl)) rfl rfl dX0_add_31 ?_
      refine lv_iconst (v := 1) hC.1 hC.2.1 dX0_add_34 (by decide) ?_
      refine lv_iadd hC.1 hC.2.1 dX0_add_35 ?_
      refine g_puti (ci := 0) (k := 1) hC hO rfl inX0 tyX0_ok nmX0 (by decide) q_fl_RX0_15 rfl (nn_lt (Nat.le_of_ble_eq_true rfl)) rfl (Nat.le_of_ble_eq_true rfl) rfl rfl rfl dX0_add_36 (fun H locs hO => ?_)
      exact g_vret hC hO dX0_add_39 (by
          have e9 : sI (upJ σ 5 n p0) 4 1 = nI n := hn
          rw [hn, nI_clamp (by omega), e9, nI_1])

set_option maxHeartbeats 4000000 in
set_option maxRecDepth 100000 in
/-- Notes.tellUntil -/
theorem c_X0_tellUntil (l : Launch) (κ : KK) (σ : ST) (n : Nat) (hn : sI σ 4 1 = nI n) (hn2 : n ≤ 512) (a : Nat) (ha : sI σ 4 2 = nI a) (ha2 : a ≤ n) (p0 : Int64) : Met l yX0_tellUntil (wA yX0_tellUntil cX0_tellUntil 5 (some .int)) ({ frames := 0, cells := 0, slots := 0, locals := 0 }) (va_Pc [.ref (kad κ 4), .long p0] (WX κ σ)) (va_Qi (fun r σ' => σ' = upI σ 4 2 (nI (tellF σ n p0 (n - a) a)) ∧ r = nI (tellF σ n p0 (n - a) a - a)) (WX κ) (FA κ)) 0 0 (FA κ) := by
  refine g_met 2 (by decide) rfl (Nat.le_of_ble_eq_true rfl) ?_
  intro p e s m args below meth c hC F th hO ls hl
  have hl : LL ls 5 [some _, some _, none, none, none] := hl
  have e1 : ∀ i, sI (upI σ 4 2 (nI i)) 4 1 = nI n := fun i => by rw [sI_upI]; simp [hn]
  have e2 : ∀ i, sI (upI σ 4 2 (nI i)) 4 2 = nI i := fun i => by rw [sI_upI]; simp
  have loop8 : ∀ (f i : Nat), i + f = n → a ≤ i → tellF σ n p0 (n - a) a = tellF σ n p0 f i → ∀ (F : Nat → Nat → Int32) (th : Int32) (H : Heap) (locs : List Loc), OS κ s.heap (upI σ 4 2 (nI i)) F th H locs → ∀ ls : Array Slot, LL ls 5 [some (.ref (kad κ 4)), some (.long p0), none, some (.int (nI a)), some (.int (nI i))] → W p l e ({ frames := 0, cells := 0, slots := 0, locals := 0 } : Room) s m args below meth c H locs 0 0 (MQ below (va_Qi (fun r σ' => σ' = upI σ 4 2 (nI (tellF σ n p0 (n - a) a)) ∧ r = nI (tellF σ n p0 (n - a) a - a)) (WX κ) (FA κ)) args s 0 0 (FA κ)) (F0 m 8 ls []) := by
    intro f
    induction f with
    | zero =>
      intro i h1 h2 h3 F th H locs hO ls hl
      have hend : tellF σ n p0 (n - a) a = i := h3
      refine g_iload hC hl dX0_tellUntil_8 rfl ?_
      refine lv_if_lt (tgt := 58) hC.1 hC.2.1 dX0_tellUntil_10 (by decide) (fun c => absurd c (nI_pos (by omega))) (fun _ => ?_)
      refine g_iload hC hl dX0_tellUntil_13 rfl ?_
      refine g_aload_n hC hl dX0_tellUntil_15 rfl rfl ?_
      refine g_get (ci := 0) (k := 1) hC hO rfl inX0 (by decide) q_fl_RX0_15 (nn_lt (Nat.le_of_ble_eq_true rfl)) rfl rfl dX0_tellUntil_16 ?_
      refine lv_icmp_ge (tgt := 58) hC.1 hC.2.1 dX0_tellUntil_19 (by decide) (fun c => ?_) (fun c => ?_)
      · refine g_aload_n hC hl dX0_tellUntil_58 rfl rfl ?_
        refine g_get (ci := 0) (k := 2) hC hO rfl inX0 (by decide) q_fl_RX0_19 (nn_lt (Nat.le_of_ble_eq_true rfl)) rfl rfl dX0_tellUntil_59 ?_
        refine g_iload_n hC hl dX0_tellUntil_62 rfl rfl ?_
        refine lv_isub hC.1 hC.2.1 dX0_tellUntil_63 ?_
        exact g_iret hC hO dX0_tellUntil_64 ⟨by rw [hend], by rw [hend]; exact (congrArg (· - nI a) (e2 i)).trans (pk_sub h2)⟩
      · rw [e1, nI_leI (by omega) (by omega)] at c; exact absurd c (by omega)
    | succ f ih =>
      intro i h1 h2 h3 F th H locs hO ls hl
      refine g_iload hC hl dX0_tellUntil_8 rfl ?_
      refine lv_if_lt (tgt := 58) hC.1 hC.2.1 dX0_tellUntil_10 (by decide) (fun c_1 => ?_) (fun c_1 => ?_)
      · skip
        exact absurd c_1 (nI_pos (by omega))
      · skip
        refine g_iload hC hl dX0_tellUntil_13 rfl ?_
        refine g_aload_n hC hl dX0_tellUntil_15 rfl rfl ?_
        refine g_get (ci := 0) (k := 1) hC hO rfl inX0 (by decide) q_fl_RX0_15 (nn_lt (Nat.le_of_ble_eq_true rfl)) rfl rfl dX0_tellUntil_16 ?_
        refine lv_icmp_ge (tgt := 58) hC.1 hC.2.1 dX0_tellUntil_19 (by decide) (fun c_2 => ?_) (fun c_2 => ?_)
        · skip
          rw [e1, nI_leI (by omega) (by omega)] at c_2
          exact absurd c_2 (by omega)
        · skip
          refine g_iload hC hl dX0_tellUntil_22 rfl ?_
          refine g_aload_n hC hl dX0_tellUntil_24 rfl rfl ?_
          refine g_get (ci := 0) (k := 0) hC hO rfl inX0 (by decide) q_fl_RX0_9 (nn_lt (Nat.le_of_ble_eq_true rfl)) rfl rfl dX0_tellUntil_25 ?_
          refine g_alenL (v := nI 512) hC hO (nn_lt (Nat.le_of_ble_eq_true rfl)) rfl rfl dX0_tellUntil_28 ?_
          refine lv_icmp_ge (tgt := 58) hC.1 hC.2.1 dX0_tellUntil_29 (by decide) (fun c_3 => ?_) (fun c_3 => ?_)
          · skip
            rw [nI_leI (by omega) (by omega)] at c_3
            exact absurd c_3 (by omega)
          · skip
            refine g_aload_n hC hl dX0_tellUntil_32 rfl rfl ?_
            refine g_get (ci := 0) (k := 0) hC hO rfl inX0 (by decide) q_fl_RX0_9 (nn_lt (Nat.le_of_ble_eq_true rfl)) rfl rfl dX0_tellUntil_33 ?_
            refine g_iload hC hl dX0_tellUntil_36 rfl ?_
            refine g_lald hC hO (nn_lt (Nat.le_of_ble_eq_true rfl)) rfl (vp_in_nI (by omega) (by omega)) dX0_tellUntil_38 ?_
            refine g_lload_n hC hl dX0_tellUntil_39 rfl rfl ?_
            refine W.lcmp hC.1 hC.2.1 dX0_tellUntil_40 ?_
            refine lv_if_gt (tgt := 58) hC.1 hC.2.1 dX0_tellUntil_41 (by decide) (fun c_4 => ?_) (fun c_4 => ?_)
            · skip
              rw [lg_cmp_gt] at c_4
              have hend : tellF σ n p0 (n - a) a = i := by
                rw [h3, tellF, if_neg]
                rintro ⟨-, hle⟩
                rw [nI_clamp (by omega)] at c_4
                exact absurd hle (Int64.not_le.mpr c_4)
              refine g_aload_n hC hl dX0_tellUntil_58 rfl rfl ?_
              refine g_get (ci := 0) (k := 2) hC hO rfl inX0 (by decide) q_fl_RX0_19 (nn_lt (Nat.le_of_ble_eq_true rfl)) rfl rfl dX0_tellUntil_59 ?_
              refine g_iload_n hC hl dX0_tellUntil_62 rfl rfl ?_
              refine lv_isub hC.1 hC.2.1 dX0_tellUntil_63 ?_
              exact g_iret hC hO dX0_tellUntil_64 (⟨by rw [hend], by rw [hend]; exact (congrArg (· - nI a) (e2 i)).trans (pk_sub h2)⟩)
            · skip
              rw [lg_cmp_gt] at c_4
              have h4 : tellF σ n p0 (n - a) a = tellF σ n p0 f (i + 1) := by
                rw [h3, tellF, if_pos]
                rw [nI_clamp (by omega)] at c_4
                exact ⟨by omega, Int64.not_lt.mp c_4⟩
              refine g_aload_n hC hl dX0_tellUntil_44 rfl rfl ?_
              refine g_iload hC hl dX0_tellUntil_45 rfl ?_
              refine lv_iconst (v := 1) hC.1 hC.2.1 dX0_tellUntil_47 (by decide) ?_
              refine lv_iadd hC.1 hC.2.1 dX0_tellUntil_48 ?_
              refine g_puti (ci := 0) (k := 2) hC hO rfl inX0 tyX0_ok nmX0 (by decide) q_fl_RX0_19 rfl (nn_lt (Nat.le_of_ble_eq_true rfl)) rfl (Nat.le_of_ble_eq_true rfl) rfl rfl rfl dX0_tellUntil_49 (fun H locs hO => ?_)
              rw [upI_upI, nI_1] at hO
              refine g_iinc (v := nI (i + 1)) hC hl dX0_tellUntil_52 rfl (nI_i1 i) (Nat.le_of_ble_eq_true rfl) rfl (fun ls hl => ?_)
              have hl : LL ls 5 [some _, some _, none, some _, some _] := hl
              refine lv_goto (tgt := 8) hC.1 hC.2.1 dX0_tellUntil_55 (by decide) ?_
              exact ih (i + 1) (by omega) (by omega) h4 _ _ _ _ hO ls hl
  refine g_aload_n hC hl dX0_tellUntil_0 rfl rfl ?_
  refine g_get (ci := 0) (k := 2) hC hO rfl inX0 (by decide) q_fl_RX0_19 (nn_lt (Nat.le_of_ble_eq_true rfl)) rfl rfl dX0_tellUntil_1 ?_
  refine g_istore_n hC hl dX0_tellUntil_4 rfl (Nat.le_of_ble_eq_true rfl) rfl (fun ls hl => ?_)
  have hl : LL ls 5 [some _, some _, none, some _, none] := hl
  refine g_iload_n hC hl dX0_tellUntil_5 rfl rfl ?_
  refine g_istore hC hl dX0_tellUntil_6 (Nat.le_of_ble_eq_true rfl) rfl (fun ls hl => ?_)
  have hl : LL ls 5 [some _, some _, none, some _, some _] := hl
  exact loop8 (n - a) a (by omega) (Nat.le_refl _) rfl _ _ _ _ (by rw [← ha, upI_self]; exact hO) ls (by rw [ha] at hl; exact hl)
