set_option maxHeartbeats 4000000 in
set_option maxRecDepth 100000 in
/-- Receptacle.shut -/
theorem c_X1_shut (l : Launch) (κ : KK) (σ : ST) (k : Nat) (hk : k < σ.1) (p0 : Int64) (p1 : Int32) : Met l yX1_shut (wA yX1_shut cX1_shut 4 none) ({ frames := 2, cells := 0, slots := 0, locals := 43 }) (va_Pc [.ref (kad κ (rb k)), .long p0, .int p1] (WX κ σ)) (va_Qv (fun σ' => σ' = shutS σ k p0 p1) (WX κ) (FA κ)) 0 0 (FA κ) := by
  refine g_met 0 (by decide) rfl (Nat.le_of_ble_eq_true rfl) ?_
  intro p e s m args below meth c hC F th hO ls hl
  have hl : LL ls 4 [some _, some _, none, some _] := hl
  have hlen0 : (sR σ (rc k 0)).length ≤ capj 1 := hO.1.len hk (j := 0) (by decide)
  refine g_aload_n hC hl dX1_shut_0 rfl rfl ?_
  refine lv_iconst (v := 1) hC.1 hC.2.1 dX1_shut_1 (by decide) ?_
  refine g_puti (ci := 1) (k := 1) hC hO rfl inX1 tyX1_ok nmX1 (by decide) q_fl_RX1_39 rfl (nn_rb hk) (sh_rec _ _ _ _ _) (Nat.le_of_ble_eq_true rfl) rfl rfl (by rw [sh_rec]; simp [upI, upJ, sI, sJ, va_up, upd, vp_updL]) dX1_shut_2 (fun H locs hO => ?_)
  refine g_aload_n hC hl dX1_shut_5 rfl rfl ?_
  refine lv_iconst (v := 1) hC.1 hC.2.1 dX1_shut_6 (by decide) ?_
  refine g_puti (ci := 1) (k := 2) hC hO rfl inX1 tyX1_ok nmX1 (by decide) q_fl_RX1_43 rfl (nn_rb hk) (sh_rec _ _ _ _ _) (Nat.le_of_ble_eq_true rfl) rfl rfl (by rw [sh_rec]; simp [upI, upJ, sI, sJ, va_up, upd, vp_updL]) dX1_shut_7 (fun H locs hO => ?_)
  refine g_aload_n hC hl dX1_shut_10 rfl rfl ?_
  refine g_lload_n hC hl dX1_shut_11 rfl rfl ?_
  refine g_putl (ci := 1) (k := 3) hC hO rfl inX1 tyX1_ok nmX1 (by decide) q_fl_RX1_46 rfl (nn_rb hk) (sh_rec _ _ _ _ _) (Nat.le_of_ble_eq_true rfl) rfl rfl (by rw [sh_rec]; simp [upI, upJ, sI, sJ, va_up, upd, vp_updL]) dX1_shut_12 (fun H locs hO => ?_)
  refine g_aload_n hC hl dX1_shut_15 rfl rfl ?_
  refine g_iload_n hC hl dX1_shut_16 rfl rfl ?_
  refine g_puti (ci := 1) (k := 4) hC hO rfl inX1 tyX1_ok nmX1 (by decide) q_fl_RX1_50 rfl (nn_rb hk) (sh_rec _ _ _ _ _) (Nat.le_of_ble_eq_true rfl) rfl rfl (by rw [sh_rec]; simp [upI, upJ, sI, sJ, va_up, upd, vp_updL]) dX1_shut_17 (fun H locs hO => ?_)
  refine g_aload_n hC hl dX1_shut_20 rfl rfl ?_
  refine g_get (ci := 1) (k := 6) hC hO rfl inX1 (by decide) q_fl_RX1_24 (nn_rb hk) (sh_rec _ _ _ _ _) rfl dX1_shut_21 ?_
  refine g_aload_n hC hl dX1_shut_24 rfl rfl ?_
  refine g_get (ci := 1) (k := 5) hC hO rfl inX1 (by decide) q_fl_RX1_20 (nn_rb hk) (sh_rec _ _ _ _ _) rfl dX1_shut_25 ?_
  refine g_cVv1 hC hO hl (ci := 2) rfl (nn_rc hk (by decide)) (sh_row _ _ _ _ _ (by decide)) (c_X2_becomeLike l κ _ k 1 0 (by exact hk) (by decide) (by decide) (by decide) (by exact hlen0)) mi_X2_becomeLike q_ml_RX1_53 rfl rfl ⟨Nat.le_of_ble_eq_true rfl, Nat.le_of_ble_eq_true rfl⟩ (Nat.le_of_ble_eq_true rfl) ⟨Nat.zero_le _, Nat.zero_le _⟩ dX1_shut_28 (fun σ1 F th H locs hr hO => ?_)
  subst hr
  refine g_aload_n hC hl dX1_shut_31 rfl rfl ?_
  refine g_get (ci := 1) (k := 8) hC hO rfl inX1 (by decide) q_fl_RX1_30 (nn_rb hk) (sh_rec _ _ _ _ _) rfl dX1_shut_32 ?_
  refine g_cVv0 hC hO hl (ci := 2) rfl (nn_rc hk (by decide)) (sh_row _ _ _ _ _ (by decide)) (c_X2_clear l κ _ (k) (3) (by exact hk) (by decide)) mi_X2_clear q_ml_RX1_57 rfl rfl ⟨Nat.le_of_ble_eq_true rfl, Nat.le_of_ble_eq_true rfl⟩ (Nat.le_of_ble_eq_true rfl) ⟨Nat.zero_le _, Nat.zero_le _⟩ dX1_shut_35 (fun σ1 F th H locs hr hO => ?_)
  subst hr
  exact g_vret hC hO dX1_shut_38 (rfl)

set_option maxHeartbeats 4000000 in
set_option maxRecDepth 100000 in
/-- Receptacle.mayBeOpenedBy -/
theorem c_X1_mayBeOpenedBy (l : Launch) (κ : KK) (σ : ST) (k : Nat) (hk : k < σ.1) (p0 p1 : Int32) : Met l yX1_mayBeOpenedBy (wA yX1_mayBeOpenedBy cX1_mayBeOpenedBy 3 (some .boolean)) ({ frames := 0, cells := 0, slots := 0, locals := 0 }) (va_Pc [.ref (kad κ (rb k)), .int p0, .int p1] (WX κ σ)) (va_Qi (fun r σ' => σ = σ' ∧ r = bI (mayB σ k p0 p1)) (WX κ) (FA κ)) 0 0 (FA κ) := by
  refine g_met 0 (by decide) rfl (Nat.le_of_ble_eq_true rfl) ?_
  intro p e s m args below meth c hC F th hO ls hl
  have hl : LL ls 3 [some _, some _, some _] := hl
  refine g_aload_n hC hl dX1_mayBeOpenedBy_0 rfl rfl ?_
  refine g_get (ci := 1) (k := 0) hC hO rfl inX1 (by decide) q_fl_RX1_9 (nn_rb hk) (sh_rec _ _ _ _ _) rfl dX1_mayBeOpenedBy_1 ?_
  refine lv_iconst (v := 2) hC.1 hC.2.1 dX1_mayBeOpenedBy_4 (by decide) ?_
  refine lv_icmp_lt (tgt := 24) hC.1 hC.2.1 dX1_mayBeOpenedBy_5 (by decide) (fun c_1 => ?_) (fun c_1 => ?_)
  · skip
    refine g_iload_n hC hl dX1_mayBeOpenedBy_24 rfl rfl ?_
    refine lv_iconst (v := (-1)) hC.1 hC.2.1 dX1_mayBeOpenedBy_25 (by decide) ?_
    refine lv_icmp_ne (tgt := 41) hC.1 hC.2.1 dX1_mayBeOpenedBy_26 (by decide) (fun c_2 => ?_) (fun c_2 => ?_)
    · skip
      refine lv_iconst (v := 0) hC.1 hC.2.1 dX1_mayBeOpenedBy_41 (by decide) ?_
      exact g_zret hC hO dX1_mayBeOpenedBy_42 (by decide) (⟨rfl, by first | exact bI_t (by simp [mayB, c_1, c_2]) | exact bI_f (by simp [mayB, c_1, c_2])⟩)
    · skip
      refine g_iload_n hC hl dX1_mayBeOpenedBy_29 rfl rfl ?_
      refine g_aload_n hC hl dX1_mayBeOpenedBy_30 rfl rfl ?_
      refine g_get (ci := 1) (k := 4) hC hO rfl inX1 (by decide) q_fl_RX1_50 (nn_rb hk) (sh_rec _ _ _ _ _) rfl dX1_mayBeOpenedBy_31 ?_
      refine lv_icmp_eq (tgt := 41) hC.1 hC.2.1 dX1_mayBeOpenedBy_34 (by decide) (fun c_3 => ?_) (fun c_3 => ?_)
      · skip
        refine lv_iconst (v := 0) hC.1 hC.2.1 dX1_mayBeOpenedBy_41 (by decide) ?_
        exact g_zret hC hO dX1_mayBeOpenedBy_42 (by decide) (⟨rfl, by first | exact bI_t (by simp [mayB, c_1, c_2, c_3]) | exact bI_f (by simp [mayB, c_1, c_2, c_3])⟩)
      · skip
        refine lv_iconst (v := 1) hC.1 hC.2.1 dX1_mayBeOpenedBy_37 (by decide) ?_
        refine lv_goto (tgt := 42) hC.1 hC.2.1 dX1_mayBeOpenedBy_38 (by decide) ?_
        exact g_zret hC hO dX1_mayBeOpenedBy_42 (by decide) (⟨rfl, by first | exact bI_t (by simp [mayB, c_1, c_2, c_3]) | exact bI_f (by simp [mayB, c_1, c_2, c_3])⟩)
  · skip
    refine g_iload_n hC hl dX1_mayBeOpenedBy_8 rfl rfl ?_
    refine lv_iconst (v := (-1)) hC.1 hC.2.1 dX1_mayBeOpenedBy_9 (by decide) ?_
    refine lv_icmp_eq (tgt := 22) hC.1 hC.2.1 dX1_mayBeOpenedBy_10 (by decide) (fun c_4 => ?_) (fun c_4 => ?_)
    · skip
      refine lv_iconst (v := 0) hC.1 hC.2.1 dX1_mayBeOpenedBy_22 (by decide) ?_
      exact g_zret hC hO dX1_mayBeOpenedBy_23 (by decide) (⟨rfl, by first | exact bI_t (by simp [mayB, c_1, c_4]) | exact bI_f (by simp [mayB, c_1, c_4])⟩)
    · skip
      refine g_iload_n hC hl dX1_mayBeOpenedBy_13 rfl rfl ?_
      refine g_iload_n hC hl dX1_mayBeOpenedBy_14 rfl rfl ?_
      refine lv_icmp_eq (tgt := 22) hC.1 hC.2.1 dX1_mayBeOpenedBy_15 (by decide) (fun c_5 => ?_) (fun c_5 => ?_)
      · skip
        refine lv_iconst (v := 0) hC.1 hC.2.1 dX1_mayBeOpenedBy_22 (by decide) ?_
        exact g_zret hC hO dX1_mayBeOpenedBy_23 (by decide) (⟨rfl, by first | exact bI_t (by simp [mayB, c_1, c_4, c_5]) | exact bI_f (by simp [mayB, c_1, c_4, c_5])⟩)
      · skip
        refine lv_iconst (v := 1) hC.1 hC.2.1 dX1_mayBeOpenedBy_18 (by decide) ?_
        refine lv_goto (tgt := 23) hC.1 hC.2.1 dX1_mayBeOpenedBy_19 (by decide) ?_
        exact g_zret hC hO dX1_mayBeOpenedBy_23 (by decide) (⟨rfl, by first | exact bI_t (by simp [mayB, c_1, c_4, c_5]) | exact bI_f (by simp [mayB, c_1, c_4, c_5])⟩)

set_option maxHeartbeats 4000000 in
set_option maxRecDepth 100000 in
/-- Receptacle.unseal -/
theorem c_X1_unseal (l : Launch) (κ : KK) (σ : ST) (k : Nat) (hk : k < σ.1) (p0 : Int64) : Met l yX1_unseal (wA yX1_unseal cX1_unseal 3 (some .boolean)) ({ frames := 2, cells := 0, slots := 0, locals := 43 }) (va_Pc [.ref (kad κ (rb k)), .long p0] (WX κ σ)) (va_Qi (fun r σ' => σ' = unsealS σ k p0 ∧ r = bI (decide (p0 = sJ σ (rb k) 3))) (WX κ) (FA κ)) 0 0 (FA κ) := by
  refine g_met 0 (by decide) rfl (Nat.le_of_ble_eq_true rfl) ?_
  intro p e s m args below meth c hC F th hO ls hl
  have hl : LL ls 3 [some _, some _, none] := hl
  have hlen1 : (sR σ (rc k 1)).length ≤ capj 4 := hO.1.len hk (j := 1) (by decide)
  have hne1 : rc k 1 ≠ rc k 2 := fun h => absurd (rc_inj (by decide) (by decide) h).2 (by decide)
  have hne2 : rc k 2 ≠ rc k 4 := fun h => absurd (rc_inj (by decide) (by decide) h).2 (by decide)
  have hne3 : rc k 2 ≠ rc k 5 := fun h => absurd (rc_inj (by decide) (by decide) h).2 (by decide)
  refine g_aload_n hC hl dX1_unseal_0 rfl rfl ?_
  refine lv_iconst (v := 0) hC.1 hC.2.1 dX1_unseal_1 (by decide) ?_
  refine g_puti (ci := 1) (k := 1) hC hO rfl inX1 tyX1_ok nmX1 (by decide) q_fl_RX1_39 rfl (nn_rb hk) (sh_rec _ _ _ _ _) (Nat.le_of_ble_eq_true rfl) rfl rfl (by rw [sh_rec]; simp [upI, upJ, sI, sJ, va_up, upd, vp_updL]) dX1_unseal_2 (fun H locs hO => ?_)
  refine g_aload_n hC hl dX1_unseal_5 rfl rfl ?_
  refine g_get (ci := 1) (k := 7) hC hO rfl inX1 (by decide) q_fl_RX1_27 (nn_rb hk) (sh_rec _ _ _ _ _) rfl dX1_unseal_6 ?_
  refine g_cVv0 hC hO hl (ci := 2) rfl (nn_rc hk (by decide)) (sh_row _ _ _ _ _ (by decide)) (c_X2_clear l κ _ (k) (2) (by exact hk) (by decide)) mi_X2_clear q_ml_RX1_57 rfl rfl ⟨Nat.le_of_ble_eq_true rfl, Nat.le_of_ble_eq_true rfl⟩ (Nat.le_of_ble_eq_true rfl) ⟨Nat.zero_le _, Nat.zero_le _⟩ dX1_unseal_9 (fun σ1 F th H locs hr hO => ?_)
  subst hr
  refine g_aload_n hC hl dX1_unseal_12 rfl rfl ?_
  refine g_get (ci := 1) (k := 9) hC hO rfl inX1 (by decide) q_fl_RX1_33 (nn_rb hk) (sh_rec _ _ _ _ _) rfl dX1_unseal_13 ?_
  refine g_aload_n hC hl dX1_unseal_16 rfl rfl ?_
  refine g_get (ci := 1) (k := 6) hC hO rfl inX1 (by decide) q_fl_RX1_24 (nn_rb hk) (sh_rec _ _ _ _ _) rfl dX1_unseal_17 ?_
  refine g_cVv1 hC hO hl (ci := 2) rfl (nn_rc hk (by decide)) (sh_row _ _ _ _ _ (by decide)) (c_X2_becomeLike l κ _ k 4 1 (by exact hk) (by decide) (by decide) (by decide) (by rw [sR_upR_ne _ _ hne1]; exact hlen1)) mi_X2_becomeLike q_ml_RX1_53 rfl rfl ⟨Nat.le_of_ble_eq_true rfl, Nat.le_of_ble_eq_true rfl⟩ (Nat.le_of_ble_eq_true rfl) ⟨Nat.zero_le _, Nat.zero_le _⟩ dX1_unseal_20 (fun σ1 F th H locs hr hO => ?_)
  subst hr
  rw [sR_upR_ne _ _ hne1] at hO
  refine g_aload_n hC hl dX1_unseal_23 rfl rfl ?_
  refine g_get (ci := 1) (k := 10) hC hO rfl inX1 (by decide) q_fl_RX1_36 (nn_rb hk) (sh_rec _ _ _ _ _) rfl dX1_unseal_24 ?_
  refine g_cVv0 hC hO hl (ci := 2) rfl (nn_rc hk (by decide)) (sh_row _ _ _ _ _ (by decide)) (c_X2_clear l κ _ (k) (5) (by exact hk) (by decide)) mi_X2_clear q_ml_RX1_57 rfl rfl ⟨Nat.le_of_ble_eq_true rfl, Nat.le_of_ble_eq_true rfl⟩ (Nat.le_of_ble_eq_true rfl) ⟨Nat.zero_le _, Nat.zero_le _⟩ dX1_unseal_27 (fun σ1 F th H locs hr hO => ?_)
  subst hr
  refine g_lload_n hC hl dX1_unseal_30 rfl rfl ?_
  refine g_aload_n hC hl dX1_unseal_31 rfl rfl ?_
  refine g_get (ci := 1) (k := 3) hC hO rfl inX1 (by decide) q_fl_RX1_46 (nn_rb hk) (sh_rec _ _ _ _ _) rfl dX1_unseal_32 ?_
  refine W.lcmp hC.1 hC.2.1 dX1_unseal_35 ?_
  refine lv_if_ne (tgt := 41) hC.1 hC.2.1 dX1_unseal_36 (by decide) (fun c_1 => ?_) (fun c_1 => ?_)
  · skip
    rw [lg_cmp_eq] at c_1
    have hq2 : ¬ p0 = sJ σ (rb k) 3 := c_1
    refine g_aload_n hC hl dX1_unseal_41 rfl rfl ?_
    refine g_get (ci := 1) (k := 7) hC hO rfl inX1 (by decide) q_fl_RX1_27 (nn_rb hk) (sh_rec _ _ _ _ _) rfl dX1_unseal_42 ?_
    refine g_lload_n hC hl dX1_unseal_45 rfl rfl ?_
    refine lv_l2i hC.1 hC.2.1 dX1_unseal_46 rfl ?_
    refine g_cVv1 hC hO hl (ci := 2) rfl (nn_rc hk (by decide)) (sh_row _ _ _ _ _ (by decide)) (c_X2_append l κ _ (k) (2) (by exact hk) (by decide) _) mi_X2_append q_ml_RX1_60 rfl rfl ⟨Nat.le_of_ble_eq_true rfl, Nat.le_of_ble_eq_true rfl⟩ (Nat.le_of_ble_eq_true rfl) ⟨Nat.zero_le _, Nat.zero_le _⟩ dX1_unseal_47 (fun σ1 F th H locs hr hO => ?_)
    subst hr
    refine lv_iconst (v := 0) hC.1 hC.2.1 dX1_unseal_50 (by decide) ?_
    exact g_zret hC hO dX1_unseal_51 (by decide) (⟨by
        rw [unsealS, if_neg hq2]
        have e9 : sR (unseal1 σ k) (rc k 2) = [] := by
          unfold unseal1
          rw [sR_upR_ne _ _ hne3, sR_upR_ne _ _ hne2, sR_upR_self]
        show upR (unseal1 σ k) (rc k 2) (if (sR (unseal1 σ k) (rc k 2)).length < capj 2 then sR (unseal1 σ k) (rc k 2) ++ [p0.toInt32] else sR (unseal1 σ k) (rc k 2)) = _
        rw [e9]
        rfl, bI_f (decide_eq_false hq2)⟩)
  · skip
    rw [lg_cmp_eq] at c_1
    have hq2 : p0 = sJ σ (rb k) 3 := c_1
    refine lv_iconst (v := 1) hC.1 hC.2.1 dX1_unseal_39 (by decide) ?_
    exact g_zret hC hO dX1_unseal_40 (by decide) (⟨by rw [unsealS, if_pos hq2]; rfl, bI_t (decide_eq_true hq2)⟩)

set_option maxHeartbeats 4000000 in
set_option maxRecDepth 100000 in
/-- Receptacle.isChecked -/
theorem c_X1_isChecked (l : Launch) (κ : KK) (σ : ST) (k : Nat) (hk : k < σ.1) : Met l yX1_isChecked (wA yX1_isChecked cX1_isChecked 1 (some .boolean)) ({ frames := 0, cells := 0, slots := 0, locals := 0 }) (va_Pc [.ref (kad κ (rb k))] (WX κ σ)) (va_Qi (fun r σ' => σ = σ' ∧ r = bI (checkedB σ k)) (WX κ) (FA κ)) 0 0 (FA κ) := by
  refine g_met 0 (by decide) rfl (Nat.le_of_ble_eq_true rfl) ?_
  intro p e s m args below meth c hC F th hO ls hl
  have hl : LL ls 1 [some _] := hl
  refine g_aload_n hC hl dX1_isChecked_0 rfl rfl ?_
  refine g_get (ci := 1) (k := 1) hC hO rfl inX1 (by decide) q_fl_RX1_39 (nn_rb hk) (sh_rec _ _ _ _ _) rfl dX1_isChecked_1 ?_
  refine lv_if_ne (tgt := 18) hC.1 hC.2.1 dX1_isChecked_4 (by decide) (fun c_1 => ?_) (fun c_1 => ?_)
  · skip
    refine lv_iconst (v := 0) hC.1 hC.2.1 dX1_isChecked_18 (by decide) ?_
    exact g_zret hC hO dX1_isChecked_19 (by decide) (⟨rfl, by first | exact bI_t (by simp [checkedB, c_1]) | exact bI_f (by simp [checkedB, c_1])⟩)
  · skip
    refine g_aload_n hC hl dX1_isChecked_7 rfl rfl ?_
    refine g_get (ci := 1) (k := 2) hC hO rfl inX1 (by decide) q_fl_RX1_43 (nn_rb hk) (sh_rec _ _ _ _ _) rfl dX1_isChecked_8 ?_
    refine lv_if_eq (tgt := 18) hC.1 hC.2.1 dX1_isChecked_11 (by decide) (fun c_2 => ?_) (fun c_2 => ?_)
    · skip
      refine lv_iconst (v := 0) hC.1 hC.2.1 dX1_isChecked_18 (by decide) ?_
      exact g_zret hC hO dX1_isChecked_19 (by decide) (⟨rfl, by first | exact bI_t (by simp [checkedB, c_1, c_2]) | exact bI_f (by simp [checkedB, c_1, c_2])⟩)
    · skip
      refine lv_iconst (v := 1) hC.1 hC.2.1 dX1_isChecked_14 (by decide) ?_
      refine lv_goto (tgt := 19) hC.1 hC.2.1 dX1_isChecked_15 (by decide) ?_
      exact g_zret hC hO dX1_isChecked_19 (by decide) (⟨rfl, by first | exact bI_t (by simp [checkedB, c_1, c_2]) | exact bI_f (by simp [checkedB, c_1, c_2])⟩)

set_option maxHeartbeats 4000000 in
set_option maxRecDepth 100000 in
/-- Receptacle.differencesOf -/
theorem c_X1_differencesOf (l : Launch) (κ : KK) (σ : ST) (k : Nat) (hk : k < σ.1) (d : Nat) (hd : d < 4) : Met l yX1_differencesOf (wA yX1_differencesOf cX1_differencesOf 2 (some (.object "BagRows$Row"))) ({ frames := 0, cells := 0, slots := 0, locals := 0 }) (va_Pc [.ref (kad κ (rb k)), .int (nI d)] (WX κ σ)) (va_Qq (fun r σ' => σ = σ' ∧ r = some (kad κ (rc k (d + 2)))) (WX κ) (FA κ)) 0 0 (FA κ) := by
  refine g_met 0 (by decide) rfl (Nat.le_of_ble_eq_true rfl) ?_
  intro p e s m args below meth c hC F th hO ls hl
  have hl : LL ls 2 [some _, some _] := hl
  refine g_iload_n hC hl dX1_differencesOf_0 rfl rfl ?_
  obtain rfl | rfl | rfl | rfl : d = 0 ∨ d = 1 ∨ d = 2 ∨ d = 3 := by omega
  · refine lv_tableIn (off := 27) (tgt := 28) hC.1 hC.2.1 dX1_differencesOf_1 (by decide) (by decide) (by decide) (by decide) ?_
    refine g_aload_n hC hl dX1_differencesOf_28 rfl rfl ?_
    refine g_get (ci := 1) (k := 7) hC hO rfl inX1 (by decide) q_fl_RX1_27 (nn_rb hk) (sh_rec _ _ _ _ _) rfl dX1_differencesOf_29 ?_
    exact g_aret hC hO dX1_differencesOf_32 (⟨rfl, rfl⟩)
  · refine lv_tableIn (off := 32) (tgt := 33) hC.1 hC.2.1 dX1_differencesOf_1 (by decide) (by decide) (by decide) (by decide) ?_
    refine g_aload_n hC hl dX1_differencesOf_33 rfl rfl ?_
    refine g_get (ci := 1) (k := 8) hC hO rfl inX1 (by decide) q_fl_RX1_30 (nn_rb hk) (sh_rec _ _ _ _ _) rfl dX1_differencesOf_34 ?_
    exact g_aret hC hO dX1_differencesOf_37 (⟨rfl, rfl⟩)
  · refine lv_tableIn (off := 37) (tgt := 38) hC.1 hC.2.1 dX1_differencesOf_1 (by decide) (by decide) (by decide) (by decide) ?_
    refine g_aload_n hC hl dX1_differencesOf_38 rfl rfl ?_
    refine g_get (ci := 1) (k := 9) hC hO rfl inX1 (by decide) q_fl_RX1_33 (nn_rb hk) (sh_rec _ _ _ _ _) rfl dX1_differencesOf_39 ?_
    exact g_aret hC hO dX1_differencesOf_42 (⟨rfl, rfl⟩)
  · refine lv_tableOut (tgt := 43) hC.1 hC.2.1 dX1_differencesOf_1 (by decide) (by decide) ?_
    refine g_aload_n hC hl dX1_differencesOf_43 rfl rfl ?_
    refine g_get (ci := 1) (k := 10) hC hO rfl inX1 (by decide) q_fl_RX1_36 (nn_rb hk) (sh_rec _ _ _ _ _) rfl dX1_differencesOf_44 ?_
    exact g_aret hC hO dX1_differencesOf_47 (⟨rfl, rfl⟩)

set_option maxHeartbeats 4000000 in
set_option maxRecDepth 100000 in
/-- isSeal -/
theorem c_X3_isSeal (l : Launch) (κ : KK) (σ : ST) (p0 : Int64) : Met l yX3_isSeal (wA yX3_isSeal cX3_isSeal 2 (some .boolean)) ({ frames := 0, cells := 0, slots := 0, locals := 0 }) (va_Pc [.long p0] (WX κ σ)) (va_Qi (fun r σ' => σ = σ' ∧ r = bI (sealB p0)) (WX κ) (FA κ)) 0 0 (FA κ) := by
  refine g_met 0 (by decide) rfl (Nat.le_of_ble_eq_true rfl) ?_
  intro p e s m args below meth c hC F th hO ls hl
  have hl : LL ls 2 [some _, none] := hl
  refine g_lload_n hC hl dX3_isSeal_0 rfl rfl ?_
  refine lv_lconst (v := 1) hC.1 hC.2.1 dX3_isSeal_1 (by decide) ?_
  refine W.lcmp hC.1 hC.2.1 dX3_isSeal_2 ?_
  refine lv_if_lt (tgt := 18) hC.1 hC.2.1 dX3_isSeal_3 (by decide) (fun c_1 => ?_) (fun c_1 => ?_)
  · skip
    rw [lg_cmp_lt] at c_1
    refine lv_iconst (v := 0) hC.1 hC.2.1 dX3_isSeal_18 (by decide) ?_
    exact g_zret hC hO dX3_isSeal_19 (by decide) (⟨rfl, by first | exact bI_t (by simp only [sealB, Bool.and_eq_true, decide_eq_true_eq]; exact ⟨Int64.not_lt.mp c_1, Int64.not_lt.mp c_2⟩) | exact bI_f (by simp only [sealB, Bool.and_eq_false_iff, decide_eq_false_iff_not]; first | exact Or.inl (Int64.not_le.mpr c_1) | exact Or.inr (Int64.not_le.mpr c_2))⟩)
  · skip
    rw [lg_cmp_lt] at c_1
    refine g_lload_n hC hl dX3_isSeal_6 rfl rfl ?_
    refine lv_ldc2 hC.1 hC.2.1 hC.2.2.2.1 (hC.2.2.2.2.1 _ q_kl_RX3_140) dX3_isSeal_7 ?_
    refine W.lcmp hC.1 hC.2.1 dX3_isSeal_10 ?_
    refine lv_if_gt (tgt := 18) hC.1 hC.2.1 dX3_isSeal_11 (by decide) (fun c_2 => ?_) (fun c_2 => ?_)
    · skip
      rw [lg_cmp_gt] at c_2
      refine lv_iconst (v := 0) hC.1 hC.2.1 dX3_isSeal_18 (by decide) ?_
      exact g_zret hC hO dX3_isSeal_19 (by decide) (⟨rfl, by first | exact bI_t (by simp only [sealB, Bool.and_eq_true, decide_eq_true_eq]; exact ⟨Int64.not_lt.mp c_1, Int64.not_lt.mp c_2⟩) | exact bI_f (by simp only [sealB, Bool.and_eq_false_iff, decide_eq_false_iff_not]; first | exact Or.inl (Int64.not_le.mpr c_1) | exact Or.inr (Int64.not_le.mpr c_2))⟩)
    · skip
      rw [lg_cmp_gt] at c_2
      refine lv_iconst (v := 1) hC.1 hC.2.1 dX3_isSeal_14 (by decide) ?_
      refine lv_goto (tgt := 19) hC.1 hC.2.1 dX3_isSeal_15 (by decide) ?_
      exact g_zret hC hO dX3_isSeal_19 (by decide) (⟨rfl, by first | exact bI_t (by simp only [sealB, Bool.and_eq_true, decide_eq_true_eq]; exact ⟨Int64.not_lt.mp c_1, Int64.not_lt.mp c_2⟩) | exact bI_f (by simp only [sealB, Bool.and_eq_false_iff, decide_eq_false_iff_not]; first | exact Or.inl (Int64.not_le.mpr c_1) | exact Or.inr (Int64.not_le.mpr c_2))⟩)

set_option maxHeartbeats 4000000 in
set_option maxRecDepth 100000 in
/-- isPerson -/
theorem c_X3_isPerson (l : Launch) (κ : KK) (σ : ST) (p0 : Int32) : Met l yX3_isPerson (wA yX3_isPerson cX3_isPerson 1 (some .boolean)) ({ frames := 0, cells := 0, slots := 0, locals := 0 }) (va_Pc [.int p0] (WX κ σ)) (va_Qi (fun r σ' => σ = σ' ∧ r = bI (personB p0)) (WX κ) (FA κ)) 0 0 (FA κ) := by
  refine g_met 0 (by decide) rfl (Nat.le_of_ble_eq_true rfl) ?_
  intro p e s m args below meth c hC F th hO ls hl
  have hl : LL ls 1 [some _] := hl
  refine g_iload_n hC hl dX3_isPerson_0 rfl rfl ?_
  refine lv_if_lt (tgt := 14) hC.1 hC.2.1 dX3_isPerson_1 (by decide) (fun c_1 => ?_) (fun c_1 => ?_)
  · skip
    refine lv_iconst (v := 0) hC.1 hC.2.1 dX3_isPerson_14 (by decide) ?_
    exact g_zret hC hO dX3_isPerson_15 (by decide) (⟨rfl, by first | exact bI_t (by simp only [personB, Bool.and_eq_true, decide_eq_true_eq]; exact ⟨Int32.not_lt.mp c_1, Int32.not_lt.mp c_2⟩) | exact bI_f (by simp only [personB, Bool.and_eq_false_iff, decide_eq_false_iff_not]; first | exact Or.inl (Int32.not_le.mpr c_1) | exact Or.inr (Int32.not_le.mpr c_2))⟩)
  · skip
    refine g_iload_n hC hl dX3_isPerson_4 rfl rfl ?_
    refine lv_bipush (v := 49) hC.1 hC.2.1 dX3_isPerson_5 (by decide) ?_
    refine lv_icmp_gt (tgt := 14) hC.1 hC.2.1 dX3_isPerson_7 (by decide) (fun c_2 => ?_) (fun c_2 => ?_)
    · skip
      refine lv_iconst (v := 0) hC.1 hC.2.1 dX3_isPerson_14 (by decide) ?_
      exact g_zret hC hO dX3_isPerson_15 (by decide) (⟨rfl, by first | exact bI_t (by simp only [personB, Bool.and_eq_true, decide_eq_true_eq]; exact ⟨Int32.not_lt.mp c_1, Int32.not_lt.mp c_2⟩) | exact bI_f (by simp only [personB, Bool.and_eq_false_iff, decide_eq_false_iff_not]; first | exact Or.inl (Int32.not_le.mpr c_1) | exact Or.inr (Int32.not_le.mpr c_2))⟩)
    · skip
      refine lv_iconst (v := 1) hC.1 hC.2.1 dX3_isPerson_10 (by decide) ?_
      refine lv_goto (tgt := 15) hC.1 hC.2.1 dX3_isPerson_11 (by decide) ?_
      exact g_zret hC hO dX3_isPerson_15 (by decide) (⟨rfl, by first | exact bI_t (by simp only [personB, Bool.and_eq_true, decide_eq_true_eq]; exact ⟨Int32.not_lt.mp c_1, Int32.not_lt.mp c_2⟩) | exact bI_f (by simp only [personB, Bool.and_eq_false_iff, decide_eq_false_iff_not]; first | exact Or.inl (Int32.not_le.mpr c_1) | exact Or.inr (Int32.not_le.mpr c_2))⟩)

set_option maxHeartbeats 4000000 in
set_option maxRecDepth 100000 in
/-- isItem -/
theorem c_X3_isItem (l : Launch) (κ : KK) (σ : ST) (p0 : Int32) : Met l yX3_isItem (wA yX3_isItem cX3_isItem 1 (some .boolean)) ({ frames := 0, cells := 0, slots := 0, locals := 0 }) (va_Pc [.int p0] (WX κ σ)) (va_Qi (fun r σ' => σ = σ' ∧ r = bI (itemB p0)) (WX κ) (FA κ)) 0 0 (FA κ) := by
  refine g_met 0 (by decide) rfl (Nat.le_of_ble_eq_true rfl) ?_
  intro p e s m args below meth c hC F th hO ls hl
  have hl : LL ls 1 [some _] := hl
  refine g_iload_n hC hl dX3_isItem_0 rfl rfl ?_
  refine lv_iconst (v := 1) hC.1 hC.2.1 dX3_isItem_1 (by decide) ?_
  refine lv_icmp_lt (tgt := 16) hC.1 hC.2.1 dX3_isItem_2 (by decide) (fun c_1 => ?_) (fun c_1 => ?_)
  · skip
    refine lv_iconst (v := 0) hC.1 hC.2.1 dX3_isItem_16 (by decide) ?_
    exact g_zret hC hO dX3_isItem_17 (by decide) (⟨rfl, by first | exact bI_t (by simp only [itemB, Bool.and_eq_true, decide_eq_true_eq]; exact ⟨Int32.not_lt.mp c_1, Int32.not_lt.mp c_2⟩) | exact bI_f (by simp only [itemB, Bool.and_eq_false_iff, decide_eq_false_iff_not]; first | exact Or.inl (Int32.not_le.mpr c_1) | exact Or.inr (Int32.not_le.mpr c_2))⟩)
  · skip
    refine g_iload_n hC hl dX3_isItem_5 rfl rfl ?_
    refine lv_sipush (v := 999) hC.1 hC.2.1 dX3_isItem_6 (by decide) ?_
    refine lv_icmp_gt (tgt := 16) hC.1 hC.2.1 dX3_isItem_9 (by decide) (fun c_2 => ?_) (fun c_2 => ?_)
    · skip
      refine lv_iconst (v := 0) hC.1 hC.2.1 dX3_isItem_16 (by decide) ?_
      exact g_zret hC hO dX3_isItem_17 (by decide) (⟨rfl, by first | exact bI_t (by simp only [itemB, Bool.and_eq_true, decide_eq_true_eq]; exact ⟨Int32.not_lt.mp c_1, Int32.not_lt.mp c_2⟩) | exact bI_f (by simp only [itemB, Bool.and_eq_false_iff, decide_eq_false_iff_not]; first | exact Or.inl (Int32.not_le.mpr c_1) | exact Or.inr (Int32.not_le.mpr c_2))⟩)
    · skip
      refine lv_iconst (v := 1) hC.1 hC.2.1 dX3_isItem_12 (by decide) ?_
      refine lv_goto (tgt := 17) hC.1 hC.2.1 dX3_isItem_13 (by decide) ?_
      exact g_zret hC hO dX3_isItem_17 (by decide) (⟨rfl, by first | exact bI_t (by simp only [itemB, Bool.and_eq_true, decide_eq_true_eq]; exact ⟨Int32.not_lt.mp c_1, Int32.not_lt.mp c_2⟩) | exact bI_f (by simp only [itemB, Bool.and_eq_false_iff, decide_eq_false_iff_not]; first | exact Or.inl (Int32.not_le.mpr c_1) | exact Or.inr (Int32.not_le.mpr c_2))⟩)

set_option maxHeartbeats 4000000 in
set_option maxRecDepth 100000 in
/-- receptacleOf -/
theorem c_X3_receptacleOf (l : Launch) (κ : KK) (σ : ST) (p0 : Int32) : Met l yX3_receptacleOf (wA yX3_receptacleOf cX3_receptacleOf 3 (some (.object "BagRows$Receptacle"))) ({ frames := 0, cells := 0, slots := 0, locals := 0 }) (va_Pc [.ref (kad κ 0), .int p0] (WX κ σ)) (va_Qq (fun r σ' => σ = σ' ∧ ((r = none ∧ recOf σ p0 = none) ∨ ∃ k, recOf σ p0 = some k ∧ r = some (kad κ (rb k)))) (WX κ) (FA κ)) 0 0 (FA κ) := by
  refine g_met 1 (by decide) rfl (Nat.le_of_ble_eq_true rfl) ?_
  intro p e s m args below meth c hC F th hO ls hl
  have hl : LL ls 3 [some _, some _, none] := hl
  have h60 := hO.1.1
  refine g_iload_n hC hl dX3_receptacleOf_0 rfl rfl ?_
  refine lv_sipush (v := 1000) hC.1 hC.2.1 dX3_receptacleOf_1 (by decide) ?_
  refine lv_icmp_gt (tgt := 9) hC.1 hC.2.1 dX3_receptacleOf_4 (by decide) (fun c_1 => ?_) (fun c_1 => ?_)
  · skip
    obtain ⟨j, hj, rfl⟩ := gt1000 c_1
    have e1 : nI (1001 + j) - 1000 - 1 = nI j := by
      rw [show (1000 : Int32) = nI 1000 from rfl, show (1 : Int32) = nI 1 from rfl, pk_sub (by omega), pk_sub (by omega), show 1001 + j - 1000 - 1 = j by omega]
    refine g_iload_n hC hl dX3_receptacleOf_9 rfl rfl ?_
    refine lv_sipush (v := 1000) hC.1 hC.2.1 dX3_receptacleOf_10 (by decide) ?_
    refine lv_isub hC.1 hC.2.1 dX3_receptacleOf_13 ?_
    refine lv_iconst (v := 1) hC.1 hC.2.1 dX3_receptacleOf_14 (by decide) ?_
    refine lv_isub hC.1 hC.2.1 dX3_receptacleOf_15 ?_
    rw [e1]
    refine g_istore_n hC hl dX3_receptacleOf_16 rfl (Nat.le_of_ble_eq_true rfl) rfl (fun ls hl => ?_)
    have hl : LL ls 3 [some _, some _, some _] := hl
    refine g_iload_n hC hl dX3_receptacleOf_17 rfl rfl ?_
    refine g_aload_n hC hl dX3_receptacleOf_18 rfl rfl ?_
    refine g_get (ci := 3) (k := 0) hC hO rfl inX3 (by decide) q_fl_RX3_11 (nn_lt (Nat.le_of_ble_eq_true rfl)) rfl rfl dX3_receptacleOf_19 ?_
    refine g_alenR (v := nI 60) hC hO (nn_lt (Nat.le_of_ble_eq_true rfl)) rfl rfl dX3_receptacleOf_22 ?_
    refine lv_icmp_ge (tgt := 35) hC.1 hC.2.1 dX3_receptacleOf_23 (by decide) (fun c_2 => ?_) (fun c_2 => ?_)
    · skip
      have c9 : nI 60 ≤ nI j := c_2
      rw [nI_leI (by omega) (by omega)] at c9
      refine lv_null hC.1 hC.2.1 dX3_receptacleOf_35 ?_
      exact g_aretN hC hO dX3_receptacleOf_36 (⟨rfl, by
          rw [recOf_nI hj]
          by_cases h : j < σ.1
          · first
              | exact absurd h (by omega)
              | exact Or.inr ⟨j, if_pos h, by rw [nI_clamp (by omega), if_pos h]⟩
          · first
              | exact Or.inl ⟨rfl, if_neg h⟩
              | exact Or.inl ⟨by rw [nI_clamp (by omega), if_neg h], if_neg h⟩⟩)
    · skip
      have c9 : ¬ nI 60 ≤ nI j := c_2
      rw [nI_leI (by omega) (by omega)] at c9
      refine g_aload_n hC hl dX3_receptacleOf_26 rfl rfl ?_
      refine g_get (ci := 3) (k := 0) hC hO rfl inX3 (by decide) q_fl_RX3_11 (nn_lt (Nat.le_of_ble_eq_true rfl)) rfl rfl dX3_receptacleOf_27 ?_
      refine g_iload_n hC hl dX3_receptacleOf_30 rfl rfl ?_
      refine g_aldq hC hO (nn_lt (Nat.le_of_ble_eq_true rfl)) rfl (vp_in_nI (by omega) (by omega)) dX3_receptacleOf_31 ?_
      refine lv_goto (tgt := 36) hC.1 hC.2.1 dX3_receptacleOf_32 (by decide) ?_
      exact g_aretq hC hO dX3_receptacleOf_36 (⟨rfl, by
          rw [recOf_nI hj]
          by_cases h : j < σ.1
          · first
              | exact absurd h (by omega)
              | exact Or.inr ⟨j, if_pos h, by rw [nI_clamp (by omega), if_pos h]⟩
          · first
              | exact Or.inl ⟨rfl, if_neg h⟩
              | exact Or.inl ⟨by rw [nI_clamp (by omega), if_neg h], if_neg h⟩⟩)
  · skip
    refine lv_null hC.1 hC.2.1 dX3_receptacleOf_7 ?_
    exact g_aretN hC hO dX3_receptacleOf_8 (⟨rfl, Or.inl ⟨rfl, recOf_le c_1⟩⟩)

set_option maxHeartbeats 4000000 in
set_option maxRecDepth 100000 in
/-- isThing -/
theorem c_X3_isThing (l : Launch) (κ : KK) (σ : ST) (p0 : Int32) : Met l yX3_isThing (wA yX3_isThing cX3_isThing 2 (some .boolean)) ({ frames := 1, cells := 0, slots := 0, locals := 22 }) (va_Pc [.ref (kad κ 0), .int p0] (WX κ σ)) (va_Qi (fun r σ' => σ = σ' ∧ r = bI (thingB σ p0)) (WX κ) (FA κ)) 0 0 (FA κ) := by
  refine g_met 0 (by decide) rfl (Nat.le_of_ble_eq_true rfl) ?_
  intro p e s m args below meth c hC F th hO ls hl
  have hl : LL ls 2 [some _, some _] := hl
  refine g_iload_n hC hl dX3_isThing_0 rfl rfl ?_
  refine g_cSi1 hC hO hl (c_X3_isItem l κ _ _) mi_X3_isItem q_ml_RX3_173 rfl rfl ⟨Nat.le_of_ble_eq_true rfl, Nat.le_of_ble_eq_true rfl⟩ (Nat.le_of_ble_eq_true rfl) ⟨Nat.zero_le _, Nat.zero_le _⟩ dX3_isThing_1 (fun r σ1 F th H locs hr hO => ?_)
  obtain ⟨rfl, rfl⟩ := hr
  refine lv_if_ne (tgt := 15) hC.1 hC.2.1 dX3_isThing_4 (by decide) (fun c_1 => ?_) (fun c_1 => ?_)
  · skip
    have c_1 := bI_nz c_1
    refine lv_iconst (v := 1) hC.1 hC.2.1 dX3_isThing_15 (by decide) ?_
    refine lv_goto (tgt := 20) hC.1 hC.2.1 dX3_isThing_16 (by decide) ?_
    exact g_zret hC hO dX3_isThing_20 (by decide) (⟨rfl, by first | exact bI_t (by simp [thingB, c_1]) | exact bI_f (by simp [thingB, c_1])⟩)
  · skip
    have c_1 := bI_z c_1
    refine g_aload_n hC hl dX3_isThing_7 rfl rfl ?_
    refine g_iload_n hC hl dX3_isThing_8 rfl rfl ?_
    refine g_cVq1 hC hO hl (ci := 3) rfl (nn_lt (Nat.le_of_ble_eq_true rfl)) rfl (c_X3_receptacleOf l κ _ _) mi_X3_receptacleOf q_ml_RX3_36 rfl rfl ⟨Nat.le_of_ble_eq_true rfl, Nat.le_of_ble_eq_true rfl⟩ (Nat.le_of_ble_eq_true rfl) ⟨Nat.zero_le _, Nat.zero_le _⟩ dX3_isThing_9 (fun r σ1 F th H locs hr hO => ?_)
    obtain ⟨rfl, hr⟩ := hr
    rcases hr with ⟨rfl, hq9⟩ | ⟨k, hq9, rfl⟩
    · skip
      refine lv_ifnullN (tgt := 19) hC.1 hC.2.1 dX3_isThing_12 (by decide) ?_
      refine lv_iconst (v := 0) hC.1 hC.2.1 dX3_isThing_19 (by decide) ?_
      exact g_zret hC hO dX3_isThing_20 (by decide) (⟨rfl, by first | exact bI_t (by simp [thingB, c_1, hq9]) | exact bI_f (by simp [thingB, c_1, hq9])⟩)
    · have hk := recOf_lt hq9
      refine lv_ifnull hC.1 hC.2.1 dX3_isThing_12 ?_
      refine lv_iconst (v := 1) hC.1 hC.2.1 dX3_isThing_15 (by decide) ?_
      refine lv_goto (tgt := 20) hC.1 hC.2.1 dX3_isThing_16 (by decide) ?_
      exact g_zret hC hO dX3_isThing_20 (by decide) (⟨rfl, by first | exact bI_t (by simp [thingB, c_1, hq9]) | exact bI_f (by simp [thingB, c_1, hq9])⟩)

set_option maxHeartbeats 4000000 in
set_option maxRecDepth 100000 in
/-- holderOf -/
theorem c_X3_holderOf (l : Launch) (κ : KK) (σ : ST) (p0 : Int32) : Met l yX3_holderOf (wA yX3_holderOf cX3_holderOf 2 (some .int)) ({ frames := 0, cells := 0, slots := 0, locals := 0 }) (va_Pc [.ref (kad κ 0), .int p0] (WX κ σ)) (va_Qi (fun r σ' => σ = σ' ∧ r = holdF σ p0) (WX κ) (FA κ)) 0 0 (FA κ) := by
  refine g_met 0 (by decide) rfl (Nat.le_of_ble_eq_true rfl) ?_
  intro p e s m args below meth c hC F th hO ls hl
  have hl : LL ls 2 [some _, some _] := hl
  refine g_iload_n hC hl dX3_holderOf_0 rfl rfl ?_
  refine lv_if_lt (tgt := 22) hC.1 hC.2.1 dX3_holderOf_1 (by decide) (fun c_1 => ?_) (fun c_1 => ?_)
  · skip
    refine lv_iconst (v := 0) hC.1 hC.2.1 dX3_holderOf_22 (by decide) ?_
    exact g_iret hC hO dX3_holderOf_23 (⟨rfl, by first | (unfold holdF; rw [if_neg c_1, if_neg c_2]) | (unfold holdF; rw [if_pos c_1]) | (unfold holdF; rw [if_neg c_1, if_pos c_2])⟩)
  · skip
    refine g_iload_n hC hl dX3_holderOf_4 rfl rfl ?_
    refine g_aload_n hC hl dX3_holderOf_5 rfl rfl ?_
    refine g_get (ci := 3) (k := 2) hC hO rfl inX3 (by decide) q_fl_RX3_15 (nn_lt (Nat.le_of_ble_eq_true rfl)) rfl rfl dX3_holderOf_6 ?_
    refine g_alenI (v := nI 1061) hC hO (nn_lt (Nat.le_of_ble_eq_true rfl)) rfl rfl dX3_holderOf_9 ?_
    refine lv_icmp_ge (tgt := 22) hC.1 hC.2.1 dX3_holderOf_10 (by decide) (fun c_2 => ?_) (fun c_2 => ?_)
    · skip
      refine lv_iconst (v := 0) hC.1 hC.2.1 dX3_holderOf_22 (by decide) ?_
      exact g_iret hC hO dX3_holderOf_23 (⟨rfl, by first | (unfold holdF; rw [if_neg c_1, if_neg c_2]) | (unfold holdF; rw [if_pos c_1]) | (unfold holdF; rw [if_neg c_1, if_pos c_2])⟩)
    · skip
      refine g_aload_n hC hl dX3_holderOf_13 rfl rfl ?_
      refine g_get (ci := 3) (k := 2) hC hO rfl inX3 (by decide) q_fl_RX3_15 (nn_lt (Nat.le_of_ble_eq_true rfl)) rfl rfl dX3_holderOf_14 ?_
      refine g_iload_n hC hl dX3_holderOf_17 rfl rfl ?_
      refine g_iald hC hO (nn_lt (Nat.le_of_ble_eq_true rfl)) rfl (vp_in2 (by assumption) (by assumption) (by decide)) dX3_holderOf_18 ?_
      refine lv_goto (tgt := 23) hC.1 hC.2.1 dX3_holderOf_19 (by decide) ?_
      exact g_iret hC hO dX3_holderOf_23 (⟨rfl, by first | (unfold holdF; rw [if_neg c_1, if_neg c_2]) | (unfold holdF; rw [if_pos c_1]) | (unfold holdF; rw [if_neg c_1, if_pos c_2])⟩)

set_option maxHeartbeats 4000000 in
set_option maxRecDepth 100000 in
/-- setHolder -/
theorem c_X3_setHolder (l : Launch) (κ : KK) (σ : ST) (p0 p1 : Int32) : Met l yX3_setHolder (wA yX3_setHolder cX3_setHolder 3 none) ({ frames := 0, cells := 0, slots := 0, locals := 0 }) (va_Pc [.ref (kad κ 0), .int p0, .int p1] (WX κ σ)) (va_Qv (fun σ' => σ' = setHoldF σ p0 p1) (WX κ) (FA κ)) 0 0 (FA κ) := by
  refine g_met 0 (by decide) rfl (Nat.le_of_ble_eq_true rfl) ?_
  intro p e s m args below meth c hC F th hO ls hl
  have hl : LL ls 3 [some _, some _, some _] := hl
  refine g_iload_n hC hl dX3_setHolder_0 rfl rfl ?_
  refine lv_if_lt (tgt := 20) hC.1 hC.2.1 dX3_setHolder_1 (by decide) (fun c_1 => ?_) (fun c_1 => ?_)
  · skip
    exact g_vret hC hO dX3_setHolder_20 (by first | (unfold setHoldF; rw [if_neg c_1, if_neg c_2]) | (unfold setHoldF; rw [if_pos c_1]) | (unfold setHoldF; rw [if_neg c_1, if_pos c_2]))
  · skip
    refine g_iload_n hC hl dX3_setHolder_4 rfl rfl ?_
    refine g_aload_n hC hl dX3_setHolder_5 rfl rfl ?_
    refine g_get (ci := 3) (k := 2) hC hO rfl inX3 (by decide) q_fl_RX3_15 (nn_lt (Nat.le_of_ble_eq_true rfl)) rfl rfl dX3_setHolder_6 ?_
    refine g_alenI (v := nI 1061) hC hO (nn_lt (Nat.le_of_ble_eq_true rfl)) rfl rfl dX3_setHolder_9 ?_
    refine lv_icmp_ge (tgt := 20) hC.1 hC.2.1 dX3_setHolder_10 (by decide) (fun c_2 => ?_) (fun c_2 => ?_)
    · skip
      exact g_vret hC hO dX3_setHolder_20 (by first | (unfold setHoldF; rw [if_neg c_1, if_neg c_2]) | (unfold setHoldF; rw [if_pos c_1]) | (unfold setHoldF; rw [if_neg c_1, if_pos c_2]))
    · skip
      refine g_aload_n hC hl dX3_setHolder_13 rfl rfl ?_
      refine g_get (ci := 3) (k := 2) hC hO rfl inX3 (by decide) q_fl_RX3_15 (nn_lt (Nat.le_of_ble_eq_true rfl)) rfl rfl dX3_setHolder_14 ?_
      refine g_iload_n hC hl dX3_setHolder_17 rfl rfl ?_
      refine g_iload_n hC hl dX3_setHolder_18 rfl rfl ?_
      refine g_iast hC hO (nn_lt (Nat.le_of_ble_eq_true rfl)) (fun _ _ => rfl) (vp_in2 (by assumption) (by assumption) (by decide)) dX3_setHolder_19 (fun H locs hO => ?_)
      exact g_vret hC hO dX3_setHolder_20 (by first | (unfold setHoldF; rw [if_neg c_1, if_neg c_2]) | (unfold setHoldF; rw [if_pos c_1]) | (unfold setHoldF; rw [if_neg c_1, if_pos c_2]))

set_option maxHeartbeats 4000000 in
set_option maxRecDepth 100000 in
/-- setOwnPlace -/
theorem c_X3_setOwnPlace (l : Launch) (κ : KK) (σ : ST) (p0 p1 : Int32) : Met l yX3_setOwnPlace (wA yX3_setOwnPlace cX3_setOwnPlace 3 none) ({ frames := 0, cells := 0, slots := 0, locals := 0 }) (va_Pc [.ref (kad κ 0), .int p0, .int p1] (WX κ σ)) (va_Qv (fun σ' => σ' = setOwnF σ p0 p1) (WX κ) (FA κ)) 0 0 (FA κ) := by
  refine g_met 0 (by decide) rfl (Nat.le_of_ble_eq_true rfl) ?_
  intro p e s m args below meth c hC F th hO ls hl
  have hl : LL ls 3 [some _, some _, some _] := hl
  refine g_iload_n hC hl dX3_setOwnPlace_0 rfl rfl ?_
  refine lv_if_lt (tgt := 20) hC.1 hC.2.1 dX3_setOwnPlace_1 (by decide) (fun c_1 => ?_) (fun c_1 => ?_)
  · skip
    exact g_vret hC hO dX3_setOwnPlace_20 (by first | (unfold setOwnF; rw [if_neg c_1, if_neg c_2]) | (unfold setOwnF; rw [if_pos c_1]) | (unfold setOwnF; rw [if_neg c_1, if_pos c_2]))
  · skip
    refine g_iload_n hC hl dX3_setOwnPlace_4 rfl rfl ?_
    refine g_aload_n hC hl dX3_setOwnPlace_5 rfl rfl ?_
    refine g_get (ci := 3) (k := 3) hC hO rfl inX3 (by decide) q_fl_RX3_19 (nn_lt (Nat.le_of_ble_eq_true rfl)) rfl rfl dX3_setOwnPlace_6 ?_
    refine g_alenI (v := nI 1061) hC hO (nn_lt (Nat.le_of_ble_eq_true rfl)) rfl rfl dX3_setOwnPlace_9 ?_
    refine lv_icmp_ge (tgt := 20) hC.1 hC.2.1 dX3_setOwnPlace_10 (by decide) (fun c_2 => ?_) (fun c_2 => ?_)
    · skip
      exact g_vret hC hO dX3_setOwnPlace_20 (by first | (unfold setOwnF; rw [if_neg c_1, if_neg c_2]) | (unfold setOwnF; rw [if_pos c_1]) | (unfold setOwnF; rw [if_neg c_1, if_pos c_2]))
    · skip
      refine g_aload_n hC hl dX3_setOwnPlace_13 rfl rfl ?_
      refine g_get (ci := 3) (k := 3) hC hO rfl inX3 (by decide) q_fl_RX3_19 (nn_lt (Nat.le_of_ble_eq_true rfl)) rfl rfl dX3_setOwnPlace_14 ?_
      refine g_iload_n hC hl dX3_setOwnPlace_17 rfl rfl ?_
      refine g_iload_n hC hl dX3_setOwnPlace_18 rfl rfl ?_
      refine g_iast hC hO (nn_lt (Nat.le_of_ble_eq_true rfl)) (fun _ _ => rfl) (vp_in2 (by assumption) (by assumption) (by decide)) dX3_setOwnPlace_19 (fun H locs hO => ?_)
      exact g_vret hC hO dX3_setOwnPlace_20 (by first | (unfold setOwnF; rw [if_neg c_1, if_neg c_2]) | (unfold setOwnF; rw [if_pos c_1]) | (unfold setOwnF; rw [if_neg c_1, if_pos c_2]))

set_option maxHeartbeats 4000000 in
set_option maxRecDepth 100000 in
/-- placeOf -/
theorem c_X3_placeOf (l : Launch) (κ : KK) (σ : ST) (p0 : Int32) : Met l yX3_placeOf (wA yX3_placeOf cX3_placeOf 4 (some .int)) ({ frames := 1, cells := 0, slots := 0, locals := 21 }) (va_Pc [.ref (kad κ 0), .int p0] (WX κ σ)) (va_Qi (fun r σ' => σ = σ' ∧ r = placeF σ p0) (WX κ) (FA κ)) 0 0 (FA κ) := by
  refine g_met 2 (by decide) rfl (Nat.le_of_ble_eq_true rfl) ?_
  intro p e s m args below meth c hC F th hO ls hl
  have hl : LL ls 4 [some _, some _, none, none] := hl
  have loop4 : ∀ (n f d : Nat) (o : Int32), f + 1 ≤ n → d + f = 60 → outF σ 60 p0 = outF σ f o → ∀ (F : Nat → Nat → Int32) (th : Int32) (H : Heap) (locs : List Loc), OS κ s.heap σ F th H locs → ∀ ls : Array Slot, LL ls 4 [some (.ref (kad κ 0)), some (.int p0), some (.int o), some (.int (nI d))] → W p l e ({ frames := 1, cells := 0, slots := 0, locals := 21 } : Room) s m args below meth c H locs 0 0 (MQ below (va_Qi (fun r σ' => σ = σ' ∧ r = placeF σ p0) (WX κ) (FA κ)) args s 0 0 (FA κ)) (F0 m 4 ls []) := by
    intro n
    induction n with
    | zero => intro f d o h1; exact absurd h1 (by omega)
    | succ n ih =>
      intro f d o h1 h2 h3 F th H locs hO ls hl
      refine g_iload_n hC hl dX3_placeOf_4 rfl rfl ?_
      refine lv_bipush (v := 60) hC.1 hC.2.1 dX3_placeOf_5 (by decide) ?_
      refine lv_icmp_ge (tgt := 30) hC.1 hC.2.1 dX3_placeOf_7 (by decide) (fun c_1 => ?_) (fun c_1 => ?_)
      · skip
        rw [show (60 : Int32) = nI 60 from rfl, nI_leI (by omega) (by omega)] at c_1
        have hend : outF σ 60 p0 = o := by rw [h3, show f = 0 by omega]; rfl
        refine g_iload_n hC hl dX3_placeOf_30 rfl rfl ?_
        refine lv_if_lt (tgt := 52) hC.1 hC.2.1 dX3_placeOf_31 (by decide) (fun c_2 => ?_) (fun c_2 => ?_)
        · skip
          have h8 : ownF σ o = 0 := by unfold ownF; rw [if_pos c_2]
          refine lv_iconst (v := 0) hC.1 hC.2.1 dX3_placeOf_52 (by decide) ?_
          exact g_iret hC hO dX3_placeOf_53 (⟨rfl, by rw [placeF, hend, h8]⟩)
        · skip
          have h7 := c_2
          refine g_iload_n hC hl dX3_placeOf_34 rfl rfl ?_
          refine g_aload_n hC hl dX3_placeOf_35 rfl rfl ?_
          refine g_get (ci := 3) (k := 3) hC hO rfl inX3 (by decide) q_fl_RX3_19 (nn_lt (Nat.le_of_ble_eq_true rfl)) rfl rfl dX3_placeOf_36 ?_
          refine g_alenI (v := nI 1061) hC hO (nn_lt (Nat.le_of_ble_eq_true rfl)) rfl rfl dX3_placeOf_39 ?_
          refine lv_icmp_ge (tgt := 52) hC.1 hC.2.1 dX3_placeOf_40 (by decide) (fun c_3 => ?_) (fun c_3 => ?_)
          · skip
            have h8 : ownF σ o = 0 := by unfold ownF; rw [if_neg h7, if_pos c_3]
            refine lv_iconst (v := 0) hC.1 hC.2.1 dX3_placeOf_52 (by decide) ?_
            exact g_iret hC hO dX3_placeOf_53 (⟨rfl, by rw [placeF, hend, h8]⟩)
          · skip
            have h8 : ownF σ o = sI σ 3 o.toNatClampNeg := by unfold ownF; rw [if_neg h7, if_neg c_3]
            refine g_aload_n hC hl dX3_placeOf_43 rfl rfl ?_
            refine g_get (ci := 3) (k := 3) hC hO rfl inX3 (by decide) q_fl_RX3_19 (nn_lt (Nat.le_of_ble_eq_true rfl)) rfl rfl dX3_placeOf_44 ?_
            refine g_iload_n hC hl dX3_placeOf_47 rfl rfl ?_
            refine g_iald hC hO (nn_lt (Nat.le_of_ble_eq_true rfl)) rfl (vp_in2 (by assumption) (by assumption) (by decide)) dX3_placeOf_48 ?_
            refine lv_goto (tgt := 53) hC.1 hC.2.1 dX3_placeOf_49 (by decide) ?_
            exact g_iret hC hO dX3_placeOf_53 (⟨rfl, by rw [placeF, hend, h8]⟩)
      · skip
        rw [show (60 : Int32) = nI 60 from rfl, nI_leI (by omega) (by omega)] at c_1
        refine g_aload_n hC hl dX3_placeOf_10 rfl rfl ?_
        refine g_iload_n hC hl dX3_placeOf_11 rfl rfl ?_
        refine g_cVi1 hC hO hl (ci := 3) rfl (nn_lt (Nat.le_of_ble_eq_true rfl)) rfl (c_X3_holderOf l κ _ _) mi_X3_holderOf q_ml_RX3_47 rfl rfl ⟨Nat.le_of_ble_eq_true rfl, Nat.le_of_ble_eq_true rfl⟩ (Nat.le_of_ble_eq_true rfl) ⟨Nat.zero_le _, Nat.zero_le _⟩ dX3_placeOf_12 (fun r σ1 F th H locs hr hO => ?_)
        obtain ⟨rfl, rfl⟩ := hr
        refine lv_if_eq (tgt := 30) hC.1 hC.2.1 dX3_placeOf_15 (by decide) (fun c_4 => ?_) (fun c_4 => ?_)
        · skip
          have hend : outF σ 60 p0 = o := by rw [h3, outF_stop c_4]
          refine g_iload_n hC hl dX3_placeOf_30 rfl rfl ?_
          refine lv_if_lt (tgt := 52) hC.1 hC.2.1 dX3_placeOf_31 (by decide) (fun c_5 => ?_) (fun c_5 => ?_)
          · skip
            have h8 : ownF σ o = 0 := by unfold ownF; rw [if_pos c_5]
            refine lv_iconst (v := 0) hC.1 hC.2.1 dX3_placeOf_52 (by decide) ?_
            exact g_iret hC hO dX3_placeOf_53 (⟨rfl, by rw [placeF, hend, h8]⟩)
          · skip
            have h7 := c_5
            refine g_iload_n hC hl dX3_placeOf_34 rfl rfl ?_
            refine g_aload_n hC hl dX3_placeOf_35 rfl rfl ?_
            refine g_get (ci := 3) (k := 3) hC hO rfl inX3 (by decide) q_fl_RX3_19 (nn_lt (Nat.le_of_ble_eq_true rfl)) rfl rfl dX3_placeOf_36 ?_
            refine g_alenI (v := nI 1061) hC hO (nn_lt (Nat.le_of_ble_eq_true rfl)) rfl rfl dX3_placeOf_39 ?_
            refine lv_icmp_ge (tgt := 52) hC.1 hC.2.1 dX3_placeOf_40 (by decide) (fun c_6 => ?_) (fun c_6 => ?_)
            · skip
              have h8 : ownF σ o = 0 := by unfold ownF; rw [if_neg h7, if_pos c_6]
              refine lv_iconst (v := 0) hC.1 hC.2.1 dX3_placeOf_52 (by decide) ?_
              exact g_iret hC hO dX3_placeOf_53 (⟨rfl, by rw [placeF, hend, h8]⟩)
            · skip
              have h8 : ownF σ o = sI σ 3 o.toNatClampNeg := by unfold ownF; rw [if_neg h7, if_neg c_6]
              refine g_aload_n hC hl dX3_placeOf_43 rfl rfl ?_
              refine g_get (ci := 3) (k := 3) hC hO rfl inX3 (by decide) q_fl_RX3_19 (nn_lt (Nat.le_of_ble_eq_true rfl)) rfl rfl dX3_placeOf_44 ?_
              refine g_iload_n hC hl dX3_placeOf_47 rfl rfl ?_
              refine g_iald hC hO (nn_lt (Nat.le_of_ble_eq_true rfl)) rfl (vp_in2 (by assumption) (by assumption) (by decide)) dX3_placeOf_48 ?_
              refine lv_goto (tgt := 53) hC.1 hC.2.1 dX3_placeOf_49 (by decide) ?_
              exact g_iret hC hO dX3_placeOf_53 (⟨rfl, by rw [placeF, hend, h8]⟩)
        · skip
          obtain ⟨f, rfl⟩ : ∃ f2, f = f2 + 1 := ⟨f - 1, by omega⟩
          rw [show outF σ (f + 1) o = (if holdF σ o = 0 then o else outF σ f (holdF σ o)) from rfl, if_neg c_4] at h3
          refine g_aload_n hC hl dX3_placeOf_18 rfl rfl ?_
          refine g_iload_n hC hl dX3_placeOf_19 rfl rfl ?_
          refine g_cVi1 hC hO hl (ci := 3) rfl (nn_lt (Nat.le_of_ble_eq_true rfl)) rfl (c_X3_holderOf l κ _ _) mi_X3_holderOf q_ml_RX3_47 rfl rfl ⟨Nat.le_of_ble_eq_true rfl, Nat.le_of_ble_eq_true rfl⟩ (Nat.le_of_ble_eq_true rfl) ⟨Nat.zero_le _, Nat.zero_le _⟩ dX3_placeOf_20 (fun r σ1 F th H locs hr hO => ?_)
          obtain ⟨rfl, rfl⟩ := hr
          refine g_istore_n hC hl dX3_placeOf_23 rfl (Nat.le_of_ble_eq_true rfl) rfl (fun ls hl => ?_)
          have hl : LL ls 4 [some _, some _, some _, some _] := hl
          refine g_iinc (v := nI (d + 1)) hC hl dX3_placeOf_24 rfl (nI_i1 d) (Nat.le_of_ble_eq_true rfl) rfl (fun ls hl => ?_)
          have hl : LL ls 4 [some _, some _, some _, some _] := hl
          refine lv_goto (tgt := 4) hC.1 hC.2.1 dX3_placeOf_27 (by decide) ?_
          exact ih f (d + 1) _ (by omega) (by omega) h3 _ _ _ _ hO ls hl
  refine g_iload_n hC hl dX3_placeOf_0 rfl rfl ?_
  refine g_istore_n hC hl dX3_placeOf_1 rfl (Nat.le_of_ble_eq_true rfl) rfl (fun ls hl => ?_)
  have hl : LL ls 4 [some _, some _, some _, none] := hl
  refine lv_iconst (v := 0) hC.1 hC.2.1 dX3_placeOf_2 (by decide) ?_
  refine g_istore_n hC hl dX3_placeOf_3 rfl (Nat.le_of_ble_eq_true rfl) rfl (fun ls hl => ?_)
  have hl : LL ls 4 [some _, some _, some _, some _] := hl
  exact loop4 61 60 0 p0 (by omega) (by omega) rfl _ _ _ _ hO ls hl

set_option maxHeartbeats 4000000 in
set_option maxRecDepth 100000 in
/-- isShut -/
theorem c_X3_isShut (l : Launch) (κ : KK) (σ : ST) (p0 : Int32) : Met l yX3_isShut (wA yX3_isShut cX3_isShut 5 (some .boolean)) ({ frames := 1, cells := 0, slots := 0, locals := 22 }) (va_Pc [.ref (kad κ 0), .int p0] (WX κ σ)) (va_Qi (fun r σ' => σ = σ' ∧ r = bI (shutB σ p0)) (WX κ) (FA κ)) 0 0 (FA κ) := by
  refine g_met 3 (by decide) rfl (Nat.le_of_ble_eq_true rfl) ?_
  intro p e s m args below meth c hC F th hO ls hl
  have hl : LL ls 5 [some _, some _, none, none, none] := hl
  have loop4 : ∀ (n f d : Nat) (a : Int32), f + 1 ≤ n → d + f = 61 → shutF σ 61 p0 = shutF σ f a → ∀ (F : Nat → Nat → Int32) (th : Int32) (H : Heap) (locs : List Loc), OS κ s.heap σ F th H locs → ∀ ls : Array Slot, LL ls 5 [some (.ref (kad κ 0)), some (.int p0), some (.int a), some (.int (nI d)), none] → W p l e ({ frames := 1, cells := 0, slots := 0, locals := 22 } : Room) s m args below meth c H locs 0 0 (MQ below (va_Qi (fun r σ' => σ = σ' ∧ r = bI (shutB σ p0)) (WX κ) (FA κ)) args s 0 0 (FA κ)) (F0 m 4 ls []) := by
    intro n
    induction n with
    | zero => intro f d a h1; exact absurd h1 (by omega)
    | succ n ih =>
      intro f d a h1 h2 h3 F th H locs hO ls hl
      refine g_iload_n hC hl dX3_isShut_4 rfl rfl ?_
      refine lv_bipush (v := 60) hC.1 hC.2.1 dX3_isShut_5 (by decide) ?_
      refine lv_icmp_gt (tgt := 48) hC.1 hC.2.1 dX3_isShut_7 (by decide) (fun c_1 => ?_) (fun c_1 => ?_)
      · skip
        rw [show (60 : Int32) = nI 60 from rfl, nI_ltI (by omega) (by omega)] at c_1
        have h9 : shutF σ 61 p0 = false := by rw [h3, show f = 0 by omega]; rfl
        refine lv_iconst (v := 0) hC.1 hC.2.1 dX3_isShut_48 (by decide) ?_
        exact g_zret hC hO dX3_isShut_49 (by decide) (⟨rfl, bI_f h9⟩)
      · skip
        rw [show (60 : Int32) = nI 60 from rfl, nI_ltI (by omega) (by omega)] at c_1
        obtain ⟨f, rfl⟩ : ∃ f2, f = f2 + 1 := ⟨f - 1, by omega⟩
        rw [show shutF σ (f + 1) a = (if a = 0 then false else if closedB σ a = true then true else shutF σ f (holdF σ a)) from rfl] at h3
        refine g_iload_n hC hl dX3_isShut_10 rfl rfl ?_
        refine lv_if_eq (tgt := 48) hC.1 hC.2.1 dX3_isShut_11 (by decide) (fun c_2 => ?_) (fun c_2 => ?_)
        · skip
          have h9 : shutF σ 61 p0 = false := by rw [h3, if_pos c_2]
          refine lv_iconst (v := 0) hC.1 hC.2.1 dX3_isShut_48 (by decide) ?_
          exact g_zret hC hO dX3_isShut_49 (by decide) (⟨rfl, bI_f h9⟩)
        · skip
          rw [if_neg c_2] at h3
          refine g_aload_n hC hl dX3_isShut_14 rfl rfl ?_
          refine g_iload_n hC hl dX3_isShut_15 rfl rfl ?_
          refine g_cVq1 hC hO hl (ci := 3) rfl (nn_lt (Nat.le_of_ble_eq_true rfl)) rfl (c_X3_receptacleOf l κ _ _) mi_X3_receptacleOf q_ml_RX3_36 rfl rfl ⟨Nat.le_of_ble_eq_true rfl, Nat.le_of_ble_eq_true rfl⟩ (Nat.le_of_ble_eq_true rfl) ⟨Nat.zero_le _, Nat.zero_le _⟩ dX3_isShut_16 (fun r σ1 F th H locs hr hO => ?_)
          obtain ⟨rfl, hr⟩ := hr
          rcases hr with ⟨rfl, hq16⟩ | ⟨k, hq16, rfl⟩
          · skip
            have hcl9 : closedB σ a = false := by unfold closedB; rw [hq16]
            refine g_astoreN hC hl dX3_isShut_19 (Nat.le_of_ble_eq_true rfl) rfl (fun ls hl => ?_)
            have hl : LL ls 5 [some _, some _, some _, some _, some _] := hl
            refine g_aloadN hC hl dX3_isShut_21 rfl ?_
            refine lv_ifnullN (tgt := 36) hC.1 hC.2.1 dX3_isShut_23 (by decide) ?_
            refine g_aload_n hC hl dX3_isShut_36 rfl rfl ?_
            refine g_iload_n hC hl dX3_isShut_37 rfl rfl ?_
            refine g_cVi1 hC hO hl (ci := 3) rfl (nn_lt (Nat.le_of_ble_eq_true rfl)) rfl (c_X3_holderOf l κ _ _) mi_X3_holderOf q_ml_RX3_47 rfl rfl ⟨Nat.le_of_ble_eq_true rfl, Nat.le_of_ble_eq_true rfl⟩ (Nat.le_of_ble_eq_true rfl) ⟨Nat.zero_le _, Nat.zero_le _⟩ dX3_isShut_38 (fun r σ1 F th H locs hr hO => ?_)
            obtain ⟨rfl, rfl⟩ := hr
            refine g_istore_n hC hl dX3_isShut_41 rfl (Nat.le_of_ble_eq_true rfl) rfl (fun ls hl => ?_)
            have hl : LL ls 5 [some _, some _, some _, some _, some _] := hl
            refine g_iinc (v := nI (d + 1)) hC hl dX3_isShut_42 rfl (nI_i1 d) (Nat.le_of_ble_eq_true rfl) rfl (fun ls hl => ?_)
            have hl : LL ls 5 [some _, some _, some _, some _, some _] := hl
            refine lv_goto (tgt := 4) hC.1 hC.2.1 dX3_isShut_45 (by decide) ?_
            have hl := LL.drop hl 4
            rw [if_neg (by rw [hcl9]; decide)] at h3
            exact ih f (d + 1) _ (by omega) (by omega) h3 _ _ _ _ hO ls hl
          · have hk := recOf_lt hq16
            refine g_astore hC hl dX3_isShut_19 (Nat.le_of_ble_eq_true rfl) rfl (fun ls hl => ?_)
            have hl : LL ls 5 [some _, some _, some _, some _, some _] := hl
            refine g_aload hC hl dX3_isShut_21 rfl ?_
            refine lv_ifnull hC.1 hC.2.1 dX3_isShut_23 ?_
            refine g_aload hC hl dX3_isShut_26 rfl ?_
            refine g_get (ci := 1) (k := 1) hC hO rfl inX1 (by decide) q_fl_RX3_93 (nn_rb hk) (sh_rec _ _ _ _ _) rfl dX3_isShut_28 ?_
            refine lv_if_eq (tgt := 36) hC.1 hC.2.1 dX3_isShut_31 (by decide) (fun c_3 => ?_) (fun c_3 => ?_)
            · skip
              have hcl9 : closedB σ a = false := by unfold closedB; rw [hq16]; simp [c_3]
              refine g_aload_n hC hl dX3_isShut_36 rfl rfl ?_
              refine g_iload_n hC hl dX3_isShut_37 rfl rfl ?_
              refine g_cVi1 hC hO hl (ci := 3) rfl (nn_lt (Nat.le_of_ble_eq_true rfl)) rfl (c_X3_holderOf l κ _ _) mi_X3_holderOf q_ml_RX3_47 rfl rfl ⟨Nat.le_of_ble_eq_true rfl, Nat.le_of_ble_eq_true rfl⟩ (Nat.le_of_ble_eq_true rfl) ⟨Nat.zero_le _, Nat.zero_le _⟩ dX3_isShut_38 (fun r σ1 F th H locs hr hO => ?_)
              obtain ⟨rfl, rfl⟩ := hr
              refine g_istore_n hC hl dX3_isShut_41 rfl (Nat.le_of_ble_eq_true rfl) rfl (fun ls hl => ?_)
              have hl : LL ls 5 [some _, some _, some _, some _, some _] := hl
              refine g_iinc (v := nI (d + 1)) hC hl dX3_isShut_42 rfl (nI_i1 d) (Nat.le_of_ble_eq_true rfl) rfl (fun ls hl => ?_)
              have hl : LL ls 5 [some _, some _, some _, some _, some _] := hl
              refine lv_goto (tgt := 4) hC.1 hC.2.1 dX3_isShut_45 (by decide) ?_
              have hl := LL.drop hl 4
              rw [if_neg (by rw [hcl9]; decide)] at h3
              exact ih f (d + 1) _ (by omega) (by omega) h3 _ _ _ _ hO ls hl
            · skip
              have h9 : shutF σ 61 p0 = true := by
                rw [h3, if_pos]
                unfold closedB
                rw [hq16]
                simp [c_3]
              refine lv_iconst (v := 1) hC.1 hC.2.1 dX3_isShut_34 (by decide) ?_
              exact g_zret hC hO dX3_isShut_35 (by decide) (⟨rfl, bI_t h9⟩)
  refine g_iload_n hC hl dX3_isShut_0 rfl rfl ?_
  refine g_istore_n hC hl dX3_isShut_1 rfl (Nat.le_of_ble_eq_true rfl) rfl (fun ls hl => ?_)
  have hl : LL ls 5 [some _, some _, some _, none, none] := hl
  refine lv_iconst (v := 0) hC.1 hC.2.1 dX3_isShut_2 (by decide) ?_
  refine g_istore_n hC hl dX3_isShut_3 rfl (Nat.le_of_ble_eq_true rfl) rfl (fun ls hl => ?_)
  have hl : LL ls 5 [some _, some _, some _, some _, none] := hl
  exact loop4 62 61 0 p0 (by omega) (by omega) rfl _ _ _ _ hO ls hl

set_option maxHeartbeats 4000000 in
set_option maxRecDepth 100000 in
/-- isWithin -/
theorem c_X3_isWithin (l : Launch) (κ : KK) (σ : ST) (p0 p1 : Int32) : Met l yX3_isWithin (wA yX3_isWithin cX3_isWithin 5 (some .boolean)) ({ frames := 1, cells := 0, slots := 0, locals := 21 }) (va_Pc [.ref (kad κ 0), .int p0, .int p1] (WX κ σ)) (va_Qi (fun r σ' => σ = σ' ∧ r = bI (withinB σ p0 p1)) (WX κ) (FA κ)) 0 0 (FA κ) := by
  refine g_met 2 (by decide) rfl (Nat.le_of_ble_eq_true rfl) ?_
  intro p e s m args below meth c hC F th hO ls hl
  have hl : LL ls 5 [some _, some _, some _, none, none] := hl
  have loop5 : ∀ (n f d : Nat) (a : Int32), f + 1 ≤ n → d + f = 61 → withF σ p1 61 p0 = withF σ p1 f a → ∀ (F : Nat → Nat → Int32) (th : Int32) (H : Heap) (locs : List Loc), OS κ s.heap σ F th H locs → ∀ ls : Array Slot, LL ls 5 [some (.ref (kad κ 0)), some (.int p0), some (.int p1), some (.int a), some (.int (nI d))] → W p l e ({ frames := 1, cells := 0, slots := 0, locals := 21 } : Room) s m args below meth c H locs 0 0 (MQ below (va_Qi (fun r σ' => σ = σ' ∧ r = bI (withinB σ p0 p1)) (WX κ) (FA κ)) args s 0 0 (FA κ)) (F0 m 5 ls []) := by
    intro n
    induction n with
    | zero => intro f d a h1; exact absurd h1 (by omega)
    | succ n ih =>
      intro f d a h1 h2 h3 F th H locs hO ls hl
      refine g_iload hC hl dX3_isWithin_5 rfl ?_
      refine lv_bipush (v := 60) hC.1 hC.2.1 dX3_isWithin_7 (by decide) ?_
      refine lv_icmp_gt (tgt := 35) hC.1 hC.2.1 dX3_isWithin_9 (by decide) (fun c_1 => ?_) (fun c_1 => ?_)
      · skip
        rw [show (60 : Int32) = nI 60 from rfl, nI_ltI (by omega) (by omega)] at c_1
        have h9 : withF σ p1 61 p0 = false := by rw [h3, show f = 0 by omega]; rfl
        refine lv_iconst (v := 0) hC.1 hC.2.1 dX3_isWithin_35 (by decide) ?_
        exact g_zret hC hO dX3_isWithin_36 (by decide) (⟨rfl, bI_f h9⟩)
      · skip
        rw [show (60 : Int32) = nI 60 from rfl, nI_ltI (by omega) (by omega)] at c_1
        obtain ⟨f, rfl⟩ : ∃ f2, f = f2 + 1 := ⟨f - 1, by omega⟩
        rw [show withF σ p1 (f + 1) a = (if a = 0 then false else if a = p1 then true else withF σ p1 f (holdF σ a)) from rfl] at h3
        refine g_iload_n hC hl dX3_isWithin_12 rfl rfl ?_
        refine lv_if_eq (tgt := 35) hC.1 hC.2.1 dX3_isWithin_13 (by decide) (fun c_2 => ?_) (fun c_2 => ?_)
        · skip
          have h9 : withF σ p1 61 p0 = false := by rw [h3, if_pos c_2]
          refine lv_iconst (v := 0) hC.1 hC.2.1 dX3_isWithin_35 (by decide) ?_
          exact g_zret hC hO dX3_isWithin_36 (by decide) (⟨rfl, bI_f h9⟩)
        · skip
          rw [if_neg c_2] at h3
          refine g_iload_n hC hl dX3_isWithin_16 rfl rfl ?_
          refine g_iload_n hC hl dX3_isWithin_17 rfl rfl ?_
          refine lv_icmp_ne (tgt := 23) hC.1 hC.2.1 dX3_isWithin_18 (by decide) (fun c_3 => ?_) (fun c_3 => ?_)
          · skip
            rw [if_neg c_3] at h3
            refine g_aload_n hC hl dX3_isWithin_23 rfl rfl ?_
            refine g_iload_n hC hl dX3_isWithin_24 rfl rfl ?_
            refine g_cVi1 hC hO hl (ci := 3) rfl (nn_lt (Nat.le_of_ble_eq_true rfl)) rfl (c_X3_holderOf l κ _ _) mi_X3_holderOf q_ml_RX3_47 rfl rfl ⟨Nat.le_of_ble_eq_true rfl, Nat.le_of_ble_eq_true rfl⟩ (Nat.le_of_ble_eq_true rfl) ⟨Nat.zero_le _, Nat.zero_le _⟩ dX3_isWithin_25 (fun r σ1 F th H locs hr hO => ?_)
            obtain ⟨rfl, rfl⟩ := hr
            refine g_istore_n hC hl dX3_isWithin_28 rfl (Nat.le_of_ble_eq_true rfl) rfl (fun ls hl => ?_)
            have hl : LL ls 5 [some _, some _, some _, some _, some _] := hl
            refine g_iinc (v := nI (d + 1)) hC hl dX3_isWithin_29 rfl (nI_i1 d) (Nat.le_of_ble_eq_true rfl) rfl (fun ls hl => ?_)
            have hl : LL ls 5 [some _, some _, some _, some _, some _] := hl
            refine lv_goto (tgt := 5) hC.1 hC.2.1 dX3_isWithin_32 (by decide) ?_
            exact ih f (d + 1) _ (by omega) (by omega) h3 _ _ _ _ hO ls hl
          · skip
            have h9 : withF σ p1 61 p0 = true := by rw [h3, if_pos c_3]
            refine lv_iconst (v := 1) hC.1 hC.2.1 dX3_isWithin_21 (by decide) ?_
            exact g_zret hC hO dX3_isWithin_22 (by decide) (⟨rfl, bI_t h9⟩)
  refine g_iload_n hC hl dX3_isWithin_0 rfl rfl ?_
  refine g_istore_n hC hl dX3_isWithin_1 rfl (Nat.le_of_ble_eq_true rfl) rfl (fun ls hl => ?_)
  have hl : LL ls 5 [some _, some _, some _, some _, none] := hl
  refine lv_iconst (v := 0) hC.1 hC.2.1 dX3_isWithin_2 (by decide) ?_
  refine g_istore hC hl dX3_isWithin_3 (Nat.le_of_ble_eq_true rfl) rfl (fun ls hl => ?_)
  have hl : LL ls 5 [some _, some _, some _, some _, some _] := hl
  exact loop5 62 61 0 p0 (by omega) (by omega) rfl _ _ _ _ hO ls hl

set_option maxHeartbeats 4000000 in
set_option maxRecDepth 100000 in
/-- isLesser -/
theorem c_X3_isLesser (l : Launch) (κ : KK) (σ : ST) (k2 : Nat) (hk2 : k2 < σ.1) (p0 : Int32) : Met l yX3_isLesser (wA yX3_isLesser cX3_isLesser 5 (some .boolean)) ({ frames := 1, cells := 0, slots := 0, locals := 22 }) (va_Pc [.ref (kad κ 0), .int p0, .ref (kad κ (rb k2))] (WX κ σ)) (va_Qi (fun r σ' => σ = σ' ∧ r = bI (lesserB σ p0 k2)) (WX κ) (FA κ)) 0 0 (FA κ) := by
  refine g_met 2 (by decide) rfl (Nat.le_of_ble_eq_true rfl) ?_
  intro p e s m args below meth c hC F th hO ls hl
  have hl : LL ls 5 [some _, some _, some _, none, none] := hl
  refine g_aload_n hC hl dX3_isLesser_0 rfl rfl ?_
  refine g_iload_n hC hl dX3_isLesser_1 rfl rfl ?_
  refine g_cVq1 hC hO hl (ci := 3) rfl (nn_lt (Nat.le_of_ble_eq_true rfl)) rfl (c_X3_receptacleOf l κ _ _) mi_X3_receptacleOf q_ml_RX3_36 rfl rfl ⟨Nat.le_of_ble_eq_true rfl, Nat.le_of_ble_eq_true rfl⟩ (Nat.le_of_ble_eq_true rfl) ⟨Nat.zero_le _, Nat.zero_le _⟩ dX3_isLesser_2 (fun r σ1 F th H locs hr hO => ?_)
  obtain ⟨rfl, hr⟩ := hr
  rcases hr with ⟨rfl, hq2⟩ | ⟨k, hq2, rfl⟩
  · skip
    refine g_astore_nN hC hl dX3_isLesser_5 rfl (Nat.le_of_ble_eq_true rfl) rfl (fun ls hl => ?_)
    have hl : LL ls 5 [some _, some _, some _, some _, none] := hl
    refine g_aload_nN hC hl dX3_isLesser_6 rfl rfl ?_
    refine lv_ifnonnullN hC.1 hC.2.1 dX3_isLesser_7 ?_
    refine lv_iconst (v := (-1)) hC.1 hC.2.1 dX3_isLesser_10 (by decide) ?_
    refine lv_goto (tgt := 18) hC.1 hC.2.1 dX3_isLesser_11 (by decide) ?_
    refine g_istore hC hl dX3_isLesser_18 (Nat.le_of_ble_eq_true rfl) rfl (fun ls hl => ?_)
    have hl : LL ls 5 [some _, some _, some _, some _, some _] := hl
    refine g_iload hC hl dX3_isLesser_20 rfl ?_
    refine g_aload_n hC hl dX3_isLesser_22 rfl rfl ?_
    refine g_get (ci := 1) (k := 0) hC hO rfl inX1 (by decide) q_fl_RX3_176 (nn_rb hk2) (sh_rec _ _ _ _ _) rfl dX3_isLesser_23 ?_
    refine lv_icmp_ge (tgt := 33) hC.1 hC.2.1 dX3_isLesser_26 (by decide) (fun c_1 => ?_) (fun c_1 => ?_)
    · skip
      refine lv_iconst (v := 0) hC.1 hC.2.1 dX3_isLesser_33 (by decide) ?_
      exact g_zret hC hO dX3_isLesser_34 (by decide) (⟨rfl, by first | exact bI_t (by unfold lesserB kindF; rw [hq2]; exact decide_eq_true (Int32.not_le.mp c_1)) | exact bI_f (by unfold lesserB kindF; rw [hq2]; exact decide_eq_false (Int32.not_lt.mpr c_1))⟩)
    · skip
      refine lv_iconst (v := 1) hC.1 hC.2.1 dX3_isLesser_29 (by decide) ?_
      refine lv_goto (tgt := 34) hC.1 hC.2.1 dX3_isLesser_30 (by decide) ?_
      exact g_zret hC hO dX3_isLesser_34 (by decide) (⟨rfl, by first | exact bI_t (by unfold lesserB kindF; rw [hq2]; exact decide_eq_true (Int32.not_le.mp c_1)) | exact bI_f (by unfold lesserB kindF; rw [hq2]; exact decide_eq_false (Int32.not_lt.mpr c_1))⟩)
  · have hk := recOf_lt hq2
    refine g_astore_n hC hl dX3_isLesser_5 rfl (Nat.le_of_ble_eq_true rfl) rfl (fun ls hl => ?_)
    have hl : LL ls 5 [some _, some _, some _, some _, none] := hl
    refine g_aload_n hC hl dX3_isLesser_6 rfl rfl ?_
    refine lv_ifnonnull (tgt := 14) hC.1 hC.2.1 dX3_isLesser_7 (by decide) ?_
    refine g_aload_n hC hl dX3_isLesser_14 rfl rfl ?_
    refine g_get (ci := 1) (k := 0) hC hO rfl inX1 (by decide) q_fl_RX3_176 (nn_rb hk) (sh_rec _ _ _ _ _) rfl dX3_isLesser_15 ?_
    refine g_istore hC hl dX3_isLesser_18 (Nat.le_of_ble_eq_true rfl) rfl (fun ls hl => ?_)
    have hl : LL ls 5 [some _, some _, some _, some _, some _] := hl
    refine g_iload hC hl dX3_isLesser_20 rfl ?_
    refine g_aload_n hC hl dX3_isLesser_22 rfl rfl ?_
    refine g_get (ci := 1) (k := 0) hC hO rfl inX1 (by decide) q_fl_RX3_176 (nn_rb hk2) (sh_rec _ _ _ _ _) rfl dX3_isLesser_23 ?_
    refine lv_icmp_ge (tgt := 33) hC.1 hC.2.1 dX3_isLesser_26 (by decide) (fun c_2 => ?_) (fun c_2 => ?_)
    · skip
      refine lv_iconst (v := 0) hC.1 hC.2.1 dX3_isLesser_33 (by decide) ?_
      exact g_zret hC hO dX3_isLesser_34 (by decide) (⟨rfl, by first | exact bI_t (by unfold lesserB kindF; rw [hq2]; exact decide_eq_true (Int32.not_le.mp c_2)) | exact bI_f (by unfold lesserB kindF; rw [hq2]; exact decide_eq_false (Int32.not_lt.mpr c_2))⟩)
    · skip
      refine lv_iconst (v := 1) hC.1 hC.2.1 dX3_isLesser_29 (by decide) ?_
      refine lv_goto (tgt := 34) hC.1 hC.2.1 dX3_isLesser_30 (by decide) ?_
      exact g_zret hC hO dX3_isLesser_34 (by decide) (⟨rfl, by first | exact bI_t (by unfold lesserB kindF; rw [hq2]; exact decide_eq_true (Int32.not_le.mp c_2)) | exact bI_f (by unfold lesserB kindF; rw [hq2]; exact decide_eq_false (Int32.not_lt.mpr c_2))⟩)

set_option maxHeartbeats 4000000 in
set_option maxRecDepth 100000 in
/-- putIn -/
theorem c_X3_putIn (l : Launch) (κ : KK) (σ : ST) (k : Nat) (hk : k < σ.1) (p1 p2 : Int32) : Met l yX3_putIn (wA yX3_putIn cX3_putIn 4 none) ({ frames := 1, cells := 0, slots := 0, locals := 22 }) (va_Pc [.ref (kad κ 0), .ref (kad κ (rb k)), .int p1, .int p2] (WX κ σ)) (va_Qv (fun σ' => σ' = putInS σ k p1 p2) (WX κ) (FA κ)) 0 0 (FA κ) := by
  refine g_met 0 (by decide) rfl (Nat.le_of_ble_eq_true rfl) ?_
  intro p e s m args below meth c hC F th hO ls hl
  have hl : LL ls 4 [some _, some _, some _, some _] := hl
  refine g_aload_n hC hl dX3_putIn_0 rfl rfl ?_
  refine g_get (ci := 1) (k := 5) hC hO rfl inX1 (by decide) q_fl_RX3_58 (nn_rb hk) (sh_rec _ _ _ _ _) rfl dX3_putIn_1 ?_
  refine g_iload_n hC hl dX3_putIn_4 rfl rfl ?_
  refine g_cVv1 hC hO hl (ci := 2) rfl (nn_rc hk (by decide)) (sh_row _ _ _ _ _ (by decide)) (c_X2_append l κ _ (k) (0) (by exact hk) (by decide) _) mi_X2_append q_ml_RX3_157 rfl rfl ⟨Nat.le_of_ble_eq_true rfl, Nat.le_of_ble_eq_true rfl⟩ (Nat.le_of_ble_eq_true rfl) ⟨Nat.zero_le _, Nat.zero_le _⟩ dX3_putIn_5 (fun σ1 F th H locs hr hO => ?_)
  subst hr
  refine g_aload_n hC hl dX3_putIn_8 rfl rfl ?_
  refine g_iload_n hC hl dX3_putIn_9 rfl rfl ?_
  refine g_iload_n hC hl dX3_putIn_10 rfl rfl ?_
  refine g_cVv2 hC hO hl (ci := 3) rfl (nn_lt (Nat.le_of_ble_eq_true rfl)) rfl (c_X3_setHolder l κ _ _ _) mi_X3_setHolder q_ml_RX3_179 rfl rfl ⟨Nat.le_of_ble_eq_true rfl, Nat.le_of_ble_eq_true rfl⟩ (Nat.le_of_ble_eq_true rfl) ⟨Nat.zero_le _, Nat.zero_le _⟩ dX3_putIn_11 (fun σ1 F th H locs hr hO => ?_)
  subst hr
  exact g_vret hC hO dX3_putIn_14 (rfl)

set_option maxHeartbeats 4000000 in
set_option maxRecDepth 100000 in
/-- takeOut -/
theorem c_X3_takeOut (l : Launch) (κ : KK) (σ : ST) (p0 : Int32) : Met l yX3_takeOut (wA yX3_takeOut cX3_takeOut 3 none) ({ frames := 2, cells := 0, slots := 0, locals := 44 }) (va_Pc [.ref (kad κ 0), .int p0] (WX κ σ)) (va_Qv (fun σ' => σ' = takeOutS σ p0) (WX κ) (FA κ)) 0 0 (FA κ) := by
  refine g_met 1 (by decide) rfl (Nat.le_of_ble_eq_true rfl) ?_
  intro p e s m args below meth c hC F th hO ls hl
  have hl : LL ls 3 [some _, some _, none] := hl
  refine g_aload_n hC hl dX3_takeOut_0 rfl rfl ?_
  refine g_aload_n hC hl dX3_takeOut_1 rfl rfl ?_
  refine g_iload_n hC hl dX3_takeOut_2 rfl rfl ?_
  refine g_cVi1 hC hO hl (ci := 3) rfl (nn_lt (Nat.le_of_ble_eq_true rfl)) rfl (c_X3_holderOf l κ _ _) mi_X3_holderOf q_ml_RX3_47 rfl rfl ⟨Nat.le_of_ble_eq_true rfl, Nat.le_of_ble_eq_true rfl⟩ (Nat.le_of_ble_eq_true rfl) ⟨Nat.zero_le _, Nat.zero_le _⟩ dX3_takeOut_3 (fun r σ1 F th H locs hr hO => ?_)
  obtain ⟨rfl, rfl⟩ := hr
  refine g_cVq1 hC hO hl (ci := 3) rfl (nn_lt (Nat.le_of_ble_eq_true rfl)) rfl (c_X3_receptacleOf l κ _ _) mi_X3_receptacleOf q_ml_RX3_36 rfl rfl ⟨Nat.le_of_ble_eq_true rfl, Nat.le_of_ble_eq_true rfl⟩ (Nat.le_of_ble_eq_true rfl) ⟨Nat.zero_le _, Nat.zero_le _⟩ dX3_takeOut_6 (fun r σ1 F th H locs hr hO => ?_)
  obtain ⟨rfl, hr⟩ := hr
  rcases hr with ⟨rfl, hq6⟩ | ⟨k, hq6, rfl⟩
  · skip
    refine g_astore_nN hC hl dX3_takeOut_9 rfl (Nat.le_of_ble_eq_true rfl) rfl (fun ls hl => ?_)
    have hl : LL ls 3 [some _, some _, some _] := hl
    refine g_aload_nN hC hl dX3_takeOut_10 rfl rfl ?_
    refine lv_ifnullN (tgt := 38) hC.1 hC.2.1 dX3_takeOut_11 (by decide) ?_
    exact g_vret hC hO dX3_takeOut_38 (by unfold takeOutS; rw [hq6]; try rfl)
  · have hk := recOf_lt hq6
    refine g_astore_n hC hl dX3_takeOut_9 rfl (Nat.le_of_ble_eq_true rfl) rfl (fun ls hl => ?_)
    have hl : LL ls 3 [some _, some _, some _] := hl
    refine g_aload_n hC hl dX3_takeOut_10 rfl rfl ?_
    refine lv_ifnull hC.1 hC.2.1 dX3_takeOut_11 ?_
    refine g_aload_n hC hl dX3_takeOut_14 rfl rfl ?_
    refine g_iload_n hC hl dX3_takeOut_15 rfl rfl ?_
    refine g_aload_n hC hl dX3_takeOut_16 rfl rfl ?_
    refine g_iload_n hC hl dX3_takeOut_17 rfl rfl ?_
    refine g_cVi1 hC hO hl (ci := 3) rfl (nn_lt (Nat.le_of_ble_eq_true rfl)) rfl (c_X3_placeOf l κ _ _) mi_X3_placeOf q_ml_RX3_55 rfl rfl ⟨Nat.le_of_ble_eq_true rfl, Nat.le_of_ble_eq_true rfl⟩ (Nat.le_of_ble_eq_true rfl) ⟨Nat.zero_le _, Nat.zero_le _⟩ dX3_takeOut_18 (fun r σ1 F th H locs hr hO => ?_)
    obtain ⟨rfl, rfl⟩ := hr
    refine g_cVv2 hC hO hl (ci := 3) rfl (nn_lt (Nat.le_of_ble_eq_true rfl)) rfl (c_X3_setOwnPlace l κ _ _ _) mi_X3_setOwnPlace q_ml_RX3_160 rfl rfl ⟨Nat.le_of_ble_eq_true rfl, Nat.le_of_ble_eq_true rfl⟩ (Nat.le_of_ble_eq_true rfl) ⟨Nat.zero_le _, Nat.zero_le _⟩ dX3_takeOut_21 (fun σ1 F th H locs hr hO => ?_)
    subst hr
    have hk : k < (setOwnF σ p0 (placeF σ p0)).1 := by rw [sN_setOwn]; exact hk
    refine g_aload_n hC hl dX3_takeOut_24 rfl rfl ?_
    refine g_get (ci := 1) (k := 5) hC hO rfl inX1 (by decide) q_fl_RX3_58 (nn_rb hk) (sh_rec _ _ _ _ _) rfl dX3_takeOut_25 ?_
    refine g_iload_n hC hl dX3_takeOut_28 rfl rfl ?_
    refine g_cVv1 hC hO hl (ci := 2) rfl (nn_rc hk (by decide)) (sh_row _ _ _ _ _ (by decide)) (c_X2_remove l κ _ (k) (0) (by exact hk) (by decide) _) mi_X2_remove q_ml_RX3_123 rfl rfl ⟨Nat.le_of_ble_eq_true rfl, Nat.le_of_ble_eq_true rfl⟩ (Nat.le_of_ble_eq_true rfl) ⟨Nat.zero_le _, Nat.zero_le _⟩ dX3_takeOut_29 (fun σ1 F th H locs hr hO => ?_)
    subst hr
    refine g_aload_n hC hl dX3_takeOut_32 rfl rfl ?_
    refine g_iload_n hC hl dX3_takeOut_33 rfl rfl ?_
    refine lv_iconst (v := 0) hC.1 hC.2.1 dX3_takeOut_34 (by decide) ?_
    refine g_cVv2 hC hO hl (ci := 3) rfl (nn_lt (Nat.le_of_ble_eq_true rfl)) rfl (c_X3_setHolder l κ _ _ _) mi_X3_setHolder q_ml_RX3_179 rfl rfl ⟨Nat.le_of_ble_eq_true rfl, Nat.le_of_ble_eq_true rfl⟩ (Nat.le_of_ble_eq_true rfl) ⟨Nat.zero_le _, Nat.zero_le _⟩ dX3_takeOut_35 (fun σ1 F th H locs hr hO => ?_)
    subst hr
    exact g_vret hC hO dX3_takeOut_38 (by unfold takeOutS; rw [hq6]; try rfl)

set_option maxHeartbeats 4000000 in
set_option maxRecDepth 100000 in
/-- foundExtra -/
theorem c_X3_foundExtra (l : Launch) (κ : KK) (σ : ST) (n : Nat) (hn : sI σ 4 1 = nI n) (hn2 : n < 512) (k : Nat) (hk : k < σ.1) (p1 p2 : Int32) : Met l yX3_foundExtra (wA yX3_foundExtra cX3_foundExtra 5 (some .int)) ({ frames := 3, cells := 0, slots := 0, locals := 66 }) (va_Pc [.ref (kad κ 0), .ref (kad κ (rb k)), .int p1, .int p2] (WX κ σ)) (va_Qi (fun r σ' => (r, σ') = foundExtraF σ k p1 p2) (WX κ) (FA κ)) 0 0 (FA κ) := by
  refine g_met 1 (by decide) rfl (Nat.le_of_ble_eq_true rfl) ?_
  intro p e s m args below meth c hC F th hO ls hl
  have hl : LL ls 5 [some _, some _, some _, some _, none] := hl
  refine g_aload_n hC hl dX3_foundExtra_0 rfl rfl ?_
  refine g_iload_n hC hl dX3_foundExtra_1 rfl rfl ?_
  refine g_cVi1 hC hO hl (ci := 3) rfl (nn_lt (Nat.le_of_ble_eq_true rfl)) rfl (c_X3_holderOf l κ _ _) mi_X3_holderOf q_ml_RX3_47 rfl rfl ⟨Nat.le_of_ble_eq_true rfl, Nat.le_of_ble_eq_true rfl⟩ (Nat.le_of_ble_eq_true rfl) ⟨Nat.zero_le _, Nat.zero_le _⟩ dX3_foundExtra_2 (fun r σ1 F th H locs hr hO => ?_)
  obtain ⟨rfl, rfl⟩ := hr
  refine g_iload_n hC hl dX3_foundExtra_5 rfl rfl ?_
  refine lv_icmp_eq (tgt := 13) hC.1 hC.2.1 dX3_foundExtra_6 (by decide) (fun c_1 => ?_) (fun c_1 => ?_)
  · skip
    have h6 : holdF σ p2 = p1 := c_1
    refine lv_iconst (v := 0) hC.1 hC.2.1 dX3_foundExtra_13 (by decide) ?_
    refine g_istore hC hl dX3_foundExtra_14 (Nat.le_of_ble_eq_true rfl) rfl (fun ls hl => ?_)
    have hl : LL ls 5 [some _, some _, some _, some _, some _] := hl
    refine g_aload_n hC hl dX3_foundExtra_16 rfl rfl ?_
    refine g_get (ci := 1) (k := 10) hC hO rfl inX1 (by decide) q_fl_RX3_126 (nn_rb hk) (sh_rec _ _ _ _ _) rfl dX3_foundExtra_17 ?_
    refine g_cVi0 hC hO hl (ci := 2) rfl (nn_rc hk (by decide)) (sh_row _ _ _ _ _ (by decide)) (c_X2_isFull l κ _ (k) (5) (by exact hk) (by decide)) mi_X2_isFull q_ml_RX3_62 rfl rfl ⟨Nat.le_of_ble_eq_true rfl, Nat.le_of_ble_eq_true rfl⟩ (Nat.le_of_ble_eq_true rfl) ⟨Nat.zero_le _, Nat.zero_le _⟩ dX3_foundExtra_20 (fun r σ1 F th H locs hr hO => ?_)
    obtain ⟨rfl, rfl⟩ := hr
    refine lv_if_ne (tgt := 41) hC.1 hC.2.1 dX3_foundExtra_23 (by decide) (fun c_2 => ?_) (fun c_2 => ?_)
    · skip
      have c_2 := bI_nz c_2
      refine lv_bipush (v := (-14)) hC.1 hC.2.1 dX3_foundExtra_41 (by decide) ?_
      exact g_iret hC hO dX3_foundExtra_43 (by
          unfold foundExtraF fullB
          simp only [h6, c_1, c_2, if_true, if_false, decide_true, decide_false, reduceIte, Bool.false_eq_true]
          try rfl)
    · skip
      have c_2 := bI_z c_2
      refine g_iload hC hl dX3_foundExtra_26 rfl ?_
      refine lv_if_eq (tgt := 44) hC.1 hC.2.1 dX3_foundExtra_28 (by decide) (fun c_3 => ?_) (fun c_3 => ?_)
      · skip
        refine g_iload hC hl dX3_foundExtra_44 rfl ?_
        refine lv_if_eq (tgt := 61) hC.1 hC.2.1 dX3_foundExtra_46 (by decide) (fun c_4 => ?_) (fun c_4 => ?_)
        · skip
          refine g_aload_n hC hl dX3_foundExtra_61 rfl rfl ?_
          refine g_get (ci := 1) (k := 10) hC hO rfl inX1 (by decide) q_fl_RX3_126 (nn_rb hk) (sh_rec _ _ _ _ _) rfl dX3_foundExtra_62 ?_
          refine g_iload_n hC hl dX3_foundExtra_65 rfl rfl ?_
          refine g_cVv1 hC hO hl (ci := 2) rfl (nn_rc hk (by decide)) (sh_row _ _ _ _ _ (by decide)) (c_X2_append l κ _ (k) (5) (by exact hk) (by decide) _) mi_X2_append q_ml_RX3_157 rfl rfl ⟨Nat.le_of_ble_eq_true rfl, Nat.le_of_ble_eq_true rfl⟩ (Nat.le_of_ble_eq_true rfl) ⟨Nat.zero_le _, Nat.zero_le _⟩ dX3_foundExtra_66 (fun σ1 F th H locs hr hO => ?_)
          subst hr
          refine g_aload_n hC hl dX3_foundExtra_69 rfl rfl ?_
          refine g_get (ci := 3) (k := 4) hC hO rfl inX3 (by decide) q_fl_RX3_25 (nn_lt (Nat.le_of_ble_eq_true rfl)) rfl rfl dX3_foundExtra_70 ?_
          refine g_aload_n hC hl dX3_foundExtra_73 rfl rfl ?_
          refine g_get (ci := 3) (k := 5) hC hO rfl inX3 (by decide) q_fl_RX3_104 (nn_lt (Nat.le_of_ble_eq_true rfl)) rfl rfl dX3_foundExtra_74 ?_
          refine lv_ldc2 hC.1 hC.2.1 hC.2.2.2.1 (hC.2.2.2.2.1 _ q_kl_RX3_108) dX3_foundExtra_77 ?_
          refine lv_ladd hC.1 hC.2.1 dX3_foundExtra_80 ?_
          refine g_cVv1 hC hO hl (ci := 0) rfl (nn_lt (Nat.le_of_ble_eq_true rfl)) rfl (c_X0_add l κ _ n (by exact hn) hn2 _) mi_X0_add q_ml_RX3_110 rfl rfl ⟨Nat.le_of_ble_eq_true rfl, Nat.le_of_ble_eq_true rfl⟩ (Nat.le_of_ble_eq_true rfl) ⟨Nat.zero_le _, Nat.zero_le _⟩ dX3_foundExtra_81 (fun σ1 F th H locs hr hO => ?_)
          rw [noteS_eq (by exact hn) hn2] at hr
          subst hr
          refine lv_iconst (v := 0) hC.1 hC.2.1 dX3_foundExtra_84 (by decide) ?_
          exact g_iret hC hO dX3_foundExtra_85 (by
              unfold foundExtraF fullB
              simp only [h6, c_1, c_2, c_3, c_4, if_true, if_false, decide_true, decide_false, reduceIte, Bool.false_eq_true]
              try rfl)
        · skip
          exact absurd c_4 (by decide)
      · skip
        exact absurd c_3 (by decide)
  · skip
    have h6 : ¬ holdF σ p2 = p1 := c_1
    refine lv_iconst (v := 1) hC.1 hC.2.1 dX3_foundExtra_9 (by decide) ?_
    refine lv_goto (tgt := 14) hC.1 hC.2.1 dX3_foundExtra_10 (by decide) ?_
    refine g_istore hC hl dX3_foundExtra_14 (Nat.le_of_ble_eq_true rfl) rfl (fun ls hl => ?_)
    have hl : LL ls 5 [some _, some _, some _, some _, some _] := hl
    refine g_aload_n hC hl dX3_foundExtra_16 rfl rfl ?_
    refine g_get (ci := 1) (k := 10) hC hO rfl inX1 (by decide) q_fl_RX3_126 (nn_rb hk) (sh_rec _ _ _ _ _) rfl dX3_foundExtra_17 ?_
    refine g_cVi0 hC hO hl (ci := 2) rfl (nn_rc hk (by decide)) (sh_row _ _ _ _ _ (by decide)) (c_X2_isFull l κ _ (k) (5) (by exact hk) (by decide)) mi_X2_isFull q_ml_RX3_62 rfl rfl ⟨Nat.le_of_ble_eq_true rfl, Nat.le_of_ble_eq_true rfl⟩ (Nat.le_of_ble_eq_true rfl) ⟨Nat.zero_le _, Nat.zero_le _⟩ dX3_foundExtra_20 (fun r σ1 F th H locs hr hO => ?_)
    obtain ⟨rfl, rfl⟩ := hr
    refine lv_if_ne (tgt := 41) hC.1 hC.2.1 dX3_foundExtra_23 (by decide) (fun c_5 => ?_) (fun c_5 => ?_)
    · skip
      have c_5 := bI_nz c_5
      refine lv_bipush (v := (-14)) hC.1 hC.2.1 dX3_foundExtra_41 (by decide) ?_
      exact g_iret hC hO dX3_foundExtra_43 (by
          unfold foundExtraF fullB
          simp only [h6, c_1, c_5, if_true, if_false, decide_true, decide_false, reduceIte, Bool.false_eq_true]
          try rfl)
    · skip
      have c_5 := bI_z c_5
      refine g_iload hC hl dX3_foundExtra_26 rfl ?_
      refine lv_if_eq (tgt := 44) hC.1 hC.2.1 dX3_foundExtra_28 (by decide) (fun c_6 => ?_) (fun c_6 => ?_)
      · skip
        exact absurd c_6 (by decide)
      · skip
        refine g_aload_n hC hl dX3_foundExtra_31 rfl rfl ?_
        refine g_get (ci := 1) (k := 5) hC hO rfl inX1 (by decide) q_fl_RX3_58 (nn_rb hk) (sh_rec _ _ _ _ _) rfl dX3_foundExtra_32 ?_
        refine g_cVi0 hC hO hl (ci := 2) rfl (nn_rc hk (by decide)) (sh_row _ _ _ _ _ (by decide)) (c_X2_isFull l κ _ (k) (0) (by exact hk) (by decide)) mi_X2_isFull q_ml_RX3_62 rfl rfl ⟨Nat.le_of_ble_eq_true rfl, Nat.le_of_ble_eq_true rfl⟩ (Nat.le_of_ble_eq_true rfl) ⟨Nat.zero_le _, Nat.zero_le _⟩ dX3_foundExtra_35 (fun r σ1 F th H locs hr hO => ?_)
        obtain ⟨rfl, rfl⟩ := hr
        refine lv_if_eq (tgt := 44) hC.1 hC.2.1 dX3_foundExtra_38 (by decide) (fun c_7 => ?_) (fun c_7 => ?_)
        · skip
          have c_7 := bI_z c_7
          refine g_iload hC hl dX3_foundExtra_44 rfl ?_
          refine lv_if_eq (tgt := 61) hC.1 hC.2.1 dX3_foundExtra_46 (by decide) (fun c_8 => ?_) (fun c_8 => ?_)
          · skip
            exact absurd c_8 (by decide)
          · skip
            refine g_aload_n hC hl dX3_foundExtra_49 rfl rfl ?_
            refine g_iload_n hC hl dX3_foundExtra_50 rfl rfl ?_
            refine g_cVv1 hC hO hl (ci := 3) rfl (nn_lt (Nat.le_of_ble_eq_true rfl)) rfl (c_X3_takeOut l κ _ _) mi_X3_takeOut q_ml_RX3_72 rfl rfl ⟨Nat.le_of_ble_eq_true rfl, Nat.le_of_ble_eq_true rfl⟩ (Nat.le_of_ble_eq_true rfl) ⟨Nat.zero_le _, Nat.zero_le _⟩ dX3_foundExtra_51 (fun σ1 F th H locs hr hO => ?_)
            subst hr
            have hk : k < (takeOutS σ p2).1 := by rw [sN_takeOut]; exact hk
            refine g_aload_n hC hl dX3_foundExtra_54 rfl rfl ?_
            refine g_aload_n hC hl dX3_foundExtra_55 rfl rfl ?_
            refine g_iload_n hC hl dX3_foundExtra_56 rfl rfl ?_
            refine g_iload_n hC hl dX3_foundExtra_57 rfl rfl ?_
            refine g_cVv3 hC hO hl (ci := 3) rfl (nn_lt (Nat.le_of_ble_eq_true rfl)) rfl (c_X3_putIn l κ _ k (by exact hk) _ _) mi_X3_putIn q_ml_RX3_68 rfl rfl ⟨Nat.le_of_ble_eq_true rfl, Nat.le_of_ble_eq_true rfl⟩ (Nat.le_of_ble_eq_true rfl) ⟨Nat.zero_le _, Nat.zero_le _⟩ dX3_foundExtra_58 (fun σ1 F th H locs hr hO => ?_)
            subst hr
            have hk : k < (putInS (takeOutS σ p2) k p1 p2).1 := by rw [sN_putIn]; exact hk
            have hn : sI (putInS (takeOutS σ p2) k p1 p2) 4 1 = nI n := by rw [sI4_putIn, sI4_takeOut]; exact hn
            refine g_aload_n hC hl dX3_foundExtra_61 rfl rfl ?_
            refine g_get (ci := 1) (k := 10) hC hO rfl inX1 (by decide) q_fl_RX3_126 (nn_rb hk) (sh_rec _ _ _ _ _) rfl dX3_foundExtra_62 ?_
            refine g_iload_n hC hl dX3_foundExtra_65 rfl rfl ?_
            refine g_cVv1 hC hO hl (ci := 2) rfl (nn_rc hk (by decide)) (sh_row _ _ _ _ _ (by decide)) (c_X2_append l κ _ (k) (5) (by exact hk) (by decide) _) mi_X2_append q_ml_RX3_157 rfl rfl ⟨Nat.le_of_ble_eq_true rfl, Nat.le_of_ble_eq_true rfl⟩ (Nat.le_of_ble_eq_true rfl) ⟨Nat.zero_le _, Nat.zero_le _⟩ dX3_foundExtra_66 (fun σ1 F th H locs hr hO => ?_)
            subst hr
            refine g_aload_n hC hl dX3_foundExtra_69 rfl rfl ?_
            refine g_get (ci := 3) (k := 4) hC hO rfl inX3 (by decide) q_fl_RX3_25 (nn_lt (Nat.le_of_ble_eq_true rfl)) rfl rfl dX3_foundExtra_70 ?_
            refine g_aload_n hC hl dX3_foundExtra_73 rfl rfl ?_
            refine g_get (ci := 3) (k := 5) hC hO rfl inX3 (by decide) q_fl_RX3_104 (nn_lt (Nat.le_of_ble_eq_true rfl)) rfl rfl dX3_foundExtra_74 ?_
            refine lv_ldc2 hC.1 hC.2.1 hC.2.2.2.1 (hC.2.2.2.2.1 _ q_kl_RX3_108) dX3_foundExtra_77 ?_
            refine lv_ladd hC.1 hC.2.1 dX3_foundExtra_80 ?_
            refine g_cVv1 hC hO hl (ci := 0) rfl (nn_lt (Nat.le_of_ble_eq_true rfl)) rfl (c_X0_add l κ _ n (by exact hn) hn2 _) mi_X0_add q_ml_RX3_110 rfl rfl ⟨Nat.le_of_ble_eq_true rfl, Nat.le_of_ble_eq_true rfl⟩ (Nat.le_of_ble_eq_true rfl) ⟨Nat.zero_le _, Nat.zero_le _⟩ dX3_foundExtra_81 (fun σ1 F th H locs hr hO => ?_)
            rw [noteS_eq (by exact hn) hn2] at hr
            subst hr
            refine lv_iconst (v := 0) hC.1 hC.2.1 dX3_foundExtra_84 (by decide) ?_
            exact g_iret hC hO dX3_foundExtra_85 (by
                unfold foundExtraF fullB
                simp only [h6, c_1, c_5, c_6, c_7, c_8, if_true, if_false, decide_true, decide_false, reduceIte, Bool.false_eq_true]
                try rfl)
        · skip
          have c_7 := bI_nz c_7
          refine lv_bipush (v := (-14)) hC.1 hC.2.1 dX3_foundExtra_41 (by decide) ?_
          exact g_iret hC hO dX3_foundExtra_43 (by
              unfold foundExtraF fullB
              simp only [h6, c_1, c_5, c_6, c_7, if_true, if_false, decide_true, decide_false, reduceIte, Bool.false_eq_true]
              try rfl)

set_option maxHeartbeats 4000000 in
set_option maxRecDepth 100000 in
/-- weightOfItems -/
theorem c_X3_weightOfItems (l : Launch) (κ : KK) (σ : ST) (k j : Nat) (hk : k < σ.1) (hj : j < 6) : Met l yX3_weightOfItems (wA yX3_weightOfItems cX3_weightOfItems 5 (some .long)) ({ frames := 1, cells := 0, slots := 0, locals := 21 }) (va_Pc [.ref (kad κ (rc k j))] (WX κ σ)) (va_Ql (fun r σ' => σ = σ' ∧ r = itemsW (sR σ (rc k j)) (sR σ (rc k j)).length) (WX κ) (FA κ)) 0 0 (FA κ) := by
  refine g_met 4 (by decide) rfl (Nat.le_of_ble_eq_true rfl) ?_
  intro p e s m args below meth c hC F th hO ls hl
  have hl : LL ls 5 [some _, none, none, none, none] := hl
  have hlen := hO.1.len hk hj
  have hcap := capj_le j
  have loop4 : ∀ (n i : Nat), (sR σ (rc k j)).length + 1 ≤ i + n → i ≤ (sR σ (rc k j)).length → ∀ (F : Nat → Nat → Int32) (th : Int32) (H : Heap) (locs : List Loc), OS κ s.heap σ F th H locs → ∀ ls : Array Slot, LL ls 5 [some (.ref (kad κ (rc k j))), some (.long (itemsW (sR σ (rc k j)) i)), none, some (.int (nI i)), none] → W p l e ({ frames := 1, cells := 0, slots := 0, locals := 21 } : Room) s m args below meth c H locs 0 0 (MQ below (va_Ql (fun r σ' => σ = σ' ∧ r = itemsW (sR σ (rc k j)) (sR σ (rc k j)).length) (WX κ) (FA κ)) args s 0 0 (FA κ)) (F0 m 4 ls []) := by
    intro n
    induction n with
    | zero => intro i h1 h2; exact absurd h1 (by omega)
    | succ n ih =>
      intro i h1 h2 F th H locs hO ls hl
      refine g_iload_n hC hl dX3_weightOfItems_4 rfl rfl ?_
      refine g_aload_n hC hl dX3_weightOfItems_5 rfl rfl ?_
      refine g_cVi0 hC hO hl (ci := 2) rfl (nn_rc hk hj) (sh_row _ _ _ _ _ hj) (c_X2_size l κ _ (k) (j) (by exact hk) hj) mi_X2_size q_ml_RX3_89 rfl rfl ⟨Nat.le_of_ble_eq_true rfl, Nat.le_of_ble_eq_true rfl⟩ (Nat.le_of_ble_eq_true rfl) ⟨Nat.zero_le _, Nat.zero_le _⟩ dX3_weightOfItems_6 (fun r σ1 F th H locs hr hO => ?_)
      obtain ⟨rfl, rfl⟩ := hr
      refine lv_icmp_ge (tgt := 47) hC.1 hC.2.1 dX3_weightOfItems_9 (by decide) (fun c_1 => ?_) (fun c_1 => ?_)
      · skip
        rw [nI_leI (by omega) (by omega)] at c_1
        refine g_lload_n hC hl dX3_weightOfItems_47 rfl rfl ?_
        exact g_lret hC hO dX3_weightOfItems_48 (⟨rfl, by rw [show i = (sR σ (rc k j)).length by omega]⟩)
      · skip
        rw [nI_leI (by omega) (by omega)] at c_1
        refine g_aload_n hC hl dX3_weightOfItems_12 rfl rfl ?_
        refine g_iload_n hC hl dX3_weightOfItems_13 rfl rfl ?_
        refine g_cVi1 hC hO hl (ci := 2) rfl (nn_rc hk hj) (sh_row _ _ _ _ _ hj) (c_X2_at l κ _ (k) (j) (by exact hk) hj _) mi_X2_at q_ml_RX3_137 rfl rfl ⟨Nat.le_of_ble_eq_true rfl, Nat.le_of_ble_eq_true rfl⟩ (Nat.le_of_ble_eq_true rfl) ⟨Nat.zero_le _, Nat.zero_le _⟩ dX3_weightOfItems_14 (fun r σ1 F th H locs hr hO => ?_)
        obtain ⟨rfl, hr⟩ := hr
        rw [rowAt_nI _ (by omega)] at hr
        subst hr
        refine g_istore hC hl dX3_weightOfItems_17 (Nat.le_of_ble_eq_true rfl) rfl (fun ls hl => ?_)
        have hl : LL ls 5 [some _, some _, none, some _, some _] := hl
        refine g_iload hC hl dX3_weightOfItems_19 rfl ?_
        refine g_cSi1 hC hO hl (c_X3_isItem l κ _ _) mi_X3_isItem q_ml_RX3_173 rfl rfl ⟨Nat.le_of_ble_eq_true rfl, Nat.le_of_ble_eq_true rfl⟩ (Nat.le_of_ble_eq_true rfl) ⟨Nat.zero_le _, Nat.zero_le _⟩ dX3_weightOfItems_21 (fun r σ1 F th H locs hr hO => ?_)
        obtain ⟨rfl, rfl⟩ := hr
        refine lv_if_eq (tgt := 41) hC.1 hC.2.1 dX3_weightOfItems_24 (by decide) (fun c_2 => ?_) (fun c_2 => ?_)
        · skip
          have c_2 := bI_z c_2
          have hw : itemsW (sR σ (rc k j)) (i + 1) = itemsW (sR σ (rc k j)) i := by rw [itemsW, if_neg (by rw [c_2]; decide)]
          refine g_iinc (v := nI (i + 1)) hC hl dX3_weightOfItems_41 rfl (nI_i1 i) (Nat.le_of_ble_eq_true rfl) rfl (fun ls hl => ?_)
          have hl : LL ls 5 [some _, some _, none, some _, some _] := hl
          refine lv_goto (tgt := 4) hC.1 hC.2.1 dX3_weightOfItems_44 (by decide) ?_
          have hl := LL.drop hl 4
          exact ih (i + 1) (by omega) (by omega) _ _ _ _ hO ls (by rw [hw]; exact hl)
        · skip
          have c_2 := bI_nz c_2
          have hw : itemsW (sR σ (rc k j)) (i + 1) = itemsW (sR σ (rc k j)) i + (5 + 10 * ((sR σ (rc k j)).getD i 0 - (sR σ (rc k j)).getD i 0 / 50 * 50)).toInt64 := by rw [itemsW, if_pos c_2]
          refine g_lload_n hC hl dX3_weightOfItems_27 rfl rfl ?_
          refine lv_iconst (v := 5) hC.1 hC.2.1 dX3_weightOfItems_28 (by decide) ?_
          refine lv_bipush (v := 10) hC.1 hC.2.1 dX3_weightOfItems_29 (by decide) ?_
          refine g_iload hC hl dX3_weightOfItems_31 rfl ?_
          refine lv_bipush (v := 50) hC.1 hC.2.1 dX3_weightOfItems_33 (by decide) ?_
          refine lv_irem hC.1 hC.2.1 dX3_weightOfItems_35 (by decide) ?_
          refine lv_imul hC.1 hC.2.1 dX3_weightOfItems_36 ?_
          refine lv_iadd hC.1 hC.2.1 dX3_weightOfItems_37 ?_
          refine lv_i2l hC.1 hC.2.1 dX3_weightOfItems_38 rfl ?_
          refine lv_ladd hC.1 hC.2.1 dX3_weightOfItems_39 ?_
          refine g_lstore_n hC hl dX3_weightOfItems_40 rfl (Nat.le_of_ble_eq_true rfl) rfl (fun ls hl => ?_)
          have hl : LL ls 5 [some _, some _, none, some _, some _] := hl
          refine g_iinc (v := nI (i + 1)) hC hl dX3_weightOfItems_41 rfl (nI_i1 i) (Nat.le_of_ble_eq_true rfl) rfl (fun ls hl => ?_)
          have hl : LL ls 5 [some _, some _, none, some _, some _] := hl
          refine lv_goto (tgt := 4) hC.1 hC.2.1 dX3_weightOfItems_44 (by decide) ?_
          have hl := LL.drop hl 4
          exact ih (i + 1) (by omega) (by omega) _ _ _ _ hO ls (by rw [hw]; exact hl)
  refine lv_lconst (v := 0) hC.1 hC.2.1 dX3_weightOfItems_0 (by decide) ?_
  refine g_lstore_n hC hl dX3_weightOfItems_1 rfl (Nat.le_of_ble_eq_true rfl) rfl (fun ls hl => ?_)
  have hl : LL ls 5 [some _, some _, none, none, none] := hl
  refine lv_iconst (v := 0) hC.1 hC.2.1 dX3_weightOfItems_2 (by decide) ?_
  refine g_istore_n hC hl dX3_weightOfItems_3 rfl (Nat.le_of_ble_eq_true rfl) rfl (fun ls hl => ?_)
  have hl : LL ls 5 [some _, some _, none, some _, none] := hl
  exact loop4 ((sR σ (rc k j)).length + 1) 0 (by omega) (by omega) _ _ _ _ hO ls hl

set_option maxHeartbeats 4000000 in
set_option maxRecDepth 100000 in
/-- weightOf -/
theorem c_X3_weightOf (l : Launch) (κ : KK) (σ : ST) (p0 : Int32) : Met l yX3_weightOf (wA yX3_weightOf cX3_weightOf 6 (some .long)) ({ frames := 2, cells := 0, slots := 0, locals := 45 }) (va_Pc [.ref (kad κ 0), .int p0] (WX κ σ)) (va_Ql (fun r σ' => σ = σ' ∧ r = wsum σ p0 σ.1) (WX κ) (FA κ)) 0 0 (FA κ) := by
  refine g_met 4 (by decide) rfl (Nat.le_of_ble_eq_true rfl) ?_
  intro p e s m args below meth c hC F th hO ls hl
  have hl : LL ls 6 [some _, some _, none, none, none, none] := hl
  have h60 := hO.1.1
  have loop5 : ∀ (n i : Nat), σ.1 + 1 ≤ i + n → i ≤ σ.1 → ∀ (F : Nat → Nat → Int32) (th : Int32) (H : Heap) (locs : List Loc), OS κ s.heap σ F th H locs → ∀ ls : Array Slot, LL ls 6 [some (.ref (kad κ 0)), some (.int p0), some (.long (wsum σ p0 i)), none, some (.int (nI i)), none] → W p l e ({ frames := 2, cells := 0, slots := 0, locals := 45 } : Room) s m args below meth c H locs 0 0 (MQ below (va_Ql (fun r σ' => σ = σ' ∧ r = wsum σ p0 σ.1) (WX κ) (FA κ)) args s 0 0 (FA κ)) (F0 m 5 ls []) := by
    intro n
    induction n with
    | zero => intro i h1 h2; exact absurd h1 (by omega)
    | succ n ih =>
      intro i h1 h2 F th H locs hO ls hl
      refine g_iload hC hl dX3_weightOf_5 rfl ?_
      refine g_aload_n hC hl dX3_weightOf_7 rfl rfl ?_
      refine g_get (ci := 3) (k := 1) hC hO rfl inX3 (by decide) q_fl_RX3_29 (nn_lt (Nat.le_of_ble_eq_true rfl)) rfl rfl dX3_weightOf_8 ?_
      refine lv_icmp_ge (tgt := 84) hC.1 hC.2.1 dX3_weightOf_11 (by decide) (fun c_1 => ?_) (fun c_1 => ?_)
      · skip
        rw [nI_leI (by omega) (by omega)] at c_1
        refine g_lload_n hC hl dX3_weightOf_84 rfl rfl ?_
        exact g_lret hC hO dX3_weightOf_85 (⟨rfl, by rw [show i = σ.1 by omega]⟩)
      · skip
        rw [nI_leI (by omega) (by omega)] at c_1
        refine g_iload hC hl dX3_weightOf_14 rfl ?_
        refine g_aload_n hC hl dX3_weightOf_16 rfl rfl ?_
        refine g_get (ci := 3) (k := 0) hC hO rfl inX3 (by decide) q_fl_RX3_11 (nn_lt (Nat.le_of_ble_eq_true rfl)) rfl rfl dX3_weightOf_17 ?_
        refine g_alenR (v := nI 60) hC hO (nn_lt (Nat.le_of_ble_eq_true rfl)) rfl rfl dX3_weightOf_20 ?_
        refine lv_icmp_ge (tgt := 84) hC.1 hC.2.1 dX3_weightOf_21 (by decide) (fun c_2 => ?_) (fun c_2 => ?_)
        · skip
          rw [nI_leI (by omega) (by omega)] at c_2
          exact absurd c_2 (by omega)
        · skip
          refine g_aload_n hC hl dX3_weightOf_24 rfl rfl ?_
          refine g_get (ci := 3) (k := 0) hC hO rfl inX3 (by decide) q_fl_RX3_11 (nn_lt (Nat.le_of_ble_eq_true rfl)) rfl rfl dX3_weightOf_25 ?_
          refine g_iload hC hl dX3_weightOf_28 rfl ?_
          refine g_aldq hC hO (nn_lt (Nat.le_of_ble_eq_true rfl)) rfl (vp_in_nI (by omega) (by omega)) dX3_weightOf_30 ?_
          have hi : i < σ.1 := by omega
          rw [nI_clamp (n := i) (by omega), if_pos hi]
          refine g_astore hC hl dX3_weightOf_31 (Nat.le_of_ble_eq_true rfl) rfl (fun ls hl => ?_)
          have hl : LL ls 6 [some _, some _, some _, none, some _, some _] := hl
          refine g_aload hC hl dX3_weightOf_33 rfl ?_
          refine lv_ifnull hC.1 hC.2.1 dX3_weightOf_35 ?_
          refine g_aload_n hC hl dX3_weightOf_38 rfl rfl ?_
          refine lv_sipush (v := 1001) hC.1 hC.2.1 dX3_weightOf_39 (by decide) ?_
          refine g_iload hC hl dX3_weightOf_42 rfl ?_
          refine lv_iadd hC.1 hC.2.1 dX3_weightOf_44 ?_
          refine g_iload_n hC hl dX3_weightOf_45 rfl rfl ?_
          refine g_cVi2 hC hO hl (ci := 3) rfl (nn_lt (Nat.le_of_ble_eq_true rfl)) rfl (c_X3_isWithin l κ _ _ _) mi_X3_isWithin q_ml_RX3_182 rfl rfl ⟨Nat.le_of_ble_eq_true rfl, Nat.le_of_ble_eq_true rfl⟩ (Nat.le_of_ble_eq_true rfl) ⟨Nat.zero_le _, Nat.zero_le _⟩ dX3_weightOf_46 (fun r σ1 F th H locs hr hO => ?_)
          obtain ⟨rfl, rfl⟩ := hr
          refine lv_if_eq (tgt := 78) hC.1 hC.2.1 dX3_weightOf_49 (by decide) (fun c_3 => ?_) (fun c_3 => ?_)
          · skip
            have c_3 := bI_z c_3
            have hw : wsum σ p0 (i + 1) = wsum σ p0 i := by rw [wsum, if_neg (by rw [c_3]; decide)]
            refine g_iinc (v := nI (i + 1)) hC hl dX3_weightOf_78 rfl (nI_i1 i) (Nat.le_of_ble_eq_true rfl) rfl (fun ls hl => ?_)
            have hl : LL ls 6 [some _, some _, some _, none, some _, some _] := hl
            refine lv_goto (tgt := 5) hC.1 hC.2.1 dX3_weightOf_81 (by decide) ?_
            have hl := LL.drop hl 5
            exact ih (i + 1) (by omega) (by omega) _ _ _ _ hO ls (by rw [hw]; exact hl)
          · skip
            have c_3 := bI_nz c_3
            have hw : wsum σ p0 (i + 1) = wsum σ p0 i + (100 * (sI σ (rb i) 0).toInt64 + 100 + itemsW (sR σ (rc i 0)) (sR σ (rc i 0)).length) := by rw [wsum, if_pos c_3]
            refine g_lload_n hC hl dX3_weightOf_52 rfl rfl ?_
            refine lv_ldc2 hC.1 hC.2.1 hC.2.2.2.1 (hC.2.2.2.2.1 _ q_kl_RX3_108) dX3_weightOf_53 ?_
            refine g_aload hC hl dX3_weightOf_56 rfl ?_
            refine g_get (ci := 1) (k := 0) hC hO rfl inX1 (by decide) q_fl_RX3_176 (nn_rb hi) (sh_rec _ _ _ _ _) rfl dX3_weightOf_58 ?_
            refine lv_i2l hC.1 hC.2.1 dX3_weightOf_61 rfl ?_
            refine lv_lmul hC.1 hC.2.1 dX3_weightOf_62 ?_
            refine lv_ldc2 hC.1 hC.2.1 hC.2.2.2.1 (hC.2.2.2.2.1 _ q_kl_RX3_108) dX3_weightOf_63 ?_
            refine lv_ladd hC.1 hC.2.1 dX3_weightOf_66 ?_
            refine g_aload hC hl dX3_weightOf_67 rfl ?_
            refine g_get (ci := 1) (k := 5) hC hO rfl inX1 (by decide) q_fl_RX3_58 (nn_rb hi) (sh_rec _ _ _ _ _) rfl dX3_weightOf_69 ?_
            refine g_cSl1 hC hO hl (c_X3_weightOfItems l κ _ i 0 (by exact hi) (by decide)) mi_X3_weightOfItems q_ml_RX3_185 rfl rfl ⟨Nat.le_of_ble_eq_true rfl, Nat.le_of_ble_eq_true rfl⟩ (Nat.le_of_ble_eq_true rfl) ⟨Nat.zero_le _, Nat.zero_le _⟩ dX3_weightOf_72 (fun r σ1 F th H locs hr hO => ?_)
            obtain ⟨rfl, rfl⟩ := hr
            refine lv_ladd hC.1 hC.2.1 dX3_weightOf_75 ?_
            refine lv_ladd hC.1 hC.2.1 dX3_weightOf_76 ?_
            refine g_lstore_n hC hl dX3_weightOf_77 rfl (Nat.le_of_ble_eq_true rfl) rfl (fun ls hl => ?_)
            have hl : LL ls 6 [some _, some _, some _, none, some _, some _] := hl
            refine g_iinc (v := nI (i + 1)) hC hl dX3_weightOf_78 rfl (nI_i1 i) (Nat.le_of_ble_eq_true rfl) rfl (fun ls hl => ?_)
            have hl : LL ls 6 [some _, some _, some _, none, some _, some _] := hl
            refine lv_goto (tgt := 5) hC.1 hC.2.1 dX3_weightOf_81 (by decide) ?_
            have hl := LL.drop hl 5
            exact ih (i + 1) (by omega) (by omega) _ _ _ _ hO ls (by rw [hw]; exact hl)
  refine lv_lconst (v := 0) hC.1 hC.2.1 dX3_weightOf_0 (by decide) ?_
  refine g_lstore_n hC hl dX3_weightOf_1 rfl (Nat.le_of_ble_eq_true rfl) rfl (fun ls hl => ?_)
  have hl : LL ls 6 [some _, some _, some _, none, none, none] := hl
  refine lv_iconst (v := 0) hC.1 hC.2.1 dX3_weightOf_2 (by decide) ?_
  refine g_istore hC hl dX3_weightOf_3 (Nat.le_of_ble_eq_true rfl) rfl (fun ls hl => ?_)
  have hl : LL ls 6 [some _, some _, some _, none, some _, none] := hl
  exact loop5 (σ.1 + 1) 0 (by omega) (by omega) _ _ _ _ hO ls hl

set_option maxHeartbeats 4000000 in
set_option maxRecDepth 100000 in
/-- thingsOf -/
theorem c_X3_thingsOf (l : Launch) (κ : KK) (σ : ST) (p0 : Int32) : Met l yX3_thingsOf (wA yX3_thingsOf cX3_thingsOf 5 (some .int)) ({ frames := 2, cells := 0, slots := 0, locals := 45 }) (va_Pc [.ref (kad κ 0), .int p0] (WX κ σ)) (va_Qi (fun r σ' => σ = σ' ∧ r = csum σ p0 σ.1) (WX κ) (FA κ)) 0 0 (FA κ) := by
  refine g_met 3 (by decide) rfl (Nat.le_of_ble_eq_true rfl) ?_
  intro p e s m args below meth c hC F th hO ls hl
  have hl : LL ls 5 [some _, some _, none, none, none] := hl
  have h60 := hO.1.1
  have loop4 : ∀ (n i : Nat), σ.1 + 1 ≤ i + n → i ≤ σ.1 → ∀ (F : Nat → Nat → Int32) (th : Int32) (H : Heap) (locs : List Loc), OS κ s.heap σ F th H locs → ∀ ls : Array Slot, LL ls 5 [some (.ref (kad κ 0)), some (.int p0), some (.int (csum σ p0 i)), some (.int (nI i)), none] → W p l e ({ frames := 2, cells := 0, slots := 0, locals := 45 } : Room) s m args below meth c H locs 0 0 (MQ below (va_Qi (fun r σ' => σ = σ' ∧ r = csum σ p0 σ.1) (WX κ) (FA κ)) args s 0 0 (FA κ)) (F0 m 4 ls []) := by
    intro n
    induction n with
    | zero => intro i h1 h2; exact absurd h1 (by omega)
    | succ n ih =>
      intro i h1 h2 F th H locs hO ls hl
      refine g_iload_n hC hl dX3_thingsOf_4 rfl rfl ?_
      refine g_aload_n hC hl dX3_thingsOf_5 rfl rfl ?_
      refine g_get (ci := 3) (k := 1) hC hO rfl inX3 (by decide) q_fl_RX3_29 (nn_lt (Nat.le_of_ble_eq_true rfl)) rfl rfl dX3_thingsOf_6 ?_
      refine lv_icmp_ge (tgt := 64) hC.1 hC.2.1 dX3_thingsOf_9 (by decide) (fun c_1 => ?_) (fun c_1 => ?_)
      · skip
        rw [nI_leI (by omega) (by omega)] at c_1
        refine g_iload_n hC hl dX3_thingsOf_64 rfl rfl ?_
        exact g_iret hC hO dX3_thingsOf_65 (⟨rfl, by rw [show i = σ.1 by omega]⟩)
      · skip
        rw [nI_leI (by omega) (by omega)] at c_1
        refine g_iload_n hC hl dX3_thingsOf_12 rfl rfl ?_
        refine g_aload_n hC hl dX3_thingsOf_13 rfl rfl ?_
        refine g_get (ci := 3) (k := 0) hC hO rfl inX3 (by decide) q_fl_RX3_11 (nn_lt (Nat.le_of_ble_eq_true rfl)) rfl rfl dX3_thingsOf_14 ?_
        refine g_alenR (v := nI 60) hC hO (nn_lt (Nat.le_of_ble_eq_true rfl)) rfl rfl dX3_thingsOf_17 ?_
        refine lv_icmp_ge (tgt := 64) hC.1 hC.2.1 dX3_thingsOf_18 (by decide) (fun c_2 => ?_) (fun c_2 => ?_)
        · skip
          rw [nI_leI (by omega) (by omega)] at c_2
          exact absurd c_2 (by omega)
        · skip
          refine g_aload_n hC hl dX3_thingsOf_21 rfl rfl ?_
          refine g_get (ci := 3) (k := 0) hC hO rfl inX3 (by decide) q_fl_RX3_11 (nn_lt (Nat.le_of_ble_eq_true rfl)) rfl rfl dX3_thingsOf_22 ?_
          refine g_iload_n hC hl dX3_thingsOf_25 rfl rfl ?_
          refine g_aldq hC hO (nn_lt (Nat.le_of_ble_eq_true rfl)) rfl (vp_in_nI (by omega) (by omega)) dX3_thingsOf_26 ?_
          have hi : i < σ.1 := by omega
          rw [nI_clamp (n := i) (by omega), if_pos hi]
          refine g_astore hC hl dX3_thingsOf_27 (Nat.le_of_ble_eq_true rfl) rfl (fun ls hl => ?_)
          have hl : LL ls 5 [some _, some _, some _, some _, some _] := hl
          refine g_aload hC hl dX3_thingsOf_29 rfl ?_
          refine lv_ifnull hC.1 hC.2.1 dX3_thingsOf_31 ?_
          refine g_aload_n hC hl dX3_thingsOf_34 rfl rfl ?_
          refine lv_sipush (v := 1001) hC.1 hC.2.1 dX3_thingsOf_35 (by decide) ?_
          refine g_iload_n hC hl dX3_thingsOf_38 rfl rfl ?_
          refine lv_iadd hC.1 hC.2.1 dX3_thingsOf_39 ?_
          refine g_iload_n hC hl dX3_thingsOf_40 rfl rfl ?_
          refine g_cVi2 hC hO hl (ci := 3) rfl (nn_lt (Nat.le_of_ble_eq_true rfl)) rfl (c_X3_isWithin l κ _ _ _) mi_X3_isWithin q_ml_RX3_182 rfl rfl ⟨Nat.le_of_ble_eq_true rfl, Nat.le_of_ble_eq_true rfl⟩ (Nat.le_of_ble_eq_true rfl) ⟨Nat.zero_le _, Nat.zero_le _⟩ dX3_thingsOf_41 (fun r σ1 F th H locs hr hO => ?_)
          obtain ⟨rfl, rfl⟩ := hr
          refine lv_if_eq (tgt := 58) hC.1 hC.2.1 dX3_thingsOf_44 (by decide) (fun c_3 => ?_) (fun c_3 => ?_)
          · skip
            have c_3 := bI_z c_3
            have hw : csum σ p0 (i + 1) = csum σ p0 i := by rw [csum, if_neg (by rw [c_3]; decide)]
            refine g_iinc (v := nI (i + 1)) hC hl dX3_thingsOf_58 rfl (nI_i1 i) (Nat.le_of_ble_eq_true rfl) rfl (fun ls hl => ?_)
            have hl : LL ls 5 [some _, some _, some _, some _, some _] := hl
            refine lv_goto (tgt := 4) hC.1 hC.2.1 dX3_thingsOf_61 (by decide) ?_
            have hl := LL.drop hl 4
            exact ih (i + 1) (by omega) (by omega) _ _ _ _ hO ls (by rw [hw]; exact hl)
          · skip
            have c_3 := bI_nz c_3
            have hw : csum σ p0 (i + 1) = csum σ p0 i + nI (sR σ (rc i 0)).length := by rw [csum, if_pos c_3]
            refine g_iload_n hC hl dX3_thingsOf_47 rfl rfl ?_
            refine g_aload hC hl dX3_thingsOf_48 rfl ?_
            refine g_get (ci := 1) (k := 5) hC hO rfl inX1 (by decide) q_fl_RX3_58 (nn_rb hi) (sh_rec _ _ _ _ _) rfl dX3_thingsOf_50 ?_
            refine g_cVi0 hC hO hl (ci := 2) rfl (nn_rc hi (by decide)) (sh_row _ _ _ _ _ (by decide)) (c_X2_size l κ _ (i) (0) (by exact hi) (by decide)) mi_X2_size q_ml_RX3_89 rfl rfl ⟨Nat.le_of_ble_eq_true rfl, Nat.le_of_ble_eq_true rfl⟩ (Nat.le_of_ble_eq_true rfl) ⟨Nat.zero_le _, Nat.zero_le _⟩ dX3_thingsOf_53 (fun r σ1 F th H locs hr hO => ?_)
            obtain ⟨rfl, rfl⟩ := hr
            refine lv_iadd hC.1 hC.2.1 dX3_thingsOf_56 ?_
            refine g_istore_n hC hl dX3_thingsOf_57 rfl (Nat.le_of_ble_eq_true rfl) rfl (fun ls hl => ?_)
            have hl : LL ls 5 [some _, some _, some _, some _, some _] := hl
            refine g_iinc (v := nI (i + 1)) hC hl dX3_thingsOf_58 rfl (nI_i1 i) (Nat.le_of_ble_eq_true rfl) rfl (fun ls hl => ?_)
            have hl : LL ls 5 [some _, some _, some _, some _, some _] := hl
            refine lv_goto (tgt := 4) hC.1 hC.2.1 dX3_thingsOf_61 (by decide) ?_
            have hl := LL.drop hl 4
            exact ih (i + 1) (by omega) (by omega) _ _ _ _ hO ls (by rw [hw]; exact hl)
  refine lv_iconst (v := 1) hC.1 hC.2.1 dX3_thingsOf_0 (by decide) ?_
  refine g_istore_n hC hl dX3_thingsOf_1 rfl (Nat.le_of_ble_eq_true rfl) rfl (fun ls hl => ?_)
  have hl : LL ls 5 [some _, some _, some _, none, none] := hl
  refine lv_iconst (v := 0) hC.1 hC.2.1 dX3_thingsOf_2 (by decide) ?_
  refine g_istore_n hC hl dX3_thingsOf_3 rfl (Nat.le_of_ble_eq_true rfl) rfl (fun ls hl => ?_)
  have hl : LL ls 5 [some _, some _, some _, some _, none] := hl
  exact loop4 (σ.1 + 1) 0 (by omega) (by omega) _ _ _ _ hO ls hl
