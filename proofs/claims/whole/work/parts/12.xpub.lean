set_option maxHeartbeats 4000000 in
set_option maxRecDepth 100000 in
/-- BagRows.into -/
theorem c_X3_into (l : Launch) (κ : KK) (σ : ST) (p0 p1 : Int32) : Met l yX3_into (wA yX3_into cX3_into 4 (some .int)) ({ frames := 2, cells := 0, slots := 0, locals := 46 }) (va_Pc [.ref (kad κ 0), .int p0, .int p1] (WX κ σ)) (va_Qi (fun r σ' => (r, σ') = xInto σ p0 p1) (WX κ) (FA κ)) 0 0 (FA κ) := by
  refine g_met 1 (by decide) rfl (Nat.le_of_ble_eq_true rfl) ?_
  intro p e s m args below meth c hC F th hO ls hl
  have hl : LL ls 4 [some _, some _, some _, none] := hl
  refine g_aload_n hC hl dX3_into_0 rfl rfl ?_
  refine g_iload_n hC hl dX3_into_1 rfl rfl ?_
  refine g_cVq1 hC hO hl (ci := 3) rfl (nn_lt (Nat.le_of_ble_eq_true rfl)) rfl (c_X3_receptacleOf l κ _ _) mi_X3_receptacleOf q_ml_RX3_36 rfl rfl ⟨Nat.le_of_ble_eq_true rfl, Nat.le_of_ble_eq_true rfl⟩ (Nat.le_of_ble_eq_true rfl) ⟨Nat.zero_le _, Nat.zero_le _⟩ dX3_into_2 (fun r σ1 F th H locs hr hO => ?_)
  obtain ⟨rfl, hr⟩ := hr
  rcases hr with ⟨rfl, hq2⟩ | ⟨k, hq2, rfl⟩
  · skip
    refine g_astore_nN hC hl dX3_into_5 rfl (Nat.le_of_ble_eq_true rfl) rfl (fun ls hl => ?_)
    have hl : LL ls 4 [some _, some _, some _, some _] := hl
    refine g_aload_nN hC hl dX3_into_6 rfl rfl ?_
    refine lv_ifnullN (tgt := 18) hC.1 hC.2.1 dX3_into_7 (by decide) ?_
    refine lv_bipush (v := (-11)) hC.1 hC.2.1 dX3_into_18 (by decide) ?_
    exact g_iret hC hO dX3_into_20 (by unfold xInto fullB; simp [hq2])
  · have hk := recOf_lt hq2
    refine g_astore_n hC hl dX3_into_5 rfl (Nat.le_of_ble_eq_true rfl) rfl (fun ls hl => ?_)
    have hl : LL ls 4 [some _, some _, some _, some _] := hl
    refine g_aload_n hC hl dX3_into_6 rfl rfl ?_
    refine lv_ifnull hC.1 hC.2.1 dX3_into_7 ?_
    refine g_aload_n hC hl dX3_into_10 rfl rfl ?_
    refine g_iload_n hC hl dX3_into_11 rfl rfl ?_
    refine g_cVi1 hC hO hl (ci := 3) rfl (nn_lt (Nat.le_of_ble_eq_true rfl)) rfl (c_X3_isThing l κ _ _) mi_X3_isThing q_ml_RX3_40 rfl rfl ⟨Nat.le_of_ble_eq_true rfl, Nat.le_of_ble_eq_true rfl⟩ (Nat.le_of_ble_eq_true rfl) ⟨Nat.zero_le _, Nat.zero_le _⟩ dX3_into_12 (fun r σ1 F th H locs hr hO => ?_)
    obtain ⟨rfl, rfl⟩ := hr
    refine lv_if_ne (tgt := 21) hC.1 hC.2.1 dX3_into_15 (by decide) (fun c_1 => ?_) (fun c_1 => ?_)
    · skip
      have c_1 := bI_nz c_1
      refine g_aload_n hC hl dX3_into_21 rfl rfl ?_
      refine g_iload_n hC hl dX3_into_22 rfl rfl ?_
      refine g_cVi1 hC hO hl (ci := 3) rfl (nn_lt (Nat.le_of_ble_eq_true rfl)) rfl (c_X3_isShut l κ _ _) mi_X3_isShut q_ml_RX3_44 rfl rfl ⟨Nat.le_of_ble_eq_true rfl, Nat.le_of_ble_eq_true rfl⟩ (Nat.le_of_ble_eq_true rfl) ⟨Nat.zero_le _, Nat.zero_le _⟩ dX3_into_23 (fun r σ1 F th H locs hr hO => ?_)
      obtain ⟨rfl, rfl⟩ := hr
      refine lv_if_ne (tgt := 59) hC.1 hC.2.1 dX3_into_26 (by decide) (fun c_2 => ?_) (fun c_2 => ?_)
      · skip
        have c_2 := bI_nz c_2
        refine lv_bipush (v := (-13)) hC.1 hC.2.1 dX3_into_59 (by decide) ?_
        exact g_iret hC hO dX3_into_61 (by unfold xInto fullB; simp [c_1, c_2, hq2])
      · skip
        have c_2 := bI_z c_2
        refine g_aload_n hC hl dX3_into_29 rfl rfl ?_
        refine g_iload_n hC hl dX3_into_30 rfl rfl ?_
        refine g_cVi1 hC hO hl (ci := 3) rfl (nn_lt (Nat.le_of_ble_eq_true rfl)) rfl (c_X3_holderOf l κ _ _) mi_X3_holderOf q_ml_RX3_47 rfl rfl ⟨Nat.le_of_ble_eq_true rfl, Nat.le_of_ble_eq_true rfl⟩ (Nat.le_of_ble_eq_true rfl) ⟨Nat.zero_le _, Nat.zero_le _⟩ dX3_into_31 (fun r σ1 F th H locs hr hO => ?_)
        obtain ⟨rfl, rfl⟩ := hr
        refine lv_if_ne (tgt := 59) hC.1 hC.2.1 dX3_into_34 (by decide) (fun c_3 => ?_) (fun c_3 => ?_)
        · skip
          refine lv_bipush (v := (-13)) hC.1 hC.2.1 dX3_into_59 (by decide) ?_
          exact g_iret hC hO dX3_into_61 (by unfold xInto fullB; simp [c_1, c_2, c_3, hq2])
        · skip
          refine g_aload_n hC hl dX3_into_37 rfl rfl ?_
          refine g_iload_n hC hl dX3_into_38 rfl rfl ?_
          refine g_aload_n hC hl dX3_into_39 rfl rfl ?_
          refine g_cVi2 hC hO hl (ci := 3) rfl (nn_lt (Nat.le_of_ble_eq_true rfl)) rfl (c_X3_isLesser l κ _ k (by exact hk) _) mi_X3_isLesser q_ml_RX3_51 rfl rfl ⟨Nat.le_of_ble_eq_true rfl, Nat.le_of_ble_eq_true rfl⟩ (Nat.le_of_ble_eq_true rfl) ⟨Nat.zero_le _, Nat.zero_le _⟩ dX3_into_40 (fun r σ1 F th H locs hr hO => ?_)
          obtain ⟨rfl, rfl⟩ := hr
          refine lv_if_eq (tgt := 59) hC.1 hC.2.1 dX3_into_43 (by decide) (fun c_4 => ?_) (fun c_4 => ?_)
          · skip
            have c_4 := bI_z c_4
            refine lv_bipush (v := (-13)) hC.1 hC.2.1 dX3_into_59 (by decide) ?_
            exact g_iret hC hO dX3_into_61 (by unfold xInto fullB; simp [c_1, c_2, c_3, c_4, hq2])
          · skip
            have c_4 := bI_nz c_4
            refine g_aload_n hC hl dX3_into_46 rfl rfl ?_
            refine g_iload_n hC hl dX3_into_47 rfl rfl ?_
            refine g_cVi1 hC hO hl (ci := 3) rfl (nn_lt (Nat.le_of_ble_eq_true rfl)) rfl (c_X3_placeOf l κ _ _) mi_X3_placeOf q_ml_RX3_55 rfl rfl ⟨Nat.le_of_ble_eq_true rfl, Nat.le_of_ble_eq_true rfl⟩ (Nat.le_of_ble_eq_true rfl) ⟨Nat.zero_le _, Nat.zero_le _⟩ dX3_into_48 (fun r σ1 F th H locs hr hO => ?_)
            obtain ⟨rfl, rfl⟩ := hr
            refine g_aload_n hC hl dX3_into_51 rfl rfl ?_
            refine g_iload_n hC hl dX3_into_52 rfl rfl ?_
            refine g_cVi1 hC hO hl (ci := 3) rfl (nn_lt (Nat.le_of_ble_eq_true rfl)) rfl (c_X3_placeOf l κ _ _) mi_X3_placeOf q_ml_RX3_55 rfl rfl ⟨Nat.le_of_ble_eq_true rfl, Nat.le_of_ble_eq_true rfl⟩ (Nat.le_of_ble_eq_true rfl) ⟨Nat.zero_le _, Nat.zero_le _⟩ dX3_into_53 (fun r σ1 F th H locs hr hO => ?_)
            obtain ⟨rfl, rfl⟩ := hr
            refine lv_icmp_eq (tgt := 62) hC.1 hC.2.1 dX3_into_56 (by decide) (fun c_5 => ?_) (fun c_5 => ?_)
            · skip
              refine g_aload_n hC hl dX3_into_62 rfl rfl ?_
              refine g_get (ci := 1) (k := 5) hC hO rfl inX1 (by decide) q_fl_RX3_58 (nn_rb hk) (sh_rec _ _ _ _ _) rfl dX3_into_63 ?_
              refine g_cVi0 hC hO hl (ci := 2) rfl (nn_rc hk (by decide)) (sh_row _ _ _ _ _ (by decide)) (c_X2_isFull l κ _ (k) (0) (by exact hk) (by decide)) mi_X2_isFull q_ml_RX3_62 rfl rfl ⟨Nat.le_of_ble_eq_true rfl, Nat.le_of_ble_eq_true rfl⟩ (Nat.le_of_ble_eq_true rfl) ⟨Nat.zero_le _, Nat.zero_le _⟩ dX3_into_66 (fun r σ1 F th H locs hr hO => ?_)
              obtain ⟨rfl, rfl⟩ := hr
              refine lv_if_eq (tgt := 75) hC.1 hC.2.1 dX3_into_69 (by decide) (fun c_6 => ?_) (fun c_6 => ?_)
              · skip
                have c_6 := bI_z c_6
                refine g_aload_n hC hl dX3_into_75 rfl rfl ?_
                refine g_aload_n hC hl dX3_into_76 rfl rfl ?_
                refine g_iload_n hC hl dX3_into_77 rfl rfl ?_
                refine g_iload_n hC hl dX3_into_78 rfl rfl ?_
                refine g_cVv3 hC hO hl (ci := 3) rfl (nn_lt (Nat.le_of_ble_eq_true rfl)) rfl (c_X3_putIn l κ _ k (by exact hk) _ _) mi_X3_putIn q_ml_RX3_68 rfl rfl ⟨Nat.le_of_ble_eq_true rfl, Nat.le_of_ble_eq_true rfl⟩ (Nat.le_of_ble_eq_true rfl) ⟨Nat.zero_le _, Nat.zero_le _⟩ dX3_into_79 (fun σ1 F th H locs hr hO => ?_)
                subst hr
                refine lv_iconst (v := 1) hC.1 hC.2.1 dX3_into_82 (by decide) ?_
                exact g_iret hC hO dX3_into_83 (by unfold xInto fullB; simp [c_1, c_2, c_3, c_4, c_5, c_6, hq2])
              · skip
                have c_6 := bI_nz c_6
                refine lv_bipush (v := (-14)) hC.1 hC.2.1 dX3_into_72 (by decide) ?_
                exact g_iret hC hO dX3_into_74 (by unfold xInto fullB; simp [c_1, c_2, c_3, c_4, c_5, c_6, hq2])
            · skip
              refine lv_bipush (v := (-13)) hC.1 hC.2.1 dX3_into_59 (by decide) ?_
              exact g_iret hC hO dX3_into_61 (by unfold xInto fullB; simp [c_1, c_2, c_3, c_4, c_5, hq2])
    · skip
      have c_1 := bI_z c_1
      refine lv_bipush (v := (-11)) hC.1 hC.2.1 dX3_into_18 (by decide) ?_
      exact g_iret hC hO dX3_into_20 (by unfold xInto fullB; simp [c_1, hq2])

set_option maxHeartbeats 4000000 in
set_option maxRecDepth 100000 in
/-- BagRows.take -/
theorem c_X3_take (l : Launch) (κ : KK) (σ : ST) (p0 : Int32) : Met l yX3_take (wA yX3_take cX3_take 3 (some .int)) ({ frames := 3, cells := 0, slots := 0, locals := 66 }) (va_Pc [.ref (kad κ 0), .int p0] (WX κ σ)) (va_Qi (fun r σ' => (r, σ') = xTake σ p0) (WX κ) (FA κ)) 0 0 (FA κ) := by
  refine g_met 1 (by decide) rfl (Nat.le_of_ble_eq_true rfl) ?_
  intro p e s m args below meth c hC F th hO ls hl
  have hl : LL ls 3 [some _, some _, none] := hl
  refine g_aload_n hC hl dX3_take_0 rfl rfl ?_
  refine g_iload_n hC hl dX3_take_1 rfl rfl ?_
  refine g_cVi1 hC hO hl (ci := 3) rfl (nn_lt (Nat.le_of_ble_eq_true rfl)) rfl (c_X3_isThing l κ _ _) mi_X3_isThing q_ml_RX3_40 rfl rfl ⟨Nat.le_of_ble_eq_true rfl, Nat.le_of_ble_eq_true rfl⟩ (Nat.le_of_ble_eq_true rfl) ⟨Nat.zero_le _, Nat.zero_le _⟩ dX3_take_2 (fun r σ1 F th H locs hr hO => ?_)
  obtain ⟨rfl, rfl⟩ := hr
  refine lv_if_ne (tgt := 11) hC.1 hC.2.1 dX3_take_5 (by decide) (fun c_1 => ?_) (fun c_1 => ?_)
  · skip
    have c_1 := bI_nz c_1
    refine g_aload_n hC hl dX3_take_11 rfl rfl ?_
    refine g_iload_n hC hl dX3_take_12 rfl rfl ?_
    refine g_cVi1 hC hO hl (ci := 3) rfl (nn_lt (Nat.le_of_ble_eq_true rfl)) rfl (c_X3_holderOf l κ _ _) mi_X3_holderOf q_ml_RX3_47 rfl rfl ⟨Nat.le_of_ble_eq_true rfl, Nat.le_of_ble_eq_true rfl⟩ (Nat.le_of_ble_eq_true rfl) ⟨Nat.zero_le _, Nat.zero_le _⟩ dX3_take_13 (fun r σ1 F th H locs hr hO => ?_)
    obtain ⟨rfl, rfl⟩ := hr
    refine g_istore_n hC hl dX3_take_16 rfl (Nat.le_of_ble_eq_true rfl) rfl (fun ls hl => ?_)
    have hl : LL ls 3 [some _, some _, some _] := hl
    refine g_iload_n hC hl dX3_take_17 rfl rfl ?_
    refine lv_if_eq (tgt := 29) hC.1 hC.2.1 dX3_take_18 (by decide) (fun c_2 => ?_) (fun c_2 => ?_)
    · skip
      refine lv_bipush (v := (-13)) hC.1 hC.2.1 dX3_take_29 (by decide) ?_
      exact g_iret hC hO dX3_take_31 (by unfold xTake; simp [c_1, c_2])
    · skip
      refine g_aload_n hC hl dX3_take_21 rfl rfl ?_
      refine g_iload_n hC hl dX3_take_22 rfl rfl ?_
      refine g_cVi1 hC hO hl (ci := 3) rfl (nn_lt (Nat.le_of_ble_eq_true rfl)) rfl (c_X3_isShut l κ _ _) mi_X3_isShut q_ml_RX3_44 rfl rfl ⟨Nat.le_of_ble_eq_true rfl, Nat.le_of_ble_eq_true rfl⟩ (Nat.le_of_ble_eq_true rfl) ⟨Nat.zero_le _, Nat.zero_le _⟩ dX3_take_23 (fun r σ1 F th H locs hr hO => ?_)
      obtain ⟨rfl, rfl⟩ := hr
      refine lv_if_eq (tgt := 32) hC.1 hC.2.1 dX3_take_26 (by decide) (fun c_3 => ?_) (fun c_3 => ?_)
      · skip
        have c_3 := bI_z c_3
        refine g_aload_n hC hl dX3_take_32 rfl rfl ?_
        refine g_iload_n hC hl dX3_take_33 rfl rfl ?_
        refine g_cVv1 hC hO hl (ci := 3) rfl (nn_lt (Nat.le_of_ble_eq_true rfl)) rfl (c_X3_takeOut l κ _ _) mi_X3_takeOut q_ml_RX3_72 rfl rfl ⟨Nat.le_of_ble_eq_true rfl, Nat.le_of_ble_eq_true rfl⟩ (Nat.le_of_ble_eq_true rfl) ⟨Nat.zero_le _, Nat.zero_le _⟩ dX3_take_34 (fun σ1 F th H locs hr hO => ?_)
        subst hr
        refine g_iload_n hC hl dX3_take_37 rfl rfl ?_
        exact g_iret hC hO dX3_take_38 (by unfold xTake; simp [c_1, c_2, c_3])
      · skip
        have c_3 := bI_nz c_3
        refine lv_bipush (v := (-13)) hC.1 hC.2.1 dX3_take_29 (by decide) ?_
        exact g_iret hC hO dX3_take_31 (by unfold xTake; simp [c_1, c_2, c_3])
  · skip
    have c_1 := bI_z c_1
    refine lv_bipush (v := (-11)) hC.1 hC.2.1 dX3_take_8 (by decide) ?_
    exact g_iret hC hO dX3_take_10 (by unfold xTake; simp [c_1])

set_option maxHeartbeats 4000000 in
set_option maxRecDepth 100000 in
/-- BagRows.close -/
theorem c_X3_close (l : Launch) (κ : KK) (σ : ST) (p0 : Int32) (p1 : Int64) (p2 : Int32) : Met l yX3_close (wA yX3_close cX3_close 6 (some .int)) ({ frames := 3, cells := 0, slots := 0, locals := 66 }) (va_Pc [.ref (kad κ 0), .int p0, .long p1, .int p2] (WX κ σ)) (va_Qi (fun r σ' => (r, σ') = xClose σ p0 p1 p2) (WX κ) (FA κ)) 0 0 (FA κ) := by
  refine g_met 1 (by decide) rfl (Nat.le_of_ble_eq_true rfl) ?_
  intro p e s m args below meth c hC F th hO ls hl
  have hl : LL ls 6 [some _, some _, some _, none, some _, none] := hl
  refine g_aload_n hC hl dX3_close_0 rfl rfl ?_
  refine g_iload_n hC hl dX3_close_1 rfl rfl ?_
  refine g_cVq1 hC hO hl (ci := 3) rfl (nn_lt (Nat.le_of_ble_eq_true rfl)) rfl (c_X3_receptacleOf l κ _ _) mi_X3_receptacleOf q_ml_RX3_36 rfl rfl ⟨Nat.le_of_ble_eq_true rfl, Nat.le_of_ble_eq_true rfl⟩ (Nat.le_of_ble_eq_true rfl) ⟨Nat.zero_le _, Nat.zero_le _⟩ dX3_close_2 (fun r σ1 F th H locs hr hO => ?_)
  obtain ⟨rfl, hr⟩ := hr
  rcases hr with ⟨rfl, hq2⟩ | ⟨k, hq2, rfl⟩
  · skip
    refine g_astoreN hC hl dX3_close_5 (Nat.le_of_ble_eq_true rfl) rfl (fun ls hl => ?_)
    have hl : LL ls 6 [some _, some _, some _, none, some _, some _] := hl
    refine g_aloadN hC hl dX3_close_7 rfl ?_
    refine lv_ifnonnullN hC.1 hC.2.1 dX3_close_9 ?_
    refine lv_bipush (v := (-11)) hC.1 hC.2.1 dX3_close_12 (by decide) ?_
    exact g_iret hC hO dX3_close_14 (by unfold xClose; simp [hq2])
  · have hk := recOf_lt hq2
    refine g_astore hC hl dX3_close_5 (Nat.le_of_ble_eq_true rfl) rfl (fun ls hl => ?_)
    have hl : LL ls 6 [some _, some _, some _, none, some _, some _] := hl
    refine g_aload hC hl dX3_close_7 rfl ?_
    refine lv_ifnonnull (tgt := 15) hC.1 hC.2.1 dX3_close_9 (by decide) ?_
    refine g_lload_n hC hl dX3_close_15 rfl rfl ?_
    refine g_cSi1 hC hO hl (c_X3_isSeal l κ _ _) mi_X3_isSeal q_ml_RX3_75 rfl rfl ⟨Nat.le_of_ble_eq_true rfl, Nat.le_of_ble_eq_true rfl⟩ (Nat.le_of_ble_eq_true rfl) ⟨Nat.zero_le _, Nat.zero_le _⟩ dX3_close_16 (fun r σ1 F th H locs hr hO => ?_)
    obtain ⟨rfl, rfl⟩ := hr
    refine lv_if_eq (tgt := 30) hC.1 hC.2.1 dX3_close_19 (by decide) (fun c_1 => ?_) (fun c_1 => ?_)
    · skip
      have c_1 := bI_z c_1
      refine lv_bipush (v := (-12)) hC.1 hC.2.1 dX3_close_30 (by decide) ?_
      exact g_iret hC hO dX3_close_32 (by unfold xClose; simp [c_1, hq2])
    · skip
      have c_1 := bI_nz c_1
      refine g_iload hC hl dX3_close_22 rfl ?_
      refine g_cSi1 hC hO hl (c_X3_isPerson l κ _ _) mi_X3_isPerson q_ml_RX3_79 rfl rfl ⟨Nat.le_of_ble_eq_true rfl, Nat.le_of_ble_eq_true rfl⟩ (Nat.le_of_ble_eq_true rfl) ⟨Nat.zero_le _, Nat.zero_le _⟩ dX3_close_24 (fun r σ1 F th H locs hr hO => ?_)
      obtain ⟨rfl, rfl⟩ := hr
      refine lv_if_ne (tgt := 33) hC.1 hC.2.1 dX3_close_27 (by decide) (fun c_2 => ?_) (fun c_2 => ?_)
      · skip
        have c_2 := bI_nz c_2
        refine g_aload_n hC hl dX3_close_33 rfl rfl ?_
        refine g_iload_n hC hl dX3_close_34 rfl rfl ?_
        refine g_cVi1 hC hO hl (ci := 3) rfl (nn_lt (Nat.le_of_ble_eq_true rfl)) rfl (c_X3_isShut l κ _ _) mi_X3_isShut q_ml_RX3_44 rfl rfl ⟨Nat.le_of_ble_eq_true rfl, Nat.le_of_ble_eq_true rfl⟩ (Nat.le_of_ble_eq_true rfl) ⟨Nat.zero_le _, Nat.zero_le _⟩ dX3_close_35 (fun r σ1 F th H locs hr hO => ?_)
        obtain ⟨rfl, rfl⟩ := hr
        refine lv_if_eq (tgt := 44) hC.1 hC.2.1 dX3_close_38 (by decide) (fun c_3 => ?_) (fun c_3 => ?_)
        · skip
          have c_3 := bI_z c_3
          refine g_aload hC hl dX3_close_44 rfl ?_
          refine g_lload_n hC hl dX3_close_46 rfl rfl ?_
          refine g_iload hC hl dX3_close_47 rfl ?_
          refine g_cVv2 hC hO hl (ci := 1) rfl (nn_rb hk) (sh_rec _ _ _ _ _) (c_X1_shut l κ _ (k) (by exact hk) _ _) mi_X1_shut q_ml_RX3_82 rfl rfl ⟨Nat.le_of_ble_eq_true rfl, Nat.le_of_ble_eq_true rfl⟩ (Nat.le_of_ble_eq_true rfl) ⟨Nat.zero_le _, Nat.zero_le _⟩ dX3_close_49 (fun σ1 F th H locs hr hO => ?_)
          subst hr
          refine g_aload hC hl dX3_close_52 rfl ?_
          refine g_get (ci := 1) (k := 6) hC hO rfl inX1 (by decide) q_fl_RX3_86 (nn_rb hk) (sh_rec _ _ _ _ _) rfl dX3_close_54 ?_
          refine g_cVi0 hC hO hl (ci := 2) rfl (nn_rc hk (by decide)) (sh_row _ _ _ _ _ (by decide)) (c_X2_size l κ _ (k) (1) (by exact hk) (by decide)) mi_X2_size q_ml_RX3_89 rfl rfl ⟨Nat.le_of_ble_eq_true rfl, Nat.le_of_ble_eq_true rfl⟩ (Nat.le_of_ble_eq_true rfl) ⟨Nat.zero_le _, Nat.zero_le _⟩ dX3_close_57 (fun r σ1 F th H locs hr hO => ?_)
          obtain ⟨rfl, rfl⟩ := hr
          exact g_iret hC hO dX3_close_60 (by unfold xClose; simp [c_1, c_2, c_3, hq2])
        · skip
          have c_3 := bI_nz c_3
          refine lv_bipush (v := (-13)) hC.1 hC.2.1 dX3_close_41 (by decide) ?_
          exact g_iret hC hO dX3_close_43 (by unfold xClose; simp [c_1, c_2, c_3, hq2])
      · skip
        have c_2 := bI_z c_2
        refine lv_bipush (v := (-12)) hC.1 hC.2.1 dX3_close_30 (by decide) ?_
        exact g_iret hC hO dX3_close_32 (by unfold xClose; simp [c_1, c_2, hq2])

set_option maxHeartbeats 4000000 in
set_option maxRecDepth 100000 in
/-- BagRows.open -/
theorem c_X3_open (l : Launch) (κ : KK) (σ : ST) (n : Nat) (hn : sI σ 4 1 = nI n) (hn2 : n < 512) (p0 : Int32) (p1 : Int64) (p2 p3 : Int32) : Met l yX3_open (wA yX3_open cX3_open 7 (some .int)) ({ frames := 3, cells := 0, slots := 0, locals := 65 }) (va_Pc [.ref (kad κ 0), .int p0, .long p1, .int p2, .int p3] (WX κ σ)) (va_Qi (fun r σ' => (r, σ') = xOpen σ p0 p1 p2 p3) (WX κ) (FA κ)) 0 0 (FA κ) := by
  refine g_met 1 (by decide) rfl (Nat.le_of_ble_eq_true rfl) ?_
  intro p e s m args below meth c hC F th hO ls hl
  have hl : LL ls 7 [some _, some _, some _, none, some _, some _, none] := hl
  refine g_aload_n hC hl dX3_open_0 rfl rfl ?_
  refine g_iload_n hC hl dX3_open_1 rfl rfl ?_
  refine g_cVq1 hC hO hl (ci := 3) rfl (nn_lt (Nat.le_of_ble_eq_true rfl)) rfl (c_X3_receptacleOf l κ _ _) mi_X3_receptacleOf q_ml_RX3_36 rfl rfl ⟨Nat.le_of_ble_eq_true rfl, Nat.le_of_ble_eq_true rfl⟩ (Nat.le_of_ble_eq_true rfl) ⟨Nat.zero_le _, Nat.zero_le _⟩ dX3_open_2 (fun r σ1 F th H locs hr hO => ?_)
  obtain ⟨rfl, hr⟩ := hr
  rcases hr with ⟨rfl, hq2⟩ | ⟨k, hq2, rfl⟩
  · skip
    refine g_astoreN hC hl dX3_open_5 (Nat.le_of_ble_eq_true rfl) rfl (fun ls hl => ?_)
    have hl : LL ls 7 [some _, some _, some _, none, some _, some _, some _] := hl
    refine g_aloadN hC hl dX3_open_7 rfl ?_
    refine lv_ifnonnullN hC.1 hC.2.1 dX3_open_9 ?_
    refine lv_bipush (v := (-11)) hC.1 hC.2.1 dX3_open_12 (by decide) ?_
    exact g_iret hC hO dX3_open_14 (by unfold xOpen timeS; simp [hq2])
  · have hk := recOf_lt hq2
    refine g_astore hC hl dX3_open_5 (Nat.le_of_ble_eq_true rfl) rfl (fun ls hl => ?_)
    have hl : LL ls 7 [some _, some _, some _, none, some _, some _, some _] := hl
    refine g_aload hC hl dX3_open_7 rfl ?_
    refine lv_ifnonnull (tgt := 15) hC.1 hC.2.1 dX3_open_9 (by decide) ?_
    refine g_lload_n hC hl dX3_open_15 rfl rfl ?_
    refine g_cSi1 hC hO hl (c_X3_isSeal l κ _ _) mi_X3_isSeal q_ml_RX3_75 rfl rfl ⟨Nat.le_of_ble_eq_true rfl, Nat.le_of_ble_eq_true rfl⟩ (Nat.le_of_ble_eq_true rfl) ⟨Nat.zero_le _, Nat.zero_le _⟩ dX3_open_16 (fun r σ1 F th H locs hr hO => ?_)
    obtain ⟨rfl, rfl⟩ := hr
    refine lv_if_eq (tgt := 44) hC.1 hC.2.1 dX3_open_19 (by decide) (fun c_1 => ?_) (fun c_1 => ?_)
    · skip
      have c_1 := bI_z c_1
      refine lv_bipush (v := (-12)) hC.1 hC.2.1 dX3_open_44 (by decide) ?_
      exact g_iret hC hO dX3_open_46 (by unfold xOpen timeS; simp [c_1, hq2])
    · skip
      have c_1 := bI_nz c_1
      refine g_iload hC hl dX3_open_22 rfl ?_
      refine g_cSi1 hC hO hl (c_X3_isPerson l κ _ _) mi_X3_isPerson q_ml_RX3_79 rfl rfl ⟨Nat.le_of_ble_eq_true rfl, Nat.le_of_ble_eq_true rfl⟩ (Nat.le_of_ble_eq_true rfl) ⟨Nat.zero_le _, Nat.zero_le _⟩ dX3_open_24 (fun r σ1 F th H locs hr hO => ?_)
      obtain ⟨rfl, rfl⟩ := hr
      refine lv_if_eq (tgt := 44) hC.1 hC.2.1 dX3_open_27 (by decide) (fun c_2 => ?_) (fun c_2 => ?_)
      · skip
        have c_2 := bI_z c_2
        refine lv_bipush (v := (-12)) hC.1 hC.2.1 dX3_open_44 (by decide) ?_
        exact g_iret hC hO dX3_open_46 (by unfold xOpen timeS; simp [c_1, c_2, hq2])
      · skip
        have c_2 := bI_nz c_2
        refine g_iload hC hl dX3_open_30 rfl ?_
        refine lv_iconst (v := (-1)) hC.1 hC.2.1 dX3_open_32 (by decide) ?_
        refine lv_icmp_eq (tgt := 47) hC.1 hC.2.1 dX3_open_33 (by decide) (fun c_3 => ?_) (fun c_3 => ?_)
        · skip
          have h33 : orPerson p3 = true := by simp [orPerson, c_3]
          refine g_aload hC hl dX3_open_47 rfl ?_
          refine g_get (ci := 1) (k := 1) hC hO rfl inX1 (by decide) q_fl_RX3_93 (nn_rb hk) (sh_rec _ _ _ _ _) rfl dX3_open_49 ?_
          refine lv_if_eq (tgt := 79) hC.1 hC.2.1 dX3_open_52 (by decide) (fun c_4 => ?_) (fun c_4 => ?_)
          · skip
            refine lv_bipush (v := (-13)) hC.1 hC.2.1 dX3_open_79 (by decide) ?_
            exact g_iret hC hO dX3_open_81 (by unfold xOpen timeS; simp [c_1, c_2, h33, c_4, hq2])
          · skip
            refine g_aload_n hC hl dX3_open_55 rfl rfl ?_
            refine g_aload_n hC hl dX3_open_56 rfl rfl ?_
            refine g_iload_n hC hl dX3_open_57 rfl rfl ?_
            refine g_cVi1 hC hO hl (ci := 3) rfl (nn_lt (Nat.le_of_ble_eq_true rfl)) rfl (c_X3_holderOf l κ _ _) mi_X3_holderOf q_ml_RX3_47 rfl rfl ⟨Nat.le_of_ble_eq_true rfl, Nat.le_of_ble_eq_true rfl⟩ (Nat.le_of_ble_eq_true rfl) ⟨Nat.zero_le _, Nat.zero_le _⟩ dX3_open_58 (fun r σ1 F th H locs hr hO => ?_)
            obtain ⟨rfl, rfl⟩ := hr
            refine g_cVi1 hC hO hl (ci := 3) rfl (nn_lt (Nat.le_of_ble_eq_true rfl)) rfl (c_X3_isShut l κ _ _) mi_X3_isShut q_ml_RX3_44 rfl rfl ⟨Nat.le_of_ble_eq_true rfl, Nat.le_of_ble_eq_true rfl⟩ (Nat.le_of_ble_eq_true rfl) ⟨Nat.zero_le _, Nat.zero_le _⟩ dX3_open_61 (fun r σ1 F th H locs hr hO => ?_)
            obtain ⟨rfl, rfl⟩ := hr
            refine lv_if_ne (tgt := 79) hC.1 hC.2.1 dX3_open_64 (by decide) (fun c_5 => ?_) (fun c_5 => ?_)
            · skip
              have c_5 := bI_nz c_5
              refine lv_bipush (v := (-13)) hC.1 hC.2.1 dX3_open_79 (by decide) ?_
              exact g_iret hC hO dX3_open_81 (by unfold xOpen timeS; simp [c_1, c_2, h33, c_4, c_5, hq2])
            · skip
              have c_5 := bI_z c_5
              refine g_aload hC hl dX3_open_67 rfl ?_
              refine g_iload hC hl dX3_open_69 rfl ?_
              refine g_iload hC hl dX3_open_71 rfl ?_
              refine g_cVi2 hC hO hl (ci := 1) rfl (nn_rb hk) (sh_rec _ _ _ _ _) (c_X1_mayBeOpenedBy l κ _ (k) (by exact hk) _ _) mi_X1_mayBeOpenedBy q_ml_RX3_97 rfl rfl ⟨Nat.le_of_ble_eq_true rfl, Nat.le_of_ble_eq_true rfl⟩ (Nat.le_of_ble_eq_true rfl) ⟨Nat.zero_le _, Nat.zero_le _⟩ dX3_open_73 (fun r σ1 F th H locs hr hO => ?_)
              obtain ⟨rfl, rfl⟩ := hr
              refine lv_if_ne (tgt := 82) hC.1 hC.2.1 dX3_open_76 (by decide) (fun c_6 => ?_) (fun c_6 => ?_)
              · skip
                have c_6 := bI_nz c_6
                refine g_aload hC hl dX3_open_82 rfl ?_
                refine g_lload_n hC hl dX3_open_84 rfl rfl ?_
                refine g_cVi1 hC hO hl (ci := 1) rfl (nn_rb hk) (sh_rec _ _ _ _ _) (c_X1_unseal l κ _ (k) (by exact hk) _) mi_X1_unseal q_ml_RX3_101 rfl rfl ⟨Nat.le_of_ble_eq_true rfl, Nat.le_of_ble_eq_true rfl⟩ (Nat.le_of_ble_eq_true rfl) ⟨Nat.zero_le _, Nat.zero_le _⟩ dX3_open_85 (fun r σ1 F th H locs hr hO => ?_)
                obtain ⟨rfl, rfl⟩ := hr
                refine lv_if_eq (tgt := 93) hC.1 hC.2.1 dX3_open_88 (by decide) (fun c_7 => ?_) (fun c_7 => ?_)
                · skip
                  have c_7 := of_decide_eq_false (bI_z c_7)
                  refine g_aload_n hC hl dX3_open_93 rfl rfl ?_
                  refine g_get (ci := 3) (k := 4) hC hO rfl inX3 (by decide) q_fl_RX3_25 (nn_lt (Nat.le_of_ble_eq_true rfl)) rfl rfl dX3_open_94 ?_
                  refine g_aload_n hC hl dX3_open_97 rfl rfl ?_
                  refine g_get (ci := 3) (k := 5) hC hO rfl inX3 (by decide) q_fl_RX3_104 (nn_lt (Nat.le_of_ble_eq_true rfl)) rfl rfl dX3_open_98 ?_
                  refine lv_ldc2 hC.1 hC.2.1 hC.2.2.2.1 (hC.2.2.2.2.1 _ q_kl_RX3_108) dX3_open_101 ?_
                  refine lv_ladd hC.1 hC.2.1 dX3_open_104 ?_
                  refine g_cVv1 hC hO hl (ci := 0) rfl (nn_lt (Nat.le_of_ble_eq_true rfl)) rfl (c_X0_add l κ _ n (by rw [sI4_unseal]; exact hn) hn2 _) mi_X0_add q_ml_RX3_110 rfl rfl ⟨Nat.le_of_ble_eq_true rfl, Nat.le_of_ble_eq_true rfl⟩ (Nat.le_of_ble_eq_true rfl) ⟨Nat.zero_le _, Nat.zero_le _⟩ dX3_open_105 (fun σ1 F th H locs hr hO => ?_)
                  rw [noteS_eq (by rw [sI4_unseal]; exact hn) hn2] at hr
                  subst hr
                  refine lv_iconst (v := (-1)) hC.1 hC.2.1 dX3_open_108 (by decide) ?_
                  exact g_iret hC hO dX3_open_109 (by unfold xOpen timeS; simp [c_1, c_2, h33, c_4, c_5, c_6, c_7, hq2])
                · skip
                  have c_7 := of_decide_eq_true (bI_nz c_7)
                  have h88 := c_7
                  refine lv_iconst (v := 1) hC.1 hC.2.1 dX3_open_91 (by decide) ?_
                  exact g_iret hC hO dX3_open_92 (by unfold xOpen timeS; simp [c_1, c_2, h33, c_4, c_5, c_6, hq2, if_pos h88])
              · skip
                have c_6 := bI_z c_6
                refine lv_bipush (v := (-13)) hC.1 hC.2.1 dX3_open_79 (by decide) ?_
                exact g_iret hC hO dX3_open_81 (by unfold xOpen timeS; simp [c_1, c_2, h33, c_4, c_5, c_6, hq2])
        · skip
          have h34 := c_3
          refine g_iload hC hl dX3_open_36 rfl ?_
          refine g_cSi1 hC hO hl (c_X3_isPerson l κ _ _) mi_X3_isPerson q_ml_RX3_79 rfl rfl ⟨Nat.le_of_ble_eq_true rfl, Nat.le_of_ble_eq_true rfl⟩ (Nat.le_of_ble_eq_true rfl) ⟨Nat.zero_le _, Nat.zero_le _⟩ dX3_open_38 (fun r σ1 F th H locs hr hO => ?_)
          obtain ⟨rfl, rfl⟩ := hr
          refine lv_if_ne (tgt := 47) hC.1 hC.2.1 dX3_open_41 (by decide) (fun c_8 => ?_) (fun c_8 => ?_)
          · skip
            have c_8 := bI_nz c_8
            have h33 : orPerson p3 = true := by simp [orPerson, c_8]
            refine g_aload hC hl dX3_open_47 rfl ?_
            refine g_get (ci := 1) (k := 1) hC hO rfl inX1 (by decide) q_fl_RX3_93 (nn_rb hk) (sh_rec _ _ _ _ _) rfl dX3_open_49 ?_
            refine lv_if_eq (tgt := 79) hC.1 hC.2.1 dX3_open_52 (by decide) (fun c_9 => ?_) (fun c_9 => ?_)
            · skip
              refine lv_bipush (v := (-13)) hC.1 hC.2.1 dX3_open_79 (by decide) ?_
              exact g_iret hC hO dX3_open_81 (by unfold xOpen timeS; simp [c_1, c_2, h33, c_9, hq2])
            · skip
              refine g_aload_n hC hl dX3_open_55 rfl rfl ?_
              refine g_aload_n hC hl dX3_open_56 rfl rfl ?_
              refine g_iload_n hC hl dX3_open_57 rfl rfl ?_
              refine g_cVi1 hC hO hl (ci := 3) rfl (nn_lt (Nat.le_of_ble_eq_true rfl)) rfl (c_X3_holderOf l κ _ _) mi_X3_holderOf q_ml_RX3_47 rfl rfl ⟨Nat.le_of_ble_eq_true rfl, Nat.le_of_ble_eq_true rfl⟩ (Nat.le_of_ble_eq_true rfl) ⟨Nat.zero_le _, Nat.zero_le _⟩ dX3_open_58 (fun r σ1 F th H locs hr hO => ?_)
              obtain ⟨rfl, rfl⟩ := hr
              refine g_cVi1 hC hO hl (ci := 3) rfl (nn_lt (Nat.le_of_ble_eq_true rfl)) rfl (c_X3_isShut l κ _ _) mi_X3_isShut q_ml_RX3_44 rfl rfl ⟨Nat.le_of_ble_eq_true rfl, Nat.le_of_ble_eq_true rfl⟩ (Nat.le_of_ble_eq_true rfl) ⟨Nat.zero_le _, Nat.zero_le _⟩ dX3_open_61 (fun r σ1 F th H locs hr hO => ?_)
              obtain ⟨rfl, rfl⟩ := hr
              refine lv_if_ne (tgt := 79) hC.1 hC.2.1 dX3_open_64 (by decide) (fun c_10 => ?_) (fun c_10 => ?_)
              · skip
                have c_10 := bI_nz c_10
                refine lv_bipush (v := (-13)) hC.1 hC.2.1 dX3_open_79 (by decide) ?_
                exact g_iret hC hO dX3_open_81 (by unfold xOpen timeS; simp [c_1, c_2, h33, c_9, c_10, hq2])
              · skip
                have c_10 := bI_z c_10
                refine g_aload hC hl dX3_open_67 rfl ?_
                refine g_iload hC hl dX3_open_69 rfl ?_
                refine g_iload hC hl dX3_open_71 rfl ?_
                refine g_cVi2 hC hO hl (ci := 1) rfl (nn_rb hk) (sh_rec _ _ _ _ _) (c_X1_mayBeOpenedBy l κ _ (k) (by exact hk) _ _) mi_X1_mayBeOpenedBy q_ml_RX3_97 rfl rfl ⟨Nat.le_of_ble_eq_true rfl, Nat.le_of_ble_eq_true rfl⟩ (Nat.le_of_ble_eq_true rfl) ⟨Nat.zero_le _, Nat.zero_le _⟩ dX3_open_73 (fun r σ1 F th H locs hr hO => ?_)
                obtain ⟨rfl, rfl⟩ := hr
                refine lv_if_ne (tgt := 82) hC.1 hC.2.1 dX3_open_76 (by decide) (fun c_11 => ?_) (fun c_11 => ?_)
                · skip
                  have c_11 := bI_nz c_11
                  refine g_aload hC hl dX3_open_82 rfl ?_
                  refine g_lload_n hC hl dX3_open_84 rfl rfl ?_
                  refine g_cVi1 hC hO hl (ci := 1) rfl (nn_rb hk) (sh_rec _ _ _ _ _) (c_X1_unseal l κ _ (k) (by exact hk) _) mi_X1_unseal q_ml_RX3_101 rfl rfl ⟨Nat.le_of_ble_eq_true rfl, Nat.le_of_ble_eq_true rfl⟩ (Nat.le_of_ble_eq_true rfl) ⟨Nat.zero_le _, Nat.zero_le _⟩ dX3_open_85 (fun r σ1 F th H locs hr hO => ?_)
                  obtain ⟨rfl, rfl⟩ := hr
                  refine lv_if_eq (tgt := 93) hC.1 hC.2.1 dX3_open_88 (by decide) (fun c_12 => ?_) (fun c_12 => ?_)
                  · skip
                    have c_12 := of_decide_eq_false (bI_z c_12)
                    refine g_aload_n hC hl dX3_open_93 rfl rfl ?_
                    refine g_get (ci := 3) (k := 4) hC hO rfl inX3 (by decide) q_fl_RX3_25 (nn_lt (Nat.le_of_ble_eq_true rfl)) rfl rfl dX3_open_94 ?_
                    refine g_aload_n hC hl dX3_open_97 rfl rfl ?_
                    refine g_get (ci := 3) (k := 5) hC hO rfl inX3 (by decide) q_fl_RX3_104 (nn_lt (Nat.le_of_ble_eq_true rfl)) rfl rfl dX3_open_98 ?_
                    refine lv_ldc2 hC.1 hC.2.1 hC.2.2.2.1 (hC.2.2.2.2.1 _ q_kl_RX3_108) dX3_open_101 ?_
                    refine lv_ladd hC.1 hC.2.1 dX3_open_104 ?_
                    refine g_cVv1 hC hO hl (ci := 0) rfl (nn_lt (Nat.le_of_ble_eq_true rfl)) rfl (c_X0_add l κ _ n (by rw [sI4_unseal]; exact hn) hn2 _) mi_X0_add q_ml_RX3_110 rfl rfl ⟨Nat.le_of_ble_eq_true rfl, Nat.le_of_ble_eq_true rfl⟩ (Nat.le_of_ble_eq_true rfl) ⟨Nat.zero_le _, Nat.zero_le _⟩ dX3_open_105 (fun σ1 F th H locs hr hO => ?_)
                    rw [noteS_eq (by rw [sI4_unseal]; exact hn) hn2] at hr
                    subst hr
                    refine lv_iconst (v := (-1)) hC.1 hC.2.1 dX3_open_108 (by decide) ?_
                    exact g_iret hC hO dX3_open_109 (by unfold xOpen timeS; simp [c_1, c_2, h33, c_9, c_10, c_11, c_12, hq2])
                  · skip
                    have c_12 := of_decide_eq_true (bI_nz c_12)
                    have h88 := c_12
                    refine lv_iconst (v := 1) hC.1 hC.2.1 dX3_open_91 (by decide) ?_
                    exact g_iret hC hO dX3_open_92 (by unfold xOpen timeS; simp [c_1, c_2, h33, c_9, c_10, c_11, hq2, if_pos h88])
                · skip
                  have c_11 := bI_z c_11
                  refine lv_bipush (v := (-13)) hC.1 hC.2.1 dX3_open_79 (by decide) ?_
                  exact g_iret hC hO dX3_open_81 (by unfold xOpen timeS; simp [c_1, c_2, h33, c_9, c_10, c_11, hq2])
          · skip
            have c_8 := bI_z c_8
            have h33 : orPerson p3 = false := by simp [orPerson, c_8, h34]
            refine lv_bipush (v := (-12)) hC.1 hC.2.1 dX3_open_44 (by decide) ?_
            exact g_iret hC hO dX3_open_46 (by unfold xOpen timeS; simp [c_1, c_2, h33, hq2])

set_option maxHeartbeats 4000000 in
set_option maxRecDepth 100000 in
/-- BagRows.found -/
theorem c_X3_found (l : Launch) (κ : KK) (σ : ST) (n : Nat) (hn : sI σ 4 1 = nI n) (hn2 : n < 512) (p0 p1 : Int32) : Met l yX3_found (wA yX3_found cX3_found 4 (some .int)) ({ frames := 4, cells := 0, slots := 0, locals := 90 }) (va_Pc [.ref (kad κ 0), .int p0, .int p1] (WX κ σ)) (va_Qi (fun r σ' => (r, σ') = xFound σ p0 p1) (WX κ) (FA κ)) 0 0 (FA κ) := by
  refine g_met 1 (by decide) rfl (Nat.le_of_ble_eq_true rfl) ?_
  intro p e s m args below meth c hC F th hO ls hl
  have hl : LL ls 4 [some _, some _, some _, none] := hl
  refine g_aload_n hC hl dX3_found_0 rfl rfl ?_
  refine g_iload_n hC hl dX3_found_1 rfl rfl ?_
  refine g_cVq1 hC hO hl (ci := 3) rfl (nn_lt (Nat.le_of_ble_eq_true rfl)) rfl (c_X3_receptacleOf l κ _ _) mi_X3_receptacleOf q_ml_RX3_36 rfl rfl ⟨Nat.le_of_ble_eq_true rfl, Nat.le_of_ble_eq_true rfl⟩ (Nat.le_of_ble_eq_true rfl) ⟨Nat.zero_le _, Nat.zero_le _⟩ dX3_found_2 (fun r σ1 F th H locs hr hO => ?_)
  obtain ⟨rfl, hr⟩ := hr
  rcases hr with ⟨rfl, hq2⟩ | ⟨k, hq2, rfl⟩
  · skip
    refine g_astore_nN hC hl dX3_found_5 rfl (Nat.le_of_ble_eq_true rfl) rfl (fun ls hl => ?_)
    have hl : LL ls 4 [some _, some _, some _, some _] := hl
    refine g_aload_nN hC hl dX3_found_6 rfl rfl ?_
    refine lv_ifnullN (tgt := 18) hC.1 hC.2.1 dX3_found_7 (by decide) ?_
    refine lv_bipush (v := (-11)) hC.1 hC.2.1 dX3_found_18 (by decide) ?_
    exact g_iret hC hO dX3_found_20 (by unfold xFound remR; simp [hq2])
  · have hk := recOf_lt hq2
    refine g_astore_n hC hl dX3_found_5 rfl (Nat.le_of_ble_eq_true rfl) rfl (fun ls hl => ?_)
    have hl : LL ls 4 [some _, some _, some _, some _] := hl
    refine g_aload_n hC hl dX3_found_6 rfl rfl ?_
    refine lv_ifnull hC.1 hC.2.1 dX3_found_7 ?_
    refine g_aload_n hC hl dX3_found_10 rfl rfl ?_
    refine g_iload_n hC hl dX3_found_11 rfl rfl ?_
    refine g_cVi1 hC hO hl (ci := 3) rfl (nn_lt (Nat.le_of_ble_eq_true rfl)) rfl (c_X3_isThing l κ _ _) mi_X3_isThing q_ml_RX3_40 rfl rfl ⟨Nat.le_of_ble_eq_true rfl, Nat.le_of_ble_eq_true rfl⟩ (Nat.le_of_ble_eq_true rfl) ⟨Nat.zero_le _, Nat.zero_le _⟩ dX3_found_12 (fun r σ1 F th H locs hr hO => ?_)
    obtain ⟨rfl, rfl⟩ := hr
    refine lv_if_ne (tgt := 21) hC.1 hC.2.1 dX3_found_15 (by decide) (fun c_1 => ?_) (fun c_1 => ?_)
    · skip
      have c_1 := bI_nz c_1
      refine g_aload_n hC hl dX3_found_21 rfl rfl ?_
      refine g_cVi0 hC hO hl (ci := 1) rfl (nn_rb hk) (sh_rec _ _ _ _ _) (c_X1_isChecked l κ _ (k) (by exact hk)) mi_X1_isChecked q_ml_RX3_114 rfl rfl ⟨Nat.le_of_ble_eq_true rfl, Nat.le_of_ble_eq_true rfl⟩ (Nat.le_of_ble_eq_true rfl) ⟨Nat.zero_le _, Nat.zero_le _⟩ dX3_found_22 (fun r σ1 F th H locs hr hO => ?_)
      obtain ⟨rfl, rfl⟩ := hr
      refine lv_if_eq (tgt := 37) hC.1 hC.2.1 dX3_found_25 (by decide) (fun c_2 => ?_) (fun c_2 => ?_)
      · skip
        have c_2 := bI_z c_2
        refine lv_bipush (v := (-13)) hC.1 hC.2.1 dX3_found_37 (by decide) ?_
        exact g_iret hC hO dX3_found_39 (by unfold xFound remR; simp [c_1, c_2, hq2])
      · skip
        have c_2 := bI_nz c_2
        refine g_aload_n hC hl dX3_found_28 rfl rfl ?_
        refine g_iload_n hC hl dX3_found_29 rfl rfl ?_
        refine g_aload_n hC hl dX3_found_30 rfl rfl ?_
        refine g_cVi2 hC hO hl (ci := 3) rfl (nn_lt (Nat.le_of_ble_eq_true rfl)) rfl (c_X3_isLesser l κ _ k (by exact hk) _) mi_X3_isLesser q_ml_RX3_51 rfl rfl ⟨Nat.le_of_ble_eq_true rfl, Nat.le_of_ble_eq_true rfl⟩ (Nat.le_of_ble_eq_true rfl) ⟨Nat.zero_le _, Nat.zero_le _⟩ dX3_found_31 (fun r σ1 F th H locs hr hO => ?_)
        obtain ⟨rfl, rfl⟩ := hr
        refine lv_if_ne (tgt := 40) hC.1 hC.2.1 dX3_found_34 (by decide) (fun c_3 => ?_) (fun c_3 => ?_)
        · skip
          have c_3 := bI_nz c_3
          refine g_aload_n hC hl dX3_found_40 rfl rfl ?_
          refine g_get (ci := 1) (k := 6) hC hO rfl inX1 (by decide) q_fl_RX3_86 (nn_rb hk) (sh_rec _ _ _ _ _) rfl dX3_found_41 ?_
          refine g_iload_n hC hl dX3_found_44 rfl rfl ?_
          refine g_cVi1 hC hO hl (ci := 2) rfl (nn_rc hk (by decide)) (sh_row _ _ _ _ _ (by decide)) (c_X2_holds l κ _ (k) (1) (by exact hk) (by decide) _) mi_X2_holds q_ml_RX3_117 rfl rfl ⟨Nat.le_of_ble_eq_true rfl, Nat.le_of_ble_eq_true rfl⟩ (Nat.le_of_ble_eq_true rfl) ⟨Nat.zero_le _, Nat.zero_le _⟩ dX3_found_45 (fun r σ1 F th H locs hr hO => ?_)
          obtain ⟨rfl, rfl⟩ := hr
          refine lv_if_eq (tgt := 61) hC.1 hC.2.1 dX3_found_48 (by decide) (fun c_4 => ?_) (fun c_4 => ?_)
          · skip
            have c_4 := of_decide_eq_false (bI_z c_4)
            refine g_aload_n hC hl dX3_found_61 rfl rfl ?_
            refine g_get (ci := 1) (k := 10) hC hO rfl inX1 (by decide) q_fl_RX3_126 (nn_rb hk) (sh_rec _ _ _ _ _) rfl dX3_found_62 ?_
            refine g_iload_n hC hl dX3_found_65 rfl rfl ?_
            refine g_cVi1 hC hO hl (ci := 2) rfl (nn_rc hk (by decide)) (sh_row _ _ _ _ _ (by decide)) (c_X2_holds l κ _ (k) (5) (by exact hk) (by decide) _) mi_X2_holds q_ml_RX3_117 rfl rfl ⟨Nat.le_of_ble_eq_true rfl, Nat.le_of_ble_eq_true rfl⟩ (Nat.le_of_ble_eq_true rfl) ⟨Nat.zero_le _, Nat.zero_le _⟩ dX3_found_66 (fun r σ1 F th H locs hr hO => ?_)
            obtain ⟨rfl, rfl⟩ := hr
            refine lv_if_eq (tgt := 74) hC.1 hC.2.1 dX3_found_69 (by decide) (fun c_5 => ?_) (fun c_5 => ?_)
            · skip
              have c_5 := of_decide_eq_false (bI_z c_5)
              refine g_aload_n hC hl dX3_found_74 rfl rfl ?_
              refine g_aload_n hC hl dX3_found_75 rfl rfl ?_
              refine g_iload_n hC hl dX3_found_76 rfl rfl ?_
              refine g_iload_n hC hl dX3_found_77 rfl rfl ?_
              refine g_cVi3 hC hO hl (ci := 3) rfl (nn_lt (Nat.le_of_ble_eq_true rfl)) rfl (c_X3_foundExtra l κ _ n (by exact hn) hn2 k (by exact hk) _ _) mi_X3_foundExtra q_ml_RX3_129 rfl rfl ⟨Nat.le_of_ble_eq_true rfl, Nat.le_of_ble_eq_true rfl⟩ (Nat.le_of_ble_eq_true rfl) ⟨Nat.zero_le _, Nat.zero_le _⟩ dX3_found_78 (fun r σ1 F th H locs hr hO => ?_)
              have h1 : r = (foundExtraF σ k p0 p1).1 := congrArg Prod.fst hr
              have h2 : σ1 = (foundExtraF σ k p0 p1).2 := congrArg Prod.snd hr
              subst h1
              subst h2
              exact g_iret hC hO dX3_found_81 (by unfold xFound remR; simp [c_1, c_2, c_3, c_4, c_5, hq2])
            · skip
              have c_5 := of_decide_eq_true (bI_nz c_5)
              refine lv_iconst (v := 0) hC.1 hC.2.1 dX3_found_72 (by decide) ?_
              exact g_iret hC hO dX3_found_73 (by unfold xFound remR; simp [c_1, c_2, c_3, c_4, c_5, hq2])
          · skip
            have c_4 := of_decide_eq_true (bI_nz c_4)
            refine g_aload_n hC hl dX3_found_51 rfl rfl ?_
            refine g_get (ci := 1) (k := 9) hC hO rfl inX1 (by decide) q_fl_RX3_120 (nn_rb hk) (sh_rec _ _ _ _ _) rfl dX3_found_52 ?_
            refine g_iload_n hC hl dX3_found_55 rfl rfl ?_
            refine g_cVv1 hC hO hl (ci := 2) rfl (nn_rc hk (by decide)) (sh_row _ _ _ _ _ (by decide)) (c_X2_remove l κ _ (k) (4) (by exact hk) (by decide) _) mi_X2_remove q_ml_RX3_123 rfl rfl ⟨Nat.le_of_ble_eq_true rfl, Nat.le_of_ble_eq_true rfl⟩ (Nat.le_of_ble_eq_true rfl) ⟨Nat.zero_le _, Nat.zero_le _⟩ dX3_found_56 (fun σ1 F th H locs hr hO => ?_)
            subst hr
            refine lv_iconst (v := 1) hC.1 hC.2.1 dX3_found_59 (by decide) ?_
            exact g_iret hC hO dX3_found_60 (by unfold xFound remR; simp [c_1, c_2, c_3, c_4, hq2])
        · skip
          have c_3 := bI_z c_3
          refine lv_bipush (v := (-13)) hC.1 hC.2.1 dX3_found_37 (by decide) ?_
          exact g_iret hC hO dX3_found_39 (by unfold xFound remR; simp [c_1, c_2, c_3, hq2])
    · skip
      have c_1 := bI_z c_1
      refine lv_bipush (v := (-11)) hC.1 hC.2.1 dX3_found_18 (by decide) ?_
      exact g_iret hC hO dX3_found_20 (by unfold xFound remR; simp [c_1, hq2])

set_option maxHeartbeats 4000000 in
set_option maxRecDepth 100000 in
/-- BagRows.differ -/
theorem c_X3_differ (l : Launch) (κ : KK) (σ : ST) (p0 p1 p2 : Int32) : Met l yX3_differ (wA yX3_differ cX3_differ 8 (some .int)) ({ frames := 1, cells := 0, slots := 0, locals := 22 }) (va_Pc [.ref (kad κ 0), .int p0, .int p1, .int p2] (WX κ σ)) (va_Qi (fun r σ' => σ = σ' ∧ r = xDiffer σ p0 p1 p2) (WX κ) (FA κ)) 0 0 (FA κ) := by
  refine g_met 4 (by decide) rfl (Nat.le_of_ble_eq_true rfl) ?_
  intro p e s m args below meth c hC F th hO ls hl
  have hl : LL ls 8 [some _, some _, some _, some _, none, none, none, none] := hl
  have loop44 : ∀ (k : Nat) (hk : k < σ.1) (n f d : Nat) (rest : Int32), f + 1 ≤ n → d + f = 4 → xDiffer σ p0 p1 p2 = differF σ k p2 f d rest → ∀ (F : Nat → Nat → Int32) (th : Int32) (H : Heap) (locs : List Loc), OS κ s.heap σ F th H locs → ∀ ls : Array Slot, LL ls 8 [some (.ref (kad κ 0)), some (.int p0), some (.int p1), some (.int p2), some (.ref (kad κ (rb k))), some (.int rest), some (.int (nI d)), none] → W p l e ({ frames := 1, cells := 0, slots := 0, locals := 22 } : Room) s m args below meth c H locs 0 0 (MQ below (va_Qi (fun r σ' => σ = σ' ∧ r = xDiffer σ p0 p1 p2) (WX κ) (FA κ)) args s 0 0 (FA κ)) (F0 m 44 ls []) := by
    intro k hk n
    induction n with
    | zero => intro f d rest h1; exact absurd h1 (by omega)
    | succ n ih =>
      intro f d rest h1 h2 h3 F th H locs hO ls hl
      refine g_iload hC hl dX3_differ_44 rfl ?_
      refine lv_iconst (v := 3) hC.1 hC.2.1 dX3_differ_46 (by decide) ?_
      refine lv_icmp_gt (tgt := 107) hC.1 hC.2.1 dX3_differ_47 (by decide) (fun c_1 => ?_) (fun c_1 => ?_)
      · skip
        rw [show (3 : Int32) = nI 3 from rfl, nI_ltI (by omega) (by omega)] at c_1
        have h9 : xDiffer σ p0 p1 p2 = -1 := by rw [h3, show f = 0 by omega]; rfl
        refine lv_iconst (v := (-1)) hC.1 hC.2.1 dX3_differ_107 (by decide) ?_
        exact g_iret hC hO dX3_differ_108 (⟨rfl, h9.symm⟩)
      · skip
        rw [show (3 : Int32) = nI 3 from rfl, nI_ltI (by omega) (by omega)] at c_1
        obtain ⟨f, rfl⟩ : ∃ f2, f = f2 + 1 := ⟨f - 1, by omega⟩
        rw [show differF σ k p2 (f + 1) d rest = (if rest < 0 then -1 else if rest < nI (sR σ (rc k (d + 2))).length then (if p2 = 0 then nI d else rowAt (sR σ (rc k (d + 2))) rest) else differF σ k p2 f (d + 1) (rest - nI (sR σ (rc k (d + 2))).length)) from rfl] at h3
        refine g_iload hC hl dX3_differ_50 rfl ?_
        refine lv_if_lt (tgt := 107) hC.1 hC.2.1 dX3_differ_52 (by decide) (fun c_2 => ?_) (fun c_2 => ?_)
        · skip
          have h9 : xDiffer σ p0 p1 p2 = -1 := by rw [h3, if_pos c_2]
          refine lv_iconst (v := (-1)) hC.1 hC.2.1 dX3_differ_107 (by decide) ?_
          exact g_iret hC hO dX3_differ_108 (⟨rfl, h9.symm⟩)
        · skip
          rw [if_neg c_2] at h3
          refine g_aload hC hl dX3_differ_55 rfl ?_
          refine g_iload hC hl dX3_differ_57 rfl ?_
          refine g_cVq1 hC hO hl (ci := 1) rfl (nn_rb hk) (sh_rec _ _ _ _ _) (c_X1_differencesOf l κ _ (k) (by exact hk) d (by omega)) mi_X1_differencesOf q_ml_RX3_133 rfl rfl ⟨Nat.le_of_ble_eq_true rfl, Nat.le_of_ble_eq_true rfl⟩ (Nat.le_of_ble_eq_true rfl) ⟨Nat.zero_le _, Nat.zero_le _⟩ dX3_differ_59 (fun r σ1 F th H locs hr hO => ?_)
          obtain ⟨rfl, rfl⟩ := hr
          refine g_astore hC hl dX3_differ_62 (Nat.le_of_ble_eq_true rfl) rfl (fun ls hl => ?_)
          have hl : LL ls 8 [some _, some _, some _, some _, some _, some _, some _, some _] := hl
          refine g_iload hC hl dX3_differ_64 rfl ?_
          refine g_aload hC hl dX3_differ_66 rfl ?_
          refine g_cVi0 hC hO hl (ci := 2) rfl (nn_rc hk (by omega)) (sh_row _ _ _ _ _ (by omega)) (c_X2_size l κ _ (k) ((d + 2)) (by exact hk) (by omega)) mi_X2_size q_ml_RX3_89 rfl rfl ⟨Nat.le_of_ble_eq_true rfl, Nat.le_of_ble_eq_true rfl⟩ (Nat.le_of_ble_eq_true rfl) ⟨Nat.zero_le _, Nat.zero_le _⟩ dX3_differ_68 (fun r σ1 F th H locs hr hO => ?_)
          obtain ⟨rfl, rfl⟩ := hr
          refine lv_icmp_ge (tgt := 91) hC.1 hC.2.1 dX3_differ_71 (by decide) (fun c_3 => ?_) (fun c_3 => ?_)
          · skip
            rw [if_neg (Int32.not_lt.mpr c_3)] at h3
            refine g_iload hC hl dX3_differ_91 rfl ?_
            refine g_aload hC hl dX3_differ_93 rfl ?_
            refine g_cVi0 hC hO hl (ci := 2) rfl (nn_rc hk (by omega)) (sh_row _ _ _ _ _ (by omega)) (c_X2_size l κ _ (k) ((d + 2)) (by exact hk) (by omega)) mi_X2_size q_ml_RX3_89 rfl rfl ⟨Nat.le_of_ble_eq_true rfl, Nat.le_of_ble_eq_true rfl⟩ (Nat.le_of_ble_eq_true rfl) ⟨Nat.zero_le _, Nat.zero_le _⟩ dX3_differ_95 (fun r σ1 F th H locs hr hO => ?_)
            obtain ⟨rfl, rfl⟩ := hr
            refine lv_isub hC.1 hC.2.1 dX3_differ_98 ?_
            refine g_istore hC hl dX3_differ_99 (Nat.le_of_ble_eq_true rfl) rfl (fun ls hl => ?_)
            have hl : LL ls 8 [some _, some _, some _, some _, some _, some _, some _, some _] := hl
            refine g_iinc (v := nI (d + 1)) hC hl dX3_differ_101 rfl (nI_i1 d) (Nat.le_of_ble_eq_true rfl) rfl (fun ls hl => ?_)
            have hl : LL ls 8 [some _, some _, some _, some _, some _, some _, some _, some _] := hl
            refine lv_goto (tgt := 44) hC.1 hC.2.1 dX3_differ_104 (by decide) ?_
            have hl := LL.drop hl 7
            exact ih f (d + 1) _ (by omega) (by omega) h3 _ _ _ _ hO ls hl
          · skip
            rw [if_pos (Int32.not_le.mp c_3)] at h3
            refine g_iload_n hC hl dX3_differ_74 rfl rfl ?_
            refine lv_if_ne (tgt := 83) hC.1 hC.2.1 dX3_differ_75 (by decide) (fun c_4 => ?_) (fun c_4 => ?_)
            · skip
              rw [if_neg c_4] at h3
              have h9 := h3
              refine g_aload hC hl dX3_differ_83 rfl ?_
              refine g_iload hC hl dX3_differ_85 rfl ?_
              refine g_cVi1 hC hO hl (ci := 2) rfl (nn_rc hk (by omega)) (sh_row _ _ _ _ _ (by omega)) (c_X2_at l κ _ (k) ((d + 2)) (by exact hk) (by omega) _) mi_X2_at q_ml_RX3_137 rfl rfl ⟨Nat.le_of_ble_eq_true rfl, Nat.le_of_ble_eq_true rfl⟩ (Nat.le_of_ble_eq_true rfl) ⟨Nat.zero_le _, Nat.zero_le _⟩ dX3_differ_87 (fun r σ1 F th H locs hr hO => ?_)
              obtain ⟨rfl, rfl⟩ := hr
              exact g_iret hC hO dX3_differ_90 (⟨rfl, h9.symm⟩)
            · skip
              rw [if_pos c_4] at h3
              have h9 := h3
              refine g_iload hC hl dX3_differ_78 rfl ?_
              refine lv_goto (tgt := 90) hC.1 hC.2.1 dX3_differ_80 (by decide) ?_
              exact g_iret hC hO dX3_differ_90 (⟨rfl, h9.symm⟩)
  refine g_aload_n hC hl dX3_differ_0 rfl rfl ?_
  refine g_iload_n hC hl dX3_differ_1 rfl rfl ?_
  refine g_cVq1 hC hO hl (ci := 3) rfl (nn_lt (Nat.le_of_ble_eq_true rfl)) rfl (c_X3_receptacleOf l κ _ _) mi_X3_receptacleOf q_ml_RX3_36 rfl rfl ⟨Nat.le_of_ble_eq_true rfl, Nat.le_of_ble_eq_true rfl⟩ (Nat.le_of_ble_eq_true rfl) ⟨Nat.zero_le _, Nat.zero_le _⟩ dX3_differ_2 (fun r σ1 F th H locs hr hO => ?_)
  obtain ⟨rfl, hr⟩ := hr
  rcases hr with ⟨rfl, hq2⟩ | ⟨k, hq2, rfl⟩
  · skip
    refine g_astoreN hC hl dX3_differ_5 (Nat.le_of_ble_eq_true rfl) rfl (fun ls hl => ?_)
    have hl : LL ls 8 [some _, some _, some _, some _, some _, none, none, none] := hl
    refine g_aloadN hC hl dX3_differ_7 rfl ?_
    refine lv_ifnonnullN hC.1 hC.2.1 dX3_differ_9 ?_
    refine lv_bipush (v := (-11)) hC.1 hC.2.1 dX3_differ_12 (by decide) ?_
    exact g_iret hC hO dX3_differ_14 (⟨rfl, by unfold xDiffer; simp [hq2]⟩)
  · have hk := recOf_lt hq2
    refine g_astore hC hl dX3_differ_5 (Nat.le_of_ble_eq_true rfl) rfl (fun ls hl => ?_)
    have hl : LL ls 8 [some _, some _, some _, some _, some _, none, none, none] := hl
    refine g_aload hC hl dX3_differ_7 rfl ?_
    refine lv_ifnonnull (tgt := 15) hC.1 hC.2.1 dX3_differ_9 (by decide) ?_
    refine g_iload_n hC hl dX3_differ_15 rfl rfl ?_
    refine lv_if_eq (tgt := 27) hC.1 hC.2.1 dX3_differ_16 (by decide) (fun c_5 => ?_) (fun c_5 => ?_)
    · skip
      refine g_aload hC hl dX3_differ_27 rfl ?_
      refine g_cVi0 hC hO hl (ci := 1) rfl (nn_rb hk) (sh_rec _ _ _ _ _) (c_X1_isChecked l κ _ (k) (by exact hk)) mi_X1_isChecked q_ml_RX3_114 rfl rfl ⟨Nat.le_of_ble_eq_true rfl, Nat.le_of_ble_eq_true rfl⟩ (Nat.le_of_ble_eq_true rfl) ⟨Nat.zero_le _, Nat.zero_le _⟩ dX3_differ_29 (fun r σ1 F th H locs hr hO => ?_)
      obtain ⟨rfl, rfl⟩ := hr
      refine lv_if_ne (tgt := 38) hC.1 hC.2.1 dX3_differ_32 (by decide) (fun c_6 => ?_) (fun c_6 => ?_)
      · skip
        have c_6 := bI_nz c_6
        have hx := c_6
        refine g_iload_n hC hl dX3_differ_38 rfl rfl ?_
        refine g_istore hC hl dX3_differ_39 (Nat.le_of_ble_eq_true rfl) rfl (fun ls hl => ?_)
        have hl : LL ls 8 [some _, some _, some _, some _, some _, some _, none, none] := hl
        refine lv_iconst (v := 0) hC.1 hC.2.1 dX3_differ_41 (by decide) ?_
        refine g_istore hC hl dX3_differ_42 (Nat.le_of_ble_eq_true rfl) rfl (fun ls hl => ?_)
        have hl : LL ls 8 [some _, some _, some _, some _, some _, some _, some _, none] := hl
        exact loop44 k hk 5 4 0 p1 (by omega) (by omega) (by unfold xDiffer; simp [c_5, c_6, hq2]) _ _ _ _ hO ls hl
      · skip
        have c_6 := bI_z c_6
        refine lv_bipush (v := (-13)) hC.1 hC.2.1 dX3_differ_35 (by decide) ?_
        exact g_iret hC hO dX3_differ_37 (⟨rfl, by unfold xDiffer; simp [c_5, c_6, hq2]⟩)
    · skip
      refine g_iload_n hC hl dX3_differ_19 rfl rfl ?_
      refine lv_iconst (v := 1) hC.1 hC.2.1 dX3_differ_20 (by decide) ?_
      refine lv_icmp_eq (tgt := 27) hC.1 hC.2.1 dX3_differ_21 (by decide) (fun c_7 => ?_) (fun c_7 => ?_)
      · skip
        refine g_aload hC hl dX3_differ_27 rfl ?_
        refine g_cVi0 hC hO hl (ci := 1) rfl (nn_rb hk) (sh_rec _ _ _ _ _) (c_X1_isChecked l κ _ (k) (by exact hk)) mi_X1_isChecked q_ml_RX3_114 rfl rfl ⟨Nat.le_of_ble_eq_true rfl, Nat.le_of_ble_eq_true rfl⟩ (Nat.le_of_ble_eq_true rfl) ⟨Nat.zero_le _, Nat.zero_le _⟩ dX3_differ_29 (fun r σ1 F th H locs hr hO => ?_)
        obtain ⟨rfl, rfl⟩ := hr
        refine lv_if_ne (tgt := 38) hC.1 hC.2.1 dX3_differ_32 (by decide) (fun c_8 => ?_) (fun c_8 => ?_)
        · skip
          have c_8 := bI_nz c_8
          have hx := c_8
          refine g_iload_n hC hl dX3_differ_38 rfl rfl ?_
          refine g_istore hC hl dX3_differ_39 (Nat.le_of_ble_eq_true rfl) rfl (fun ls hl => ?_)
          have hl : LL ls 8 [some _, some _, some _, some _, some _, some _, none, none] := hl
          refine lv_iconst (v := 0) hC.1 hC.2.1 dX3_differ_41 (by decide) ?_
          refine g_istore hC hl dX3_differ_42 (Nat.le_of_ble_eq_true rfl) rfl (fun ls hl => ?_)
          have hl : LL ls 8 [some _, some _, some _, some _, some _, some _, some _, none] := hl
          exact loop44 k hk 5 4 0 p1 (by omega) (by omega) (by unfold xDiffer; simp [c_5, c_7, c_8, hq2]) _ _ _ _ hO ls hl
        · skip
          have c_8 := bI_z c_8
          refine lv_bipush (v := (-13)) hC.1 hC.2.1 dX3_differ_35 (by decide) ?_
          exact g_iret hC hO dX3_differ_37 (⟨rfl, by unfold xDiffer; simp [c_5, c_7, c_8, hq2]⟩)
      · skip
        refine lv_bipush (v := (-12)) hC.1 hC.2.1 dX3_differ_24 (by decide) ?_
        exact g_iret hC hO dX3_differ_26 (⟨rfl, by unfold xDiffer; simp [c_5, c_7, hq2]⟩)

set_option maxHeartbeats 4000000 in
set_option maxRecDepth 100000 in
/-- BagRows.inside -/
theorem c_X3_inside (l : Launch) (κ : KK) (σ : ST) (p0 : Int32) : Met l yX3_inside (wA yX3_inside cX3_inside 2 (some .int)) ({ frames := 2, cells := 0, slots := 0, locals := 43 }) (va_Pc [.ref (kad κ 0), .int p0] (WX κ σ)) (va_Qi (fun r σ' => σ = σ' ∧ r = xInside σ p0) (WX κ) (FA κ)) 0 0 (FA κ) := by
  refine g_met 0 (by decide) rfl (Nat.le_of_ble_eq_true rfl) ?_
  intro p e s m args below meth c hC F th hO ls hl
  have hl : LL ls 2 [some _, some _] := hl
  refine g_aload_n hC hl dX3_inside_0 rfl rfl ?_
  refine g_iload_n hC hl dX3_inside_1 rfl rfl ?_
  refine g_cVi1 hC hO hl (ci := 3) rfl (nn_lt (Nat.le_of_ble_eq_true rfl)) rfl (c_X3_isThing l κ _ _) mi_X3_isThing q_ml_RX3_40 rfl rfl ⟨Nat.le_of_ble_eq_true rfl, Nat.le_of_ble_eq_true rfl⟩ (Nat.le_of_ble_eq_true rfl) ⟨Nat.zero_le _, Nat.zero_le _⟩ dX3_inside_2 (fun r σ1 F th H locs hr hO => ?_)
  obtain ⟨rfl, rfl⟩ := hr
  refine lv_if_eq (tgt := 16) hC.1 hC.2.1 dX3_inside_5 (by decide) (fun c_1 => ?_) (fun c_1 => ?_)
  · skip
    have c_1 := bI_z c_1
    refine lv_bipush (v := (-11)) hC.1 hC.2.1 dX3_inside_16 (by decide) ?_
    exact g_iret hC hO dX3_inside_18 (⟨rfl, by unfold xInside; simp [c_1]⟩)
  · skip
    have c_1 := bI_nz c_1
    refine g_aload_n hC hl dX3_inside_8 rfl rfl ?_
    refine g_iload_n hC hl dX3_inside_9 rfl rfl ?_
    refine g_cVi1 hC hO hl (ci := 3) rfl (nn_lt (Nat.le_of_ble_eq_true rfl)) rfl (c_X3_holderOf l κ _ _) mi_X3_holderOf q_ml_RX3_47 rfl rfl ⟨Nat.le_of_ble_eq_true rfl, Nat.le_of_ble_eq_true rfl⟩ (Nat.le_of_ble_eq_true rfl) ⟨Nat.zero_le _, Nat.zero_le _⟩ dX3_inside_10 (fun r σ1 F th H locs hr hO => ?_)
    obtain ⟨rfl, rfl⟩ := hr
    refine lv_goto (tgt := 18) hC.1 hC.2.1 dX3_inside_13 (by decide) ?_
    exact g_iret hC hO dX3_inside_18 (⟨rfl, by unfold xInside; simp [c_1]⟩)

set_option maxHeartbeats 4000000 in
set_option maxRecDepth 100000 in
/-- BagRows.weight -/
theorem c_X3_weight (l : Launch) (κ : KK) (σ : ST) (n : Nat) (hn : sI σ 4 1 = nI n) (hn2 : n < 512) (p0 : Int32) (p1 : Int64) : Met l yX3_weight (wA yX3_weight cX3_weight 7 (some .int)) ({ frames := 3, cells := 0, slots := 0, locals := 70 }) (va_Pc [.ref (kad κ 0), .int p0, .long p1] (WX κ σ)) (va_Qi (fun r σ' => (r, σ') = xWeight σ p0 p1) (WX κ) (FA κ)) 0 0 (FA κ) := by
  refine g_met 3 (by decide) rfl (Nat.le_of_ble_eq_true rfl) ?_
  intro p e s m args below meth c hC F th hO ls hl
  have hl : LL ls 7 [some _, some _, some _, none, none, none, none] := hl
  refine g_aload_n hC hl dX3_weight_0 rfl rfl ?_
  refine g_iload_n hC hl dX3_weight_1 rfl rfl ?_
  refine g_cVq1 hC hO hl (ci := 3) rfl (nn_lt (Nat.le_of_ble_eq_true rfl)) rfl (c_X3_receptacleOf l κ _ _) mi_X3_receptacleOf q_ml_RX3_36 rfl rfl ⟨Nat.le_of_ble_eq_true rfl, Nat.le_of_ble_eq_true rfl⟩ (Nat.le_of_ble_eq_true rfl) ⟨Nat.zero_le _, Nat.zero_le _⟩ dX3_weight_2 (fun r σ1 F th H locs hr hO => ?_)
  obtain ⟨rfl, hr⟩ := hr
  rcases hr with ⟨rfl, hq2⟩ | ⟨k, hq2, rfl⟩
  · skip
    refine g_astoreN hC hl dX3_weight_5 (Nat.le_of_ble_eq_true rfl) rfl (fun ls hl => ?_)
    have hl : LL ls 7 [some _, some _, some _, none, some _, none, none] := hl
    refine g_aloadN hC hl dX3_weight_7 rfl ?_
    refine lv_ifnonnullN hC.1 hC.2.1 dX3_weight_9 ?_
    refine lv_bipush (v := (-11)) hC.1 hC.2.1 dX3_weight_12 (by decide) ?_
    exact g_iret hC hO dX3_weight_14 (by unfold xWeight; simp [hq2])
  · have hk := recOf_lt hq2
    refine g_astore hC hl dX3_weight_5 (Nat.le_of_ble_eq_true rfl) rfl (fun ls hl => ?_)
    have hl : LL ls 7 [some _, some _, some _, none, some _, none, none] := hl
    refine g_aload hC hl dX3_weight_7 rfl ?_
    refine lv_ifnonnull (tgt := 15) hC.1 hC.2.1 dX3_weight_9 (by decide) ?_
    refine g_lload_n hC hl dX3_weight_15 rfl rfl ?_
    refine lv_lconst (v := 0) hC.1 hC.2.1 dX3_weight_16 (by decide) ?_
    refine W.lcmp hC.1 hC.2.1 dX3_weight_17 ?_
    refine lv_if_lt (tgt := 29) hC.1 hC.2.1 dX3_weight_18 (by decide) (fun c_1 => ?_) (fun c_1 => ?_)
    · skip
      rw [lg_cmp_lt] at c_1
      refine lv_bipush (v := (-12)) hC.1 hC.2.1 dX3_weight_29 (by decide) ?_
      exact g_iret hC hO dX3_weight_31 (by unfold xWeight; simp only [c_1, hq2, if_true, if_false, not_false_eq_true, reduceIte, not_true_eq_false])
    · skip
      rw [lg_cmp_lt] at c_1
      refine g_lload_n hC hl dX3_weight_21 rfl rfl ?_
      refine lv_ldc2 hC.1 hC.2.1 hC.2.2.2.1 (hC.2.2.2.2.1 _ q_kl_RX3_140) dX3_weight_22 ?_
      refine W.lcmp hC.1 hC.2.1 dX3_weight_25 ?_
      refine lv_if_le (tgt := 32) hC.1 hC.2.1 dX3_weight_26 (by decide) (fun c_2 => ?_) (fun c_2 => ?_)
      · skip
        rw [lg_cmp_le] at c_2
        refine g_aload_n hC hl dX3_weight_32 rfl rfl ?_
        refine g_iload_n hC hl dX3_weight_33 rfl rfl ?_
        refine g_cVl1 hC hO hl (ci := 3) rfl (nn_lt (Nat.le_of_ble_eq_true rfl)) rfl (c_X3_weightOf l κ _ _) mi_X3_weightOf q_ml_RX3_142 rfl rfl ⟨Nat.le_of_ble_eq_true rfl, Nat.le_of_ble_eq_true rfl⟩ (Nat.le_of_ble_eq_true rfl) ⟨Nat.zero_le _, Nat.zero_le _⟩ dX3_weight_34 (fun r σ1 F th H locs hr hO => ?_)
        obtain ⟨rfl, rfl⟩ := hr
        refine g_lstore hC hl dX3_weight_37 (Nat.le_of_ble_eq_true rfl) rfl (fun ls hl => ?_)
        have hl : LL ls 7 [some _, some _, some _, none, some _, some _, none] := hl
        refine g_lload_n hC hl dX3_weight_39 rfl rfl ?_
        refine g_lload hC hl dX3_weight_40 rfl ?_
        refine lv_lsub hC.1 hC.2.1 dX3_weight_42 ?_
        refine va_mabs_long hC.1 hC.2.1 (hC.2.2.1.trans hl.1.symm) hC.2.2.2.1 (hC.2.2.2.2.1 _ q_ml_RX3_146) (hC.2.2.2.2.1 _ q_st_Lib_MathLoose_abs_long_x) (hC.2.2.2.2.1 _ q_ini_RJ9) (hC.2.2.2.2.1 _ q_co_mabs) (Nat.le_of_ble_eq_true rfl) (Nat.le_of_ble_eq_true rfl) (Nat.zero_le _) (Nat.zero_le _) dX3_weight_43 ?_
        refine g_lload hC hl dX3_weight_46 rfl ?_
        refine lv_ldc2 hC.1 hC.2.1 hC.2.2.2.1 (hC.2.2.2.2.1 _ q_kl_RX3_152) dX3_weight_48 ?_
        refine lv_ldiv hC.1 hC.2.1 dX3_weight_51 (by decide) ?_
        refine W.lcmp hC.1 hC.2.1 dX3_weight_52 ?_
        refine lv_if_gt (tgt := 58) hC.1 hC.2.1 dX3_weight_53 (by decide) (fun c_3 => ?_) (fun c_3 => ?_)
        · skip
          rw [lg_cmp_gt] at c_3
          refine g_aload hC hl dX3_weight_58 rfl ?_
          refine g_get (ci := 1) (k := 8) hC hO rfl inX1 (by decide) q_fl_RX3_154 (nn_rb hk) (sh_rec _ _ _ _ _) rfl dX3_weight_60 ?_
          refine g_lload_n hC hl dX3_weight_63 rfl rfl ?_
          refine lv_l2i hC.1 hC.2.1 dX3_weight_64 rfl ?_
          refine g_cVv1 hC hO hl (ci := 2) rfl (nn_rc hk (by decide)) (sh_row _ _ _ _ _ (by decide)) (c_X2_append l κ _ (k) (3) (by exact hk) (by decide) _) mi_X2_append q_ml_RX3_157 rfl rfl ⟨Nat.le_of_ble_eq_true rfl, Nat.le_of_ble_eq_true rfl⟩ (Nat.le_of_ble_eq_true rfl) ⟨Nat.zero_le _, Nat.zero_le _⟩ dX3_weight_65 (fun σ1 F th H locs hr hO => ?_)
          subst hr
          refine g_aload_n hC hl dX3_weight_68 rfl rfl ?_
          refine g_get (ci := 3) (k := 4) hC hO rfl inX3 (by decide) q_fl_RX3_25 (nn_lt (Nat.le_of_ble_eq_true rfl)) rfl rfl dX3_weight_69 ?_
          refine g_aload_n hC hl dX3_weight_72 rfl rfl ?_
          refine g_get (ci := 3) (k := 5) hC hO rfl inX3 (by decide) q_fl_RX3_104 (nn_lt (Nat.le_of_ble_eq_true rfl)) rfl rfl dX3_weight_73 ?_
          refine lv_ldc2 hC.1 hC.2.1 hC.2.2.2.1 (hC.2.2.2.2.1 _ q_kl_RX3_108) dX3_weight_76 ?_
          refine lv_ladd hC.1 hC.2.1 dX3_weight_79 ?_
          refine g_cVv1 hC hO hl (ci := 0) rfl (nn_lt (Nat.le_of_ble_eq_true rfl)) rfl (c_X0_add l κ _ n (by exact hn) hn2 _) mi_X0_add q_ml_RX3_110 rfl rfl ⟨Nat.le_of_ble_eq_true rfl, Nat.le_of_ble_eq_true rfl⟩ (Nat.le_of_ble_eq_true rfl) ⟨Nat.zero_le _, Nat.zero_le _⟩ dX3_weight_80 (fun σ1 F th H locs hr hO => ?_)
          rw [noteS_eq (by exact hn) hn2] at hr
          subst hr
          refine lv_iconst (v := 0) hC.1 hC.2.1 dX3_weight_83 (by decide) ?_
          exact g_iret hC hO dX3_weight_84 (by unfold xWeight; simp only [c_1, c_2, c_3, hq2, if_true, if_false, not_false_eq_true, reduceIte, not_true_eq_false]; rfl)
        · skip
          rw [lg_cmp_gt] at c_3
          refine lv_iconst (v := 1) hC.1 hC.2.1 dX3_weight_56 (by decide) ?_
          exact g_iret hC hO dX3_weight_57 (by unfold xWeight; simp only [c_1, c_2, c_3, hq2, if_true, if_false, not_false_eq_true, reduceIte, not_true_eq_false])
      · skip
        rw [lg_cmp_le] at c_2
        refine lv_bipush (v := (-12)) hC.1 hC.2.1 dX3_weight_29 (by decide) ?_
        exact g_iret hC hO dX3_weight_31 (by unfold xWeight; simp only [c_1, c_2, hq2, if_true, if_false, not_false_eq_true, reduceIte, not_true_eq_false])

set_option maxHeartbeats 4000000 in
set_option maxRecDepth 100000 in
/-- BagRows.document -/
theorem c_X3_document (l : Launch) (κ : KK) (σ : ST) (p0 p1 : Int32) : Met l yX3_document (wA yX3_document cX3_document 4 (some .int)) ({ frames := 1, cells := 0, slots := 0, locals := 22 }) (va_Pc [.ref (kad κ 0), .int p0, .int p1] (WX κ σ)) (va_Qi (fun r σ' => σ = σ' ∧ r = xDocument σ p0 p1) (WX κ) (FA κ)) 0 0 (FA κ) := by
  refine g_met 1 (by decide) rfl (Nat.le_of_ble_eq_true rfl) ?_
  intro p e s m args below meth c hC F th hO ls hl
  have hl : LL ls 4 [some _, some _, some _, none] := hl
  refine g_aload_n hC hl dX3_document_0 rfl rfl ?_
  refine g_iload_n hC hl dX3_document_1 rfl rfl ?_
  refine g_cVq1 hC hO hl (ci := 3) rfl (nn_lt (Nat.le_of_ble_eq_true rfl)) rfl (c_X3_receptacleOf l κ _ _) mi_X3_receptacleOf q_ml_RX3_36 rfl rfl ⟨Nat.le_of_ble_eq_true rfl, Nat.le_of_ble_eq_true rfl⟩ (Nat.le_of_ble_eq_true rfl) ⟨Nat.zero_le _, Nat.zero_le _⟩ dX3_document_2 (fun r σ1 F th H locs hr hO => ?_)
  obtain ⟨rfl, hr⟩ := hr
  rcases hr with ⟨rfl, hq2⟩ | ⟨k, hq2, rfl⟩
  · skip
    refine g_astore_nN hC hl dX3_document_5 rfl (Nat.le_of_ble_eq_true rfl) rfl (fun ls hl => ?_)
    have hl : LL ls 4 [some _, some _, some _, some _] := hl
    refine g_aload_nN hC hl dX3_document_6 rfl rfl ?_
    refine lv_ifnonnullN hC.1 hC.2.1 dX3_document_7 ?_
    refine lv_bipush (v := (-11)) hC.1 hC.2.1 dX3_document_10 (by decide) ?_
    refine lv_goto (tgt := 23) hC.1 hC.2.1 dX3_document_12 (by decide) ?_
    exact g_iret hC hO dX3_document_23 (⟨rfl, by unfold xDocument; simp [hq2]⟩)
  · have hk := recOf_lt hq2
    refine g_astore_n hC hl dX3_document_5 rfl (Nat.le_of_ble_eq_true rfl) rfl (fun ls hl => ?_)
    have hl : LL ls 4 [some _, some _, some _, some _] := hl
    refine g_aload_n hC hl dX3_document_6 rfl rfl ?_
    refine lv_ifnonnull (tgt := 15) hC.1 hC.2.1 dX3_document_7 (by decide) ?_
    refine g_aload_n hC hl dX3_document_15 rfl rfl ?_
    refine g_get (ci := 1) (k := 6) hC hO rfl inX1 (by decide) q_fl_RX3_86 (nn_rb hk) (sh_rec _ _ _ _ _) rfl dX3_document_16 ?_
    refine g_iload_n hC hl dX3_document_19 rfl rfl ?_
    refine g_cVi1 hC hO hl (ci := 2) rfl (nn_rc hk (by decide)) (sh_row _ _ _ _ _ (by decide)) (c_X2_at l κ _ (k) (1) (by exact hk) (by decide) _) mi_X2_at q_ml_RX3_137 rfl rfl ⟨Nat.le_of_ble_eq_true rfl, Nat.le_of_ble_eq_true rfl⟩ (Nat.le_of_ble_eq_true rfl) ⟨Nat.zero_le _, Nat.zero_le _⟩ dX3_document_20 (fun r σ1 F th H locs hr hO => ?_)
    obtain ⟨rfl, rfl⟩ := hr
    exact g_iret hC hO dX3_document_23 (⟨rfl, by unfold xDocument; simp [hq2]⟩)

set_option maxHeartbeats 4000000 in
set_option maxRecDepth 100000 in
/-- BagRows.move -/
theorem c_X3_move (l : Launch) (κ : KK) (σ : ST) (p0 p1 : Int32) : Met l yX3_move (wA yX3_move cX3_move 4 (some .int)) ({ frames := 3, cells := 0, slots := 0, locals := 69 }) (va_Pc [.ref (kad κ 0), .int p0, .int p1] (WX κ σ)) (va_Qi (fun r σ' => (r, σ') = xMove σ p0 p1) (WX κ) (FA κ)) 0 0 (FA κ) := by
  refine g_met 1 (by decide) rfl (Nat.le_of_ble_eq_true rfl) ?_
  intro p e s m args below meth c hC F th hO ls hl
  have hl : LL ls 4 [some _, some _, some _, none] := hl
  refine g_aload_n hC hl dX3_move_0 rfl rfl ?_
  refine g_iload_n hC hl dX3_move_1 rfl rfl ?_
  refine g_cVq1 hC hO hl (ci := 3) rfl (nn_lt (Nat.le_of_ble_eq_true rfl)) rfl (c_X3_receptacleOf l κ _ _) mi_X3_receptacleOf q_ml_RX3_36 rfl rfl ⟨Nat.le_of_ble_eq_true rfl, Nat.le_of_ble_eq_true rfl⟩ (Nat.le_of_ble_eq_true rfl) ⟨Nat.zero_le _, Nat.zero_le _⟩ dX3_move_2 (fun r σ1 F th H locs hr hO => ?_)
  obtain ⟨rfl, hr⟩ := hr
  rcases hr with ⟨rfl, hq2⟩ | ⟨k, hq2, rfl⟩
  · skip
    refine g_astore_nN hC hl dX3_move_5 rfl (Nat.le_of_ble_eq_true rfl) rfl (fun ls hl => ?_)
    have hl : LL ls 4 [some _, some _, some _, some _] := hl
    refine g_aload_nN hC hl dX3_move_6 rfl rfl ?_
    refine lv_ifnonnullN hC.1 hC.2.1 dX3_move_7 ?_
    refine lv_bipush (v := (-11)) hC.1 hC.2.1 dX3_move_10 (by decide) ?_
    exact g_iret hC hO dX3_move_12 (by unfold xMove; simp [hq2, sN_setOwn])
  · have hk := recOf_lt hq2
    refine g_astore_n hC hl dX3_move_5 rfl (Nat.le_of_ble_eq_true rfl) rfl (fun ls hl => ?_)
    have hl : LL ls 4 [some _, some _, some _, some _] := hl
    refine g_aload_n hC hl dX3_move_6 rfl rfl ?_
    refine lv_ifnonnull (tgt := 13) hC.1 hC.2.1 dX3_move_7 (by decide) ?_
    refine g_iload_n hC hl dX3_move_13 rfl rfl ?_
    refine lv_if_lt (tgt := 23) hC.1 hC.2.1 dX3_move_14 (by decide) (fun c_1 => ?_) (fun c_1 => ?_)
    · skip
      refine lv_bipush (v := (-12)) hC.1 hC.2.1 dX3_move_23 (by decide) ?_
      exact g_iret hC hO dX3_move_25 (by unfold xMove; simp [c_1, hq2, sN_setOwn])
    · skip
      refine g_iload_n hC hl dX3_move_17 rfl rfl ?_
      refine lv_bipush (v := 9) hC.1 hC.2.1 dX3_move_18 (by decide) ?_
      refine lv_icmp_le (tgt := 26) hC.1 hC.2.1 dX3_move_20 (by decide) (fun c_2 => ?_) (fun c_2 => ?_)
      · skip
        refine g_aload_n hC hl dX3_move_26 rfl rfl ?_
        refine g_get (ci := 1) (k := 1) hC hO rfl inX1 (by decide) q_fl_RX3_93 (nn_rb hk) (sh_rec _ _ _ _ _) rfl dX3_move_27 ?_
        refine lv_if_eq (tgt := 41) hC.1 hC.2.1 dX3_move_30 (by decide) (fun c_3 => ?_) (fun c_3 => ?_)
        · skip
          refine lv_bipush (v := (-13)) hC.1 hC.2.1 dX3_move_41 (by decide) ?_
          exact g_iret hC hO dX3_move_43 (by unfold xMove; simp [c_1, c_2, c_3, hq2, sN_setOwn])
        · skip
          refine g_aload_n hC hl dX3_move_33 rfl rfl ?_
          refine g_iload_n hC hl dX3_move_34 rfl rfl ?_
          refine g_cVi1 hC hO hl (ci := 3) rfl (nn_lt (Nat.le_of_ble_eq_true rfl)) rfl (c_X3_holderOf l κ _ _) mi_X3_holderOf q_ml_RX3_47 rfl rfl ⟨Nat.le_of_ble_eq_true rfl, Nat.le_of_ble_eq_true rfl⟩ (Nat.le_of_ble_eq_true rfl) ⟨Nat.zero_le _, Nat.zero_le _⟩ dX3_move_35 (fun r σ1 F th H locs hr hO => ?_)
          obtain ⟨rfl, rfl⟩ := hr
          refine lv_if_eq (tgt := 44) hC.1 hC.2.1 dX3_move_38 (by decide) (fun c_4 => ?_) (fun c_4 => ?_)
          · skip
            refine g_aload_n hC hl dX3_move_44 rfl rfl ?_
            refine g_iload_n hC hl dX3_move_45 rfl rfl ?_
            refine g_iload_n hC hl dX3_move_46 rfl rfl ?_
            refine g_cVv2 hC hO hl (ci := 3) rfl (nn_lt (Nat.le_of_ble_eq_true rfl)) rfl (c_X3_setOwnPlace l κ _ _ _) mi_X3_setOwnPlace q_ml_RX3_160 rfl rfl ⟨Nat.le_of_ble_eq_true rfl, Nat.le_of_ble_eq_true rfl⟩ (Nat.le_of_ble_eq_true rfl) ⟨Nat.zero_le _, Nat.zero_le _⟩ dX3_move_47 (fun σ1 F th H locs hr hO => ?_)
            subst hr
            refine g_aload_n hC hl dX3_move_50 rfl rfl ?_
            refine g_iload_n hC hl dX3_move_51 rfl rfl ?_
            refine g_cVi1 hC hO hl (ci := 3) rfl (nn_lt (Nat.le_of_ble_eq_true rfl)) rfl (c_X3_thingsOf l κ _ _) mi_X3_thingsOf q_ml_RX3_164 rfl rfl ⟨Nat.le_of_ble_eq_true rfl, Nat.le_of_ble_eq_true rfl⟩ (Nat.le_of_ble_eq_true rfl) ⟨Nat.zero_le _, Nat.zero_le _⟩ dX3_move_52 (fun r σ1 F th H locs hr hO => ?_)
            obtain ⟨rfl, rfl⟩ := hr
            exact g_iret hC hO dX3_move_55 (by unfold xMove; simp [c_1, c_2, c_3, c_4, hq2, sN_setOwn])
          · skip
            refine lv_bipush (v := (-13)) hC.1 hC.2.1 dX3_move_41 (by decide) ?_
            exact g_iret hC hO dX3_move_43 (by unfold xMove; simp [c_1, c_2, c_3, c_4, hq2, sN_setOwn])
      · skip
        refine lv_bipush (v := (-12)) hC.1 hC.2.1 dX3_move_23 (by decide) ?_
        exact g_iret hC hO dX3_move_25 (by unfold xMove; simp [c_1, c_2, hq2, sN_setOwn])

set_option maxHeartbeats 4000000 in
set_option maxRecDepth 100000 in
/-- BagRows.place -/
theorem c_X3_place (l : Launch) (κ : KK) (σ : ST) (p0 : Int32) : Met l yX3_place (wA yX3_place cX3_place 2 (some .int)) ({ frames := 2, cells := 0, slots := 0, locals := 44 }) (va_Pc [.ref (kad κ 0), .int p0] (WX κ σ)) (va_Qi (fun r σ' => σ = σ' ∧ r = xPlace σ p0) (WX κ) (FA κ)) 0 0 (FA κ) := by
  refine g_met 0 (by decide) rfl (Nat.le_of_ble_eq_true rfl) ?_
  intro p e s m args below meth c hC F th hO ls hl
  have hl : LL ls 2 [some _, some _] := hl
  refine g_aload_n hC hl dX3_place_0 rfl rfl ?_
  refine g_iload_n hC hl dX3_place_1 rfl rfl ?_
  refine g_cVi1 hC hO hl (ci := 3) rfl (nn_lt (Nat.le_of_ble_eq_true rfl)) rfl (c_X3_isThing l κ _ _) mi_X3_isThing q_ml_RX3_40 rfl rfl ⟨Nat.le_of_ble_eq_true rfl, Nat.le_of_ble_eq_true rfl⟩ (Nat.le_of_ble_eq_true rfl) ⟨Nat.zero_le _, Nat.zero_le _⟩ dX3_place_2 (fun r σ1 F th H locs hr hO => ?_)
  obtain ⟨rfl, rfl⟩ := hr
  refine lv_if_eq (tgt := 16) hC.1 hC.2.1 dX3_place_5 (by decide) (fun c_1 => ?_) (fun c_1 => ?_)
  · skip
    have c_1 := bI_z c_1
    refine lv_bipush (v := (-11)) hC.1 hC.2.1 dX3_place_16 (by decide) ?_
    exact g_iret hC hO dX3_place_18 (⟨rfl, by unfold xPlace; simp [c_1]⟩)
  · skip
    have c_1 := bI_nz c_1
    refine g_aload_n hC hl dX3_place_8 rfl rfl ?_
    refine g_iload_n hC hl dX3_place_9 rfl rfl ?_
    refine g_cVi1 hC hO hl (ci := 3) rfl (nn_lt (Nat.le_of_ble_eq_true rfl)) rfl (c_X3_placeOf l κ _ _) mi_X3_placeOf q_ml_RX3_55 rfl rfl ⟨Nat.le_of_ble_eq_true rfl, Nat.le_of_ble_eq_true rfl⟩ (Nat.le_of_ble_eq_true rfl) ⟨Nat.zero_le _, Nat.zero_le _⟩ dX3_place_10 (fun r σ1 F th H locs hr hO => ?_)
    obtain ⟨rfl, rfl⟩ := hr
    refine lv_goto (tgt := 18) hC.1 hC.2.1 dX3_place_13 (by decide) ?_
    exact g_iret hC hO dX3_place_18 (⟨rfl, by unfold xPlace; simp [c_1]⟩)

set_option maxHeartbeats 4000000 in
set_option maxRecDepth 100000 in
/-- BagRows.tick -/
theorem c_X3_tick (l : Launch) (κ : KK) (σ : ST) (n : Nat) (hn : sI σ 4 1 = nI n) (hn2 : n ≤ 512) (a : Nat) (ha : sI σ 4 2 = nI a) (ha2 : a ≤ n) (p0 : Int64) : Met l yX3_tick (wA yX3_tick cX3_tick 3 (some .int)) ({ frames := 1, cells := 0, slots := 0, locals := 24 }) (va_Pc [.ref (kad κ 0), .long p0] (WX κ σ)) (va_Qi (fun r σ' => (r, σ') = xTick σ n a p0) (WX κ) (FA κ)) 0 0 (FA κ) := by
  refine g_met 0 (by decide) rfl (Nat.le_of_ble_eq_true rfl) ?_
  intro p e s m args below meth c hC F th hO ls hl
  have hl : LL ls 3 [some _, some _, none] := hl
  refine g_lload_n hC hl dX3_tick_0 rfl rfl ?_
  refine g_aload_n hC hl dX3_tick_1 rfl rfl ?_
  refine g_get (ci := 3) (k := 5) hC hO rfl inX3 (by decide) q_fl_RX3_104 (nn_lt (Nat.le_of_ble_eq_true rfl)) rfl rfl dX3_tick_2 ?_
  refine W.lcmp hC.1 hC.2.1 dX3_tick_5 ?_
  refine lv_if_lt (tgt := 17) hC.1 hC.2.1 dX3_tick_6 (by decide) (fun c_1 => ?_) (fun c_1 => ?_)
  · skip
    rw [lg_cmp_lt] at c_1
    refine lv_bipush (v := (-12)) hC.1 hC.2.1 dX3_tick_17 (by decide) ?_
    exact g_iret hC hO dX3_tick_19 (by unfold xTick; simp only [c_1, if_true, if_false, not_false_eq_true, reduceIte, not_true_eq_false])
  · skip
    rw [lg_cmp_lt] at c_1
    refine g_lload_n hC hl dX3_tick_9 rfl rfl ?_
    refine lv_ldc2 hC.1 hC.2.1 hC.2.2.2.1 (hC.2.2.2.2.1 _ q_kl_RX3_167) dX3_tick_10 ?_
    refine W.lcmp hC.1 hC.2.1 dX3_tick_13 ?_
    refine lv_if_le (tgt := 20) hC.1 hC.2.1 dX3_tick_14 (by decide) (fun c_2 => ?_) (fun c_2 => ?_)
    · skip
      rw [lg_cmp_le] at c_2
      refine g_aload_n hC hl dX3_tick_20 rfl rfl ?_
      refine g_lload_n hC hl dX3_tick_21 rfl rfl ?_
      refine g_putl (ci := 3) (k := 5) hC hO rfl inX3 tyX3_ok nmX3 (by decide) q_fl_RX3_104 rfl (nn_lt (Nat.le_of_ble_eq_true rfl)) rfl (Nat.le_of_ble_eq_true rfl) rfl rfl rfl dX3_tick_22 (fun H locs hO => ?_)
      refine g_aload_n hC hl dX3_tick_25 rfl rfl ?_
      refine g_get (ci := 3) (k := 4) hC hO rfl inX3 (by decide) q_fl_RX3_25 (nn_lt (Nat.le_of_ble_eq_true rfl)) rfl rfl dX3_tick_26 ?_
      refine g_lload_n hC hl dX3_tick_29 rfl rfl ?_
      refine g_cVi1 hC hO hl (ci := 0) rfl (nn_lt (Nat.le_of_ble_eq_true rfl)) rfl (c_X0_tellUntil l κ _ n (by exact hn) hn2 a (by exact ha) ha2 _) mi_X0_tellUntil q_ml_RX3_169 rfl rfl ⟨Nat.le_of_ble_eq_true rfl, Nat.le_of_ble_eq_true rfl⟩ (Nat.le_of_ble_eq_true rfl) ⟨Nat.zero_le _, Nat.zero_le _⟩ dX3_tick_30 (fun r σ1 F th H locs hr hO => ?_)
      obtain ⟨rfl, rfl⟩ := hr
      exact g_iret hC hO dX3_tick_33 (by unfold xTick; simp only [c_1, c_2, if_true, if_false, not_false_eq_true, reduceIte, not_true_eq_false])
    · skip
      rw [lg_cmp_le] at c_2
      refine lv_bipush (v := (-12)) hC.1 hC.2.1 dX3_tick_17 (by decide) ?_
      exact g_iret hC hO dX3_tick_19 (by unfold xTick; simp only [c_1, c_2, if_true, if_false, not_false_eq_true, reduceIte, not_true_eq_false])
