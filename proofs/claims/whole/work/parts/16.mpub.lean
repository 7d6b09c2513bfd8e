set_option maxHeartbeats 4000000 in
set_option maxRecDepth 100000 in
/-- BagRowsModel.into -/
theorem c_X4_into (l : Launch) (κ : KK) (σ : ST) (hM : MB σ) (p0 p1 : Int32) : Met l yX4_into (wA yX4_into cX4_into 3 (some .int)) ({ frames := 2, cells := 0, slots := 0, locals := 44 }) (va_Pc [.ref (kad κ 6), .int p0, .int p1] (WX κ σ)) (va_Qi (fun r σ' => (r, σ') = mInto σ p0 p1) (WX κ) (FA κ)) 0 0 (FA κ) := by
  refine g_met 0 (by decide) rfl (Nat.le_of_ble_eq_true rfl) ?_
  intro p e s m args below meth c hC F th hO ls hl
  have hl : LL ls 3 [some _, some _, some _] := hl
  have h60 := hM.2.1
  refine g_aload_n hC hl dX4_into_0 rfl rfl ?_
  refine lv_iconst (v := 0) hC.1 hC.2.1 dX4_into_1 (by decide) ?_
  refine g_putT hC hO q_fl_RX4_69 dX4_into_2 (fun H locs hO => ?_)
  refine g_aload_n hC hl dX4_into_5 rfl rfl ?_
  refine g_iload_n hC hl dX4_into_6 rfl rfl ?_
  refine g_cVi1 hC hO hl (ci := 4) rfl (nn_lt (Nat.le_of_ble_eq_true rfl)) rfl (c_X4_isBag l κ _ (by first | exact hM | exact hM.upA 9 _ (by decide) (by decide) (by decide)) _) mi_X4_isBag q_ml_RX4_76 rfl rfl ⟨Nat.le_of_ble_eq_true rfl, Nat.le_of_ble_eq_true rfl⟩ (Nat.le_of_ble_eq_true rfl) ⟨Nat.zero_le _, Nat.zero_le _⟩ dX4_into_7 (fun r σ1 F th H locs hr hO => ?_)
  obtain ⟨rfl, rfl⟩ := hr
  refine lv_if_eq (tgt := 21) hC.1 hC.2.1 dX4_into_10 (by decide) (fun c_1 => ?_) (fun c_1 => ?_)
  · skip
    have c_1 := bI_z c_1
    have hq := recOf_no c_1
    refine lv_bipush (v := (-11)) hC.1 hC.2.1 dX4_into_21 (by decide) ?_
    exact g_iret hC hO dX4_into_23 (by unfold mInto; simp [hq])
  · skip
    have c_1 := bI_nz c_1
    obtain ⟨k, hq, hk, rfl⟩ := recOf_isSome c_1
    have hbt := thing_bag hq
    have ck : (nI k).toNatClampNeg = k := nI_clamp (by omega)
    have cb : (nI (1001 + k)).toNatClampNeg = 1001 + k := nI_clamp (by omega)
    refine g_aload_n hC hl dX4_into_13 rfl rfl ?_
    refine g_iload_n hC hl dX4_into_14 rfl rfl ?_
    refine g_cVi1 hC hO hl (ci := 4) rfl (nn_lt (Nat.le_of_ble_eq_true rfl)) rfl (c_X4_isThing l κ _ (by first | exact hM | exact hM.upA 9 _ (by decide) (by decide) (by decide)) _) mi_X4_isThing q_ml_RX4_95 rfl rfl ⟨Nat.le_of_ble_eq_true rfl, Nat.le_of_ble_eq_true rfl⟩ (Nat.le_of_ble_eq_true rfl) ⟨Nat.zero_le _, Nat.zero_le _⟩ dX4_into_15 (fun r σ1 F th H locs hr hO => ?_)
    obtain ⟨rfl, rfl⟩ := hr
    refine lv_if_ne (tgt := 24) hC.1 hC.2.1 dX4_into_18 (by decide) (fun c_2 => ?_) (fun c_2 => ?_)
    · skip
      have c_2 := bI_nz c_2
      obtain ⟨t, ht1, ht2, rfl⟩ := thing_ex c_2 h60
      have hth : thingB σ (nI t) = true := c_2
      have hcl : (nI t).toNatClampNeg = t := nI_clamp (by omega)
      refine g_aload_n hC hl dX4_into_24 rfl rfl ?_
      refine g_get (ci := 4) (k := 7) hC hO rfl inX4 (by decide) q_fl_RX4_22 (nn_lt (Nat.le_of_ble_eq_true rfl)) rfl rfl dX4_into_25 ?_
      refine g_iload_n hC hl dX4_into_28 rfl rfl ?_
      refine lv_sipush (v := 1001) hC.1 hC.2.1 dX4_into_29 (by decide) ?_
      refine lv_isub hC.1 hC.2.1 dX4_into_32 ?_
      rw [sub1001 (by omega)]
      refine g_zald hC hO (nn_lt (Nat.le_of_ble_eq_true rfl)) rfl (vp_in_nI (by omega) (by omega)) dX4_into_33 ?_
      refine lv_if_ne (tgt := 87) hC.1 hC.2.1 dX4_into_34 (by decide) (fun c_3 => ?_) (fun c_3 => ?_)
      · skip
        rw [ck] at c_3
        refine lv_bipush (v := (-13)) hC.1 hC.2.1 dX4_into_87 (by decide) ?_
        exact g_iret hC hO dX4_into_89 (by unfold mInto; simp [hq, hth, hcl, c_3])
      · skip
        rw [ck] at c_3
        refine g_aload_n hC hl dX4_into_37 rfl rfl ?_
        refine g_iload_n hC hl dX4_into_38 rfl rfl ?_
        refine g_cVi1 hC hO hl (ci := 4) rfl (nn_lt (Nat.le_of_ble_eq_true rfl)) rfl (c_X4_isShutIn l κ _ (by first | exact hM | exact hM.upA 9 _ (by decide) (by decide) (by decide)) (1001 + k) (by omega)) mi_X4_isShutIn q_ml_RX4_98 rfl rfl ⟨Nat.le_of_ble_eq_true rfl, Nat.le_of_ble_eq_true rfl⟩ (Nat.le_of_ble_eq_true rfl) ⟨Nat.zero_le _, Nat.zero_le _⟩ dX4_into_39 (fun r σ1 F th H locs hr hO => ?_)
        obtain ⟨rfl, rfl⟩ := hr
        refine lv_if_ne (tgt := 87) hC.1 hC.2.1 dX4_into_42 (by decide) (fun c_4 => ?_) (fun c_4 => ?_)
        · skip
          have c_4 := bI_nz c_4
          refine lv_bipush (v := (-13)) hC.1 hC.2.1 dX4_into_87 (by decide) ?_
          exact g_iret hC hO dX4_into_89 (by unfold mInto; simp [hq, hth, hcl, c_3, c_4])
        · skip
          have c_4 := bI_z c_4
          refine g_aload_n hC hl dX4_into_45 rfl rfl ?_
          refine g_get (ci := 4) (k := 1) hC hO rfl inX4 (by decide) q_fl_RX4_7 (nn_lt (Nat.le_of_ble_eq_true rfl)) rfl rfl dX4_into_46 ?_
          refine g_iload_n hC hl dX4_into_49 rfl rfl ?_
          refine g_iald hC hO (nn_lt (Nat.le_of_ble_eq_true rfl)) rfl (vp_in_nI (by omega) (by omega)) dX4_into_50 ?_
          refine lv_if_ne (tgt := 87) hC.1 hC.2.1 dX4_into_51 (by decide) (fun c_5 => ?_) (fun c_5 => ?_)
          · skip
            rw [hcl] at c_5
            refine lv_bipush (v := (-13)) hC.1 hC.2.1 dX4_into_87 (by decide) ?_
            exact g_iret hC hO dX4_into_89 (by unfold mInto; simp [hq, hth, hcl, c_3, c_4, c_5])
          · skip
            rw [hcl] at c_5
            refine g_iload_n hC hl dX4_into_54 rfl rfl ?_
            refine g_iload_n hC hl dX4_into_55 rfl rfl ?_
            refine lv_icmp_eq (tgt := 87) hC.1 hC.2.1 dX4_into_56 (by decide) (fun c_6 => ?_) (fun c_6 => ?_)
            · skip
              have h56 := c_6
              refine lv_bipush (v := (-13)) hC.1 hC.2.1 dX4_into_87 (by decide) ?_
              exact g_iret hC hO dX4_into_89 (by unfold mInto; simp [hq, hth, hcl, c_3, c_4, c_5, h56, hbt])
            · skip
              refine g_aload_n hC hl dX4_into_59 rfl rfl ?_
              refine g_iload_n hC hl dX4_into_60 rfl rfl ?_
              refine g_cVi1 hC hO hl (ci := 4) rfl (nn_lt (Nat.le_of_ble_eq_true rfl)) rfl (c_X4_kindOf l κ _ (by first | exact hM | exact hM.upA 9 _ (by decide) (by decide) (by decide)) _ (by exact hth)) mi_X4_kindOf q_ml_RX4_101 rfl rfl ⟨Nat.le_of_ble_eq_true rfl, Nat.le_of_ble_eq_true rfl⟩ (Nat.le_of_ble_eq_true rfl) ⟨Nat.zero_le _, Nat.zero_le _⟩ dX4_into_61 (fun r σ1 F th H locs hr hO => ?_)
              obtain ⟨rfl, rfl⟩ := hr
              refine g_aload_n hC hl dX4_into_64 rfl rfl ?_
              refine g_iload_n hC hl dX4_into_65 rfl rfl ?_
              refine g_cVi1 hC hO hl (ci := 4) rfl (nn_lt (Nat.le_of_ble_eq_true rfl)) rfl (c_X4_kindOf l κ _ (by first | exact hM | exact hM.upA 9 _ (by decide) (by decide) (by decide)) _ (by exact hbt)) mi_X4_kindOf q_ml_RX4_101 rfl rfl ⟨Nat.le_of_ble_eq_true rfl, Nat.le_of_ble_eq_true rfl⟩ (Nat.le_of_ble_eq_true rfl) ⟨Nat.zero_le _, Nat.zero_le _⟩ dX4_into_66 (fun r σ1 F th H locs hr hO => ?_)
              obtain ⟨rfl, rfl⟩ := hr
              refine lv_icmp_ge (tgt := 87) hC.1 hC.2.1 dX4_into_69 (by decide) (fun c_7 => ?_) (fun c_7 => ?_)
              · skip
                refine lv_bipush (v := (-13)) hC.1 hC.2.1 dX4_into_87 (by decide) ?_
                exact g_iret hC hO dX4_into_89 (by unfold mInto; simp [hq, hth, hcl, c_3, c_4, c_5, c_6, c_7])
              · skip
                refine g_aload_n hC hl dX4_into_72 rfl rfl ?_
                refine g_get (ci := 4) (k := 3) hC hO rfl inX4 (by decide) q_fl_RX4_16 (nn_lt (Nat.le_of_ble_eq_true rfl)) rfl rfl dX4_into_73 ?_
                refine g_iload_n hC hl dX4_into_76 rfl rfl ?_
                refine g_iald hC hO (nn_lt (Nat.le_of_ble_eq_true rfl)) rfl (vp_in_nI (by omega) (by omega)) dX4_into_77 ?_
                refine g_aload_n hC hl dX4_into_78 rfl rfl ?_
                refine g_get (ci := 4) (k := 3) hC hO rfl inX4 (by decide) q_fl_RX4_16 (nn_lt (Nat.le_of_ble_eq_true rfl)) rfl rfl dX4_into_79 ?_
                refine g_iload_n hC hl dX4_into_82 rfl rfl ?_
                refine g_iald hC hO (nn_lt (Nat.le_of_ble_eq_true rfl)) rfl (vp_in_nI (by omega) (by omega)) dX4_into_83 ?_
                refine lv_icmp_eq (tgt := 90) hC.1 hC.2.1 dX4_into_84 (by decide) (fun c_8 => ?_) (fun c_8 => ?_)
                · skip
                  rw [hcl, cb] at c_8
                  refine g_aload_n hC hl dX4_into_90 rfl rfl ?_
                  refine g_iload_n hC hl dX4_into_91 rfl rfl ?_
                  refine g_cVi1 hC hO hl (ci := 4) rfl (nn_lt (Nat.le_of_ble_eq_true rfl)) rfl (c_X4_count l κ _ _) mi_X4_count q_ml_RX4_104 rfl rfl ⟨Nat.le_of_ble_eq_true rfl, Nat.le_of_ble_eq_true rfl⟩ (Nat.le_of_ble_eq_true rfl) ⟨Nat.zero_le _, Nat.zero_le _⟩ dX4_into_92 (fun r σ1 F th H locs hr hO => ?_)
                  obtain ⟨rfl, rfl⟩ := hr
                  refine lv_bipush (v := 12) hC.1 hC.2.1 dX4_into_95 (by decide) ?_
                  refine lv_icmp_ne (tgt := 103) hC.1 hC.2.1 dX4_into_97 (by decide) (fun c_9 => ?_) (fun c_9 => ?_)
                  · skip
                    have hc9 := cntN_le σ (nI (1001 + k)) 1061
                    rw [show (12 : Int32) = nI 12 from rfl, nI_eq (by omega) (by omega)] at c_9
                    refine g_aload_n hC hl dX4_into_103 rfl rfl ?_
                    refine g_iload_n hC hl dX4_into_104 rfl rfl ?_
                    refine g_iload_n hC hl dX4_into_105 rfl rfl ?_
                    refine g_cVv2 hC hO hl (ci := 4) rfl (nn_lt (Nat.le_of_ble_eq_true rfl)) rfl (c_X4_put l κ _ t (by omega) _) mi_X4_put q_ml_RX4_107 rfl rfl ⟨Nat.le_of_ble_eq_true rfl, Nat.le_of_ble_eq_true rfl⟩ (Nat.le_of_ble_eq_true rfl) ⟨Nat.zero_le _, Nat.zero_le _⟩ dX4_into_106 (fun σ1 F th H locs hr hO => ?_)
                    subst hr
                    refine lv_iconst (v := 1) hC.1 hC.2.1 dX4_into_109 (by decide) ?_
                    exact g_iret hC hO dX4_into_110 (by unfold mInto; simp [hq, hth, hcl, c_3, c_4, c_5, c_6, c_7, c_8, c_9])
                  · skip
                    have hc9 := cntN_le σ (nI (1001 + k)) 1061
                    rw [show (12 : Int32) = nI 12 from rfl, nI_eq (by omega) (by omega)] at c_9
                    refine lv_bipush (v := (-14)) hC.1 hC.2.1 dX4_into_100 (by decide) ?_
                    exact g_iret hC hO dX4_into_102 (by unfold mInto; simp [hq, hth, hcl, c_3, c_4, c_5, c_6, c_7, c_8, c_9])
                · skip
                  rw [hcl, cb] at c_8
                  refine lv_bipush (v := (-13)) hC.1 hC.2.1 dX4_into_87 (by decide) ?_
                  exact g_iret hC hO dX4_into_89 (by unfold mInto; simp [hq, hth, hcl, c_3, c_4, c_5, c_6, c_7, c_8])
    · skip
      have c_2 := bI_z c_2
      have hth := c_2
      refine lv_bipush (v := (-11)) hC.1 hC.2.1 dX4_into_21 (by decide) ?_
      exact g_iret hC hO dX4_into_23 (by unfold mInto; simp [hq, hth])

set_option maxHeartbeats 4000000 in
set_option maxRecDepth 100000 in
/-- BagRowsModel.take -/
theorem c_X4_take (l : Launch) (κ : KK) (σ : ST) (hM : MB σ) (p0 : Int32) : Met l yX4_take (wA yX4_take cX4_take 3 (some .int)) ({ frames := 2, cells := 0, slots := 0, locals := 44 }) (va_Pc [.ref (kad κ 6), .int p0] (WX κ σ)) (va_Qi (fun r σ' => (r, σ') = mTake σ p0) (WX κ) (FA κ)) 0 0 (FA κ) := by
  refine g_met 1 (by decide) rfl (Nat.le_of_ble_eq_true rfl) ?_
  intro p e s m args below meth c hC F th hO ls hl
  have hl : LL ls 3 [some _, some _, none] := hl
  have h60 := hM.2.1
  refine g_aload_n hC hl dX4_take_0 rfl rfl ?_
  refine lv_iconst (v := 0) hC.1 hC.2.1 dX4_take_1 (by decide) ?_
  refine g_putT hC hO q_fl_RX4_69 dX4_take_2 (fun H locs hO => ?_)
  refine g_aload_n hC hl dX4_take_5 rfl rfl ?_
  refine g_iload_n hC hl dX4_take_6 rfl rfl ?_
  refine g_cVi1 hC hO hl (ci := 4) rfl (nn_lt (Nat.le_of_ble_eq_true rfl)) rfl (c_X4_isThing l κ _ (by first | exact hM | exact hM.upA 9 _ (by decide) (by decide) (by decide)) _) mi_X4_isThing q_ml_RX4_95 rfl rfl ⟨Nat.le_of_ble_eq_true rfl, Nat.le_of_ble_eq_true rfl⟩ (Nat.le_of_ble_eq_true rfl) ⟨Nat.zero_le _, Nat.zero_le _⟩ dX4_take_7 (fun r σ1 F th H locs hr hO => ?_)
  obtain ⟨rfl, rfl⟩ := hr
  refine lv_if_ne (tgt := 16) hC.1 hC.2.1 dX4_take_10 (by decide) (fun c_1 => ?_) (fun c_1 => ?_)
  · skip
    have c_1 := bI_nz c_1
    obtain ⟨t, ht1, ht2, rfl⟩ := thing_ex c_1 h60
    have hth : thingB σ (nI t) = true := c_1
    have hcl : (nI t).toNatClampNeg = t := nI_clamp (by omega)
    refine g_aload_n hC hl dX4_take_16 rfl rfl ?_
    refine g_get (ci := 4) (k := 1) hC hO rfl inX4 (by decide) q_fl_RX4_7 (nn_lt (Nat.le_of_ble_eq_true rfl)) rfl rfl dX4_take_17 ?_
    refine g_iload_n hC hl dX4_take_20 rfl rfl ?_
    refine g_iald hC hO (nn_lt (Nat.le_of_ble_eq_true rfl)) rfl (vp_in_nI (by omega) (by omega)) dX4_take_21 ?_
    refine lv_if_eq (tgt := 33) hC.1 hC.2.1 dX4_take_22 (by decide) (fun c_2 => ?_) (fun c_2 => ?_)
    · skip
      rw [hcl] at c_2
      refine lv_bipush (v := (-13)) hC.1 hC.2.1 dX4_take_33 (by decide) ?_
      exact g_iret hC hO dX4_take_35 (by unfold mTake; simp [hth, hcl, c_2])
    · skip
      rw [hcl] at c_2
      refine g_aload_n hC hl dX4_take_25 rfl rfl ?_
      refine g_iload_n hC hl dX4_take_26 rfl rfl ?_
      refine g_cVi1 hC hO hl (ci := 4) rfl (nn_lt (Nat.le_of_ble_eq_true rfl)) rfl (c_X4_isShutIn l κ _ (by first | exact hM | exact hM.upA 9 _ (by decide) (by decide) (by decide)) t (by omega)) mi_X4_isShutIn q_ml_RX4_98 rfl rfl ⟨Nat.le_of_ble_eq_true rfl, Nat.le_of_ble_eq_true rfl⟩ (Nat.le_of_ble_eq_true rfl) ⟨Nat.zero_le _, Nat.zero_le _⟩ dX4_take_27 (fun r σ1 F th H locs hr hO => ?_)
      obtain ⟨rfl, rfl⟩ := hr
      refine lv_if_eq (tgt := 36) hC.1 hC.2.1 dX4_take_30 (by decide) (fun c_3 => ?_) (fun c_3 => ?_)
      · skip
        have c_3 := bI_z c_3
        refine g_aload_n hC hl dX4_take_36 rfl rfl ?_
        refine g_get (ci := 4) (k := 1) hC hO rfl inX4 (by decide) q_fl_RX4_7 (nn_lt (Nat.le_of_ble_eq_true rfl)) rfl rfl dX4_take_37 ?_
        refine g_iload_n hC hl dX4_take_40 rfl rfl ?_
        refine g_iald hC hO (nn_lt (Nat.le_of_ble_eq_true rfl)) rfl (vp_in_nI (by omega) (by omega)) dX4_take_41 ?_
        refine g_istore_n hC hl dX4_take_42 rfl (Nat.le_of_ble_eq_true rfl) rfl (fun ls hl => ?_)
        have hl : LL ls 3 [some _, some _, some _] := hl
        refine g_aload_n hC hl dX4_take_43 rfl rfl ?_
        refine g_get (ci := 4) (k := 1) hC hO rfl inX4 (by decide) q_fl_RX4_7 (nn_lt (Nat.le_of_ble_eq_true rfl)) rfl rfl dX4_take_44 ?_
        refine g_iload_n hC hl dX4_take_47 rfl rfl ?_
        refine lv_iconst (v := 0) hC.1 hC.2.1 dX4_take_48 (by decide) ?_
        refine g_iast hC hO (nn_lt (Nat.le_of_ble_eq_true rfl)) (fun _ _ => rfl) (vp_in_nI (by omega) (by omega)) dX4_take_49 (fun H locs hO => ?_)
        rw [hcl] at hO
        refine g_iload_n hC hl dX4_take_50 rfl rfl ?_
        exact g_iret hC hO dX4_take_51 (by unfold mTake; simp [hth, hcl, c_2, c_3])
      · skip
        have c_3 := bI_nz c_3
        refine lv_bipush (v := (-13)) hC.1 hC.2.1 dX4_take_33 (by decide) ?_
        exact g_iret hC hO dX4_take_35 (by unfold mTake; simp [hth, hcl, c_2, c_3])
  · skip
    have c_1 := bI_z c_1
    have hth := c_1
    refine lv_bipush (v := (-11)) hC.1 hC.2.1 dX4_take_13 (by decide) ?_
    exact g_iret hC hO dX4_take_15 (by unfold mTake; simp [hth])

set_option maxHeartbeats 4000000 in
set_option maxRecDepth 100000 in
/-- BagRowsModel.open -/
theorem c_X4_open (l : Launch) (κ : KK) (σ : ST) (hM : MB σ) (n : Nat) (hn : sI σ 6 21 = nI n) (hn2 : n < 2000) (p0 : Int32) (p1 : Int64) (p2 p3 : Int32) : Met l yX4_open (wA yX4_open cX4_open 9 (some .int)) ({ frames := 2, cells := 0, slots := 0, locals := 44 }) (va_Pc [.ref (kad κ 6), .int p0, .long p1, .int p2, .int p3] (WX κ σ)) (va_Qi (fun r σ' => (r, σ') = mOpen σ p0 p1 p2 p3) (WX κ) (FA κ)) 0 0 (FA κ) := by
  refine g_met 3 (by decide) rfl (Nat.le_of_ble_eq_true rfl) ?_
  intro p e s m args below meth c hC F th hO ls hl
  have hl : LL ls 9 [some _, some _, some _, none, some _, some _, none, none, none] := hl
  have h60 := hM.2.1
  have loop183 : ∀ (k : Nat), k < 60 → (∀ (F : Nat → Nat → Int32) (th : Int32) (H : Heap) (locs : List Loc), OS κ s.heap (mUns σ k p1) F th H locs → ∀ ls : Array Slot, LL ls 9 [some (.ref (kad κ 6)), some (.int (nI (1001 + k))), some (.long p1), none, some (.int p2), some (.int p3), some (.int (nI k)), none, none] → W p l e ({ frames := 2, cells := 0, slots := 0, locals := 44 } : Room) s m args below meth c H locs 0 0 (MQ below (va_Qi (fun r σ' => (r, σ') = mOpen σ p0 p1 p2 p3) (WX κ) (FA κ)) args s 0 0 (FA κ)) (F0 m 210 ls [])) → ∀ (n2 i : Nat), 13 ≤ i + n2 → i ≤ 12 → ∀ (F : Nat → Nat → Int32) (th : Int32) (H : Heap) (locs : List Loc), OS κ s.heap (upA (unsB σ k p1) 18 (clrP σ k i)) F th H locs → ∀ ls : Array Slot, LL ls 9 [some (.ref (kad κ 6)), some (.int (nI (1001 + k))), some (.long p1), none, some (.int p2), some (.int p3), some (.int (nI k)), none, some (.int (nI i))] → W p l e ({ frames := 2, cells := 0, slots := 0, locals := 44 } : Room) s m args below meth c H locs 0 0 (MQ below (va_Qi (fun r σ' => (r, σ') = mOpen σ p0 p1 p2 p3) (WX κ) (FA κ)) args s 0 0 (FA κ)) (F0 m 183 ls []) := by
    intro k hk K n2
    have ck : (nI k).toNatClampNeg = k := nI_clamp (by omega)
    induction n2 with
    | zero => intro i h1 h2; exact absurd h1 (by omega)
    | succ n2 ih =>
      intro i h1 h2 F th H locs hO ls hl
      refine g_iload hC hl dX4_open_183 rfl ?_
      refine lv_bipush (v := 12) hC.1 hC.2.1 dX4_open_185 (by decide) ?_
      refine lv_icmp_ge (tgt := 210) hC.1 hC.2.1 dX4_open_187 (by decide) (fun c_1 => ?_) (fun c_1 => ?_)
      · skip
        rw [show (12 : Int32) = nI 12 from rfl, nI_leI (by omega) (by omega)] at c_1
        have ei : i = 12 := by omega
        subst ei
        exact K _ _ _ _ hO ls (LL.drop hl 8)
      · skip
        rw [show (12 : Int32) = nI 12 from rfl, nI_leI (by omega) (by omega)] at c_1
        refine g_aload_n hC hl dX4_open_190 rfl rfl ?_
        refine g_get (ci := 4) (k := 14) hC hO rfl inX4 (by decide) q_fl_RX4_45 (nn_lt (Nat.le_of_ble_eq_true rfl)) rfl rfl dX4_open_191 ?_
        refine lv_bipush (v := 12) hC.1 hC.2.1 dX4_open_194 (by decide) ?_
        refine g_iload hC hl dX4_open_196 rfl ?_
        refine lv_imul hC.1 hC.2.1 dX4_open_198 ?_
        refine g_iload hC hl dX4_open_199 rfl ?_
        refine lv_iadd hC.1 hC.2.1 dX4_open_201 ?_
        rw [ix12]
        refine lv_iconst (v := 0) hC.1 hC.2.1 dX4_open_202 (by decide) ?_
        refine g_zast hC hO (nn_lt (Nat.le_of_ble_eq_true rfl)) (fun _ _ => rfl) (vp_in_nI (by omega) (by omega)) (by decide) dX4_open_203 (fun H locs hO => ?_)
        rw [nI_clamp (n := 12 * k + i) (by omega), upI_upA] at hO
        refine g_iinc (v := nI (i + 1)) hC hl dX4_open_204 rfl (nI_i1 i) (Nat.le_of_ble_eq_true rfl) rfl (fun ls hl => ?_)
        have hl : LL ls 9 [some _, some _, some _, none, some _, some _, some _, none, some _] := hl
        refine lv_goto (tgt := 183) hC.1 hC.2.1 dX4_open_207 (by decide) ?_
        exact ih (i + 1) (by omega) (by omega) _ _ _ _ (by rw [clrP_s]; exact hO) ls hl
  refine g_aload_n hC hl dX4_open_0 rfl rfl ?_
  refine lv_iconst (v := 0) hC.1 hC.2.1 dX4_open_1 (by decide) ?_
  refine g_putT hC hO q_fl_RX4_69 dX4_open_2 (fun H locs hO => ?_)
  refine g_aload_n hC hl dX4_open_5 rfl rfl ?_
  refine g_iload_n hC hl dX4_open_6 rfl rfl ?_
  refine g_cVi1 hC hO hl (ci := 4) rfl (nn_lt (Nat.le_of_ble_eq_true rfl)) rfl (c_X4_isBag l κ _ (by first | exact hM | exact hM.upA 9 _ (by decide) (by decide) (by decide)) _) mi_X4_isBag q_ml_RX4_76 rfl rfl ⟨Nat.le_of_ble_eq_true rfl, Nat.le_of_ble_eq_true rfl⟩ (Nat.le_of_ble_eq_true rfl) ⟨Nat.zero_le _, Nat.zero_le _⟩ dX4_open_7 (fun r σ1 F th H locs hr hO => ?_)
  obtain ⟨rfl, rfl⟩ := hr
  refine lv_if_ne (tgt := 16) hC.1 hC.2.1 dX4_open_10 (by decide) (fun c_2 => ?_) (fun c_2 => ?_)
  · skip
    have c_2 := bI_nz c_2
    obtain ⟨k, hq, hk, rfl⟩ := recOf_isSome c_2
    have hbt := thing_bag hq
    have ck : (nI k).toNatClampNeg = k := nI_clamp (by omega)
    have cb : (nI (1001 + k)).toNatClampNeg = 1001 + k := nI_clamp (by omega)
    refine g_lload_n hC hl dX4_open_16 rfl rfl ?_
    refine lv_lconst (v := 1) hC.1 hC.2.1 dX4_open_17 (by decide) ?_
    refine W.lcmp hC.1 hC.2.1 dX4_open_18 ?_
    refine lv_if_lt (tgt := 55) hC.1 hC.2.1 dX4_open_19 (by decide) (fun c_3 => ?_) (fun c_3 => ?_)
    · skip
      rw [lg_cmp_lt] at c_3
      have hs := sealB_f1 c_3
      refine lv_bipush (v := (-12)) hC.1 hC.2.1 dX4_open_55 (by decide) ?_
      exact g_iret hC hO dX4_open_57 (by unfold mOpen; simp [hq, hs])
    · skip
      rw [lg_cmp_lt] at c_3
      have hs1 := c_3
      refine g_lload_n hC hl dX4_open_22 rfl rfl ?_
      refine lv_ldc2 hC.1 hC.2.1 hC.2.2.2.1 (hC.2.2.2.2.1 _ q_kl_RX4_111) dX4_open_23 ?_
      refine W.lcmp hC.1 hC.2.1 dX4_open_26 ?_
      refine lv_if_gt (tgt := 55) hC.1 hC.2.1 dX4_open_27 (by decide) (fun c_4 => ?_) (fun c_4 => ?_)
      · skip
        rw [lg_cmp_gt] at c_4
        have hs := sealB_f2 c_4
        refine lv_bipush (v := (-12)) hC.1 hC.2.1 dX4_open_55 (by decide) ?_
        exact g_iret hC hO dX4_open_57 (by unfold mOpen; simp [hq, hs])
      · skip
        rw [lg_cmp_gt] at c_4
        have hs := sealB_t hs1 c_4
        refine g_iload hC hl dX4_open_30 rfl ?_
        refine lv_if_lt (tgt := 55) hC.1 hC.2.1 dX4_open_32 (by decide) (fun c_5 => ?_) (fun c_5 => ?_)
        · skip
          have hpp := personB_f1 c_5
          refine lv_bipush (v := (-12)) hC.1 hC.2.1 dX4_open_55 (by decide) ?_
          exact g_iret hC hO dX4_open_57 (by unfold mOpen; simp [hq, hs, hpp])
        · skip
          have hp1 := c_5
          refine g_iload hC hl dX4_open_35 rfl ?_
          refine lv_bipush (v := 49) hC.1 hC.2.1 dX4_open_37 (by decide) ?_
          refine lv_icmp_gt (tgt := 55) hC.1 hC.2.1 dX4_open_39 (by decide) (fun c_6 => ?_) (fun c_6 => ?_)
          · skip
            have hpp := personB_f2 (Int32.not_le.mpr c_6)
            refine lv_bipush (v := (-12)) hC.1 hC.2.1 dX4_open_55 (by decide) ?_
            exact g_iret hC hO dX4_open_57 (by unfold mOpen; simp [hq, hs, hpp])
          · skip
            have hpp := personB_t hp1 (Int32.not_lt.mp c_6)
            refine g_iload hC hl dX4_open_42 rfl ?_
            refine lv_iconst (v := (-1)) hC.1 hC.2.1 dX4_open_44 (by decide) ?_
            refine lv_icmp_lt (tgt := 55) hC.1 hC.2.1 dX4_open_45 (by decide) (fun c_7 => ?_) (fun c_7 => ?_)
            · skip
              have hoo := orP_f1 c_7
              refine lv_bipush (v := (-12)) hC.1 hC.2.1 dX4_open_55 (by decide) ?_
              exact g_iret hC hO dX4_open_57 (by unfold mOpen; simp [hq, hs, hpp, hoo])
            · skip
              have ho1 := c_7
              refine g_iload hC hl dX4_open_48 rfl ?_
              refine lv_bipush (v := 49) hC.1 hC.2.1 dX4_open_50 (by decide) ?_
              refine lv_icmp_le (tgt := 58) hC.1 hC.2.1 dX4_open_52 (by decide) (fun c_8 => ?_) (fun c_8 => ?_)
              · skip
                have hoo := orP_t ho1 c_8
                refine g_iload_n hC hl dX4_open_58 rfl rfl ?_
                refine lv_sipush (v := 1001) hC.1 hC.2.1 dX4_open_59 (by decide) ?_
                refine lv_isub hC.1 hC.2.1 dX4_open_62 ?_
                rw [sub1001 (by omega)]
                refine g_istore hC hl dX4_open_63 (Nat.le_of_ble_eq_true rfl) rfl (fun ls hl => ?_)
                have hl : LL ls 9 [some _, some _, some _, none, some _, some _, some _, none, none] := hl
                refine g_aload_n hC hl dX4_open_65 rfl rfl ?_
                refine g_get (ci := 4) (k := 6) hC hO rfl inX4 (by decide) q_fl_RX4_19 (nn_lt (Nat.le_of_ble_eq_true rfl)) rfl rfl dX4_open_66 ?_
                refine g_iload hC hl dX4_open_69 rfl ?_
                refine g_iald hC hO (nn_lt (Nat.le_of_ble_eq_true rfl)) rfl (vp_in_nI (by omega) (by omega)) dX4_open_71 ?_
                refine lv_iconst (v := 2) hC.1 hC.2.1 dX4_open_72 (by decide) ?_
                refine lv_icmp_ge (tgt := 102) hC.1 hC.2.1 dX4_open_73 (by decide) (fun c_9 => ?_) (fun c_9 => ?_)
                · skip
                  rw [ck] at c_9
                  have hk2 : ¬ sI σ 10 k < 2 := Int32.not_lt.mpr c_9
                  refine g_iload hC hl dX4_open_102 rfl ?_
                  refine lv_iconst (v := (-1)) hC.1 hC.2.1 dX4_open_104 (by decide) ?_
                  refine lv_icmp_eq (tgt := 119) hC.1 hC.2.1 dX4_open_105 (by decide) (fun c_10 => ?_) (fun c_10 => ?_)
                  · skip
                    have hpl : pplB σ k p2 p3 = false := by unfold pplB; rw [if_neg hk2, decide_eq_true c_10]; rfl
                    refine lv_iconst (v := 0) hC.1 hC.2.1 dX4_open_119 (by decide) ?_
                    refine g_istore hC hl dX4_open_120 (Nat.le_of_ble_eq_true rfl) rfl (fun ls hl => ?_)
                    have hl : LL ls 9 [some _, some _, some _, none, some _, some _, some _, some _, none] := hl
                    refine g_aload_n hC hl dX4_open_122 rfl rfl ?_
                    refine g_get (ci := 4) (k := 7) hC hO rfl inX4 (by decide) q_fl_RX4_22 (nn_lt (Nat.le_of_ble_eq_true rfl)) rfl rfl dX4_open_123 ?_
                    refine g_iload hC hl dX4_open_126 rfl ?_
                    refine g_zald hC hO (nn_lt (Nat.le_of_ble_eq_true rfl)) rfl (vp_in_nI (by omega) (by omega)) dX4_open_128 ?_
                    refine lv_if_eq (tgt := 145) hC.1 hC.2.1 dX4_open_129 (by decide) (fun c_11 => ?_) (fun c_11 => ?_)
                    · skip
                      rw [ck] at c_11
                      refine lv_bipush (v := (-13)) hC.1 hC.2.1 dX4_open_145 (by decide) ?_
                      exact g_iret hC hO dX4_open_147 (by unfold mOpen; simp [hq, hs, hpp, hoo, hpl, c_11])
                    · skip
                      rw [ck] at c_11
                      refine g_aload_n hC hl dX4_open_132 rfl rfl ?_
                      refine g_iload_n hC hl dX4_open_133 rfl rfl ?_
                      refine g_cVi1 hC hO hl (ci := 4) rfl (nn_lt (Nat.le_of_ble_eq_true rfl)) rfl (c_X4_isShutIn l κ _ (by first | exact hM | exact hM.upA 9 _ (by decide) (by decide) (by decide)) (1001 + k) (by omega)) mi_X4_isShutIn q_ml_RX4_98 rfl rfl ⟨Nat.le_of_ble_eq_true rfl, Nat.le_of_ble_eq_true rfl⟩ (Nat.le_of_ble_eq_true rfl) ⟨Nat.zero_le _, Nat.zero_le _⟩ dX4_open_134 (fun r σ1 F th H locs hr hO => ?_)
                      obtain ⟨rfl, rfl⟩ := hr
                      refine lv_if_ne (tgt := 145) hC.1 hC.2.1 dX4_open_137 (by decide) (fun c_12 => ?_) (fun c_12 => ?_)
                      · skip
                        have c_12 := bI_nz c_12
                        refine lv_bipush (v := (-13)) hC.1 hC.2.1 dX4_open_145 (by decide) ?_
                        exact g_iret hC hO dX4_open_147 (by unfold mOpen; simp [hq, hs, hpp, hoo, hpl, c_11, c_12])
                      · skip
                        have c_12 := bI_z c_12
                        refine g_iload hC hl dX4_open_140 rfl ?_
                        refine lv_if_ne (tgt := 148) hC.1 hC.2.1 dX4_open_142 (by decide) (fun c_13 => ?_) (fun c_13 => ?_)
                        · skip
                          exact absurd c_13 (by decide)
                        · skip
                          refine lv_bipush (v := (-13)) hC.1 hC.2.1 dX4_open_145 (by decide) ?_
                          exact g_iret hC hO dX4_open_147 (by unfold mOpen; simp [hq, hs, hpp, hoo, hpl, c_11, c_12, c_13])
                  · skip
                    have hc1 := c_10
                    refine g_iload hC hl dX4_open_108 rfl ?_
                    refine g_iload hC hl dX4_open_110 rfl ?_
                    refine lv_icmp_eq (tgt := 119) hC.1 hC.2.1 dX4_open_112 (by decide) (fun c_14 => ?_) (fun c_14 => ?_)
                    · skip
                      have hpl : pplB σ k p2 p3 = false := by unfold pplB; rw [if_neg hk2, decide_eq_true c_14]; simp
                      refine lv_iconst (v := 0) hC.1 hC.2.1 dX4_open_119 (by decide) ?_
                      refine g_istore hC hl dX4_open_120 (Nat.le_of_ble_eq_true rfl) rfl (fun ls hl => ?_)
                      have hl : LL ls 9 [some _, some _, some _, none, some _, some _, some _, some _, none] := hl
                      refine g_aload_n hC hl dX4_open_122 rfl rfl ?_
                      refine g_get (ci := 4) (k := 7) hC hO rfl inX4 (by decide) q_fl_RX4_22 (nn_lt (Nat.le_of_ble_eq_true rfl)) rfl rfl dX4_open_123 ?_
                      refine g_iload hC hl dX4_open_126 rfl ?_
                      refine g_zald hC hO (nn_lt (Nat.le_of_ble_eq_true rfl)) rfl (vp_in_nI (by omega) (by omega)) dX4_open_128 ?_
                      refine lv_if_eq (tgt := 145) hC.1 hC.2.1 dX4_open_129 (by decide) (fun c_15 => ?_) (fun c_15 => ?_)
                      · skip
                        rw [ck] at c_15
                        refine lv_bipush (v := (-13)) hC.1 hC.2.1 dX4_open_145 (by decide) ?_
                        exact g_iret hC hO dX4_open_147 (by unfold mOpen; simp [hq, hs, hpp, hoo, hpl, c_15])
                      · skip
                        rw [ck] at c_15
                        refine g_aload_n hC hl dX4_open_132 rfl rfl ?_
                        refine g_iload_n hC hl dX4_open_133 rfl rfl ?_
                        refine g_cVi1 hC hO hl (ci := 4) rfl (nn_lt (Nat.le_of_ble_eq_true rfl)) rfl (c_X4_isShutIn l κ _ (by first | exact hM | exact hM.upA 9 _ (by decide) (by decide) (by decide)) (1001 + k) (by omega)) mi_X4_isShutIn q_ml_RX4_98 rfl rfl ⟨Nat.le_of_ble_eq_true rfl, Nat.le_of_ble_eq_true rfl⟩ (Nat.le_of_ble_eq_true rfl) ⟨Nat.zero_le _, Nat.zero_le _⟩ dX4_open_134 (fun r σ1 F th H locs hr hO => ?_)
                        obtain ⟨rfl, rfl⟩ := hr
                        refine lv_if_ne (tgt := 145) hC.1 hC.2.1 dX4_open_137 (by decide) (fun c_16 => ?_) (fun c_16 => ?_)
                        · skip
                          have c_16 := bI_nz c_16
                          refine lv_bipush (v := (-13)) hC.1 hC.2.1 dX4_open_145 (by decide) ?_
                          exact g_iret hC hO dX4_open_147 (by unfold mOpen; simp [hq, hs, hpp, hoo, hpl, c_15, c_16])
                        · skip
                          have c_16 := bI_z c_16
                          refine g_iload hC hl dX4_open_140 rfl ?_
                          refine lv_if_ne (tgt := 148) hC.1 hC.2.1 dX4_open_142 (by decide) (fun c_17 => ?_) (fun c_17 => ?_)
                          · skip
                            exact absurd c_17 (by decide)
                          · skip
                            refine lv_bipush (v := (-13)) hC.1 hC.2.1 dX4_open_145 (by decide) ?_
                            exact g_iret hC hO dX4_open_147 (by unfold mOpen; simp [hq, hs, hpp, hoo, hpl, c_15, c_16, c_17])
                    · skip
                      have hpl : pplB σ k p2 p3 = true := by unfold pplB; rw [if_neg hk2, decide_eq_false hc1, decide_eq_false c_14]; rfl
                      refine lv_iconst (v := 1) hC.1 hC.2.1 dX4_open_115 (by decide) ?_
                      refine lv_goto (tgt := 120) hC.1 hC.2.1 dX4_open_116 (by decide) ?_
                      refine g_istore hC hl dX4_open_120 (Nat.le_of_ble_eq_true rfl) rfl (fun ls hl => ?_)
                      have hl : LL ls 9 [some _, some _, some _, none, some _, some _, some _, some _, none] := hl
                      refine g_aload_n hC hl dX4_open_122 rfl rfl ?_
                      refine g_get (ci := 4) (k := 7) hC hO rfl inX4 (by decide) q_fl_RX4_22 (nn_lt (Nat.le_of_ble_eq_true rfl)) rfl rfl dX4_open_123 ?_
                      refine g_iload hC hl dX4_open_126 rfl ?_
                      refine g_zald hC hO (nn_lt (Nat.le_of_ble_eq_true rfl)) rfl (vp_in_nI (by omega) (by omega)) dX4_open_128 ?_
                      refine lv_if_eq (tgt := 145) hC.1 hC.2.1 dX4_open_129 (by decide) (fun c_18 => ?_) (fun c_18 => ?_)
                      · skip
                        rw [ck] at c_18
                        refine lv_bipush (v := (-13)) hC.1 hC.2.1 dX4_open_145 (by decide) ?_
                        exact g_iret hC hO dX4_open_147 (by unfold mOpen; simp [hq, hs, hpp, hoo, hpl, c_18])
                      · skip
                        rw [ck] at c_18
                        refine g_aload_n hC hl dX4_open_132 rfl rfl ?_
                        refine g_iload_n hC hl dX4_open_133 rfl rfl ?_
                        refine g_cVi1 hC hO hl (ci := 4) rfl (nn_lt (Nat.le_of_ble_eq_true rfl)) rfl (c_X4_isShutIn l κ _ (by first | exact hM | exact hM.upA 9 _ (by decide) (by decide) (by decide)) (1001 + k) (by omega)) mi_X4_isShutIn q_ml_RX4_98 rfl rfl ⟨Nat.le_of_ble_eq_true rfl, Nat.le_of_ble_eq_true rfl⟩ (Nat.le_of_ble_eq_true rfl) ⟨Nat.zero_le _, Nat.zero_le _⟩ dX4_open_134 (fun r σ1 F th H locs hr hO => ?_)
                        obtain ⟨rfl, rfl⟩ := hr
                        refine lv_if_ne (tgt := 145) hC.1 hC.2.1 dX4_open_137 (by decide) (fun c_19 => ?_) (fun c_19 => ?_)
                        · skip
                          have c_19 := bI_nz c_19
                          refine lv_bipush (v := (-13)) hC.1 hC.2.1 dX4_open_145 (by decide) ?_
                          exact g_iret hC hO dX4_open_147 (by unfold mOpen; simp [hq, hs, hpp, hoo, hpl, c_18, c_19])
                        · skip
                          have c_19 := bI_z c_19
                          refine g_iload hC hl dX4_open_140 rfl ?_
                          refine lv_if_ne (tgt := 148) hC.1 hC.2.1 dX4_open_142 (by decide) (fun c_20 => ?_) (fun c_20 => ?_)
                          · skip
                            refine g_aload_n hC hl dX4_open_148 rfl rfl ?_
                            refine g_get (ci := 4) (k := 7) hC hO rfl inX4 (by decide) q_fl_RX4_22 (nn_lt (Nat.le_of_ble_eq_true rfl)) rfl rfl dX4_open_149 ?_
                            refine g_iload hC hl dX4_open_152 rfl ?_
                            refine lv_iconst (v := 0) hC.1 hC.2.1 dX4_open_154 (by decide) ?_
                            refine g_zast hC hO (nn_lt (Nat.le_of_ble_eq_true rfl)) (fun _ _ => rfl) (vp_in_nI (by omega) (by omega)) (by decide) dX4_open_155 (fun H locs hO => ?_)
                            rw [ck] at hO
                            refine g_aload_n hC hl dX4_open_156 rfl rfl ?_
                            refine g_get (ci := 4) (k := 8) hC hO rfl inX4 (by decide) q_fl_RX4_26 (nn_lt (Nat.le_of_ble_eq_true rfl)) rfl rfl dX4_open_157 ?_
                            refine g_iload hC hl dX4_open_160 rfl ?_
                            refine lv_iconst (v := 1) hC.1 hC.2.1 dX4_open_162 (by decide) ?_
                            refine g_zast hC hO (nn_lt (Nat.le_of_ble_eq_true rfl)) (fun _ _ => rfl) (vp_in_nI (by omega) (by omega)) (by decide) dX4_open_163 (fun H locs hO => ?_)
                            rw [ck] at hO
                            refine g_aload_n hC hl dX4_open_164 rfl rfl ?_
                            refine g_get (ci := 4) (k := 11) hC hO rfl inX4 (by decide) q_fl_RX4_36 (nn_lt (Nat.le_of_ble_eq_true rfl)) rfl rfl dX4_open_165 ?_
                            refine g_iload hC hl dX4_open_168 rfl ?_
                            refine g_lload_n hC hl dX4_open_170 rfl rfl ?_
                            refine g_last hC hO (nn_lt (Nat.le_of_ble_eq_true rfl)) (fun _ _ => rfl) (vp_in_nI (by omega) (by omega)) dX4_open_171 (fun H locs hO => ?_)
                            rw [ck] at hO
                            refine g_aload_n hC hl dX4_open_172 rfl rfl ?_
                            refine g_get (ci := 4) (k := 15) hC hO rfl inX4 (by decide) q_fl_RX4_48 (nn_lt (Nat.le_of_ble_eq_true rfl)) rfl rfl dX4_open_173 ?_
                            refine g_iload hC hl dX4_open_176 rfl ?_
                            refine lv_iconst (v := 0) hC.1 hC.2.1 dX4_open_178 (by decide) ?_
                            refine g_iast hC hO (nn_lt (Nat.le_of_ble_eq_true rfl)) (fun _ _ => rfl) (vp_in_nI (by omega) (by omega)) dX4_open_179 (fun H locs hO => ?_)
                            rw [ck] at hO
                            refine lv_iconst (v := 0) hC.1 hC.2.1 dX4_open_180 (by decide) ?_
                            refine g_istore hC hl dX4_open_181 (Nat.le_of_ble_eq_true rfl) rfl (fun ls hl => ?_)
                            have hl : LL ls 9 [some _, some _, some _, none, some _, some _, some _, some _, some _] := hl
                            have hl := LL.drop hl 7
                            refine loop183 k (by omega) ?_ 13 0 (by omega) (by omega) _ _ _ _ (by rw [clrP_0]; exact (show OS κ s.heap (upA (unsB σ k p1) 18 (sI (unsB σ k p1) 18)) _ _ _ _ by rw [upA_self]; exact hO)) ls hl
                            intro F th H locs hO ls hl
                            refine g_lload_n hC hl dX4_open_210 rfl rfl ?_
                            refine g_aload_n hC hl dX4_open_211 rfl rfl ?_
                            refine g_get (ci := 4) (k := 9) hC hO rfl inX4 (by decide) q_fl_RX4_29 (nn_lt (Nat.le_of_ble_eq_true rfl)) rfl rfl dX4_open_212 ?_
                            refine g_iload hC hl dX4_open_215 rfl ?_
                            refine g_lald hC hO (nn_lt (Nat.le_of_ble_eq_true rfl)) rfl (vp_in_nI (by omega) (by omega)) dX4_open_217 ?_
                            refine W.lcmp hC.1 hC.2.1 dX4_open_218 ?_
                            refine lv_if_ne (tgt := 224) hC.1 hC.2.1 dX4_open_219 (by decide) (fun c_21 => ?_) (fun c_21 => ?_)
                            · skip
                              rw [lg_cmp_eq] at c_21
                              rw [ck] at c_21
                              have hqs : ¬ p1 = sJ σ 13 k := c_21
                              refine g_aload_n hC hl dX4_open_224 rfl rfl ?_
                              refine g_cVv0 hC hO hl (ci := 4) rfl (nn_lt (Nat.le_of_ble_eq_true rfl)) rfl (c_X4_addNote l κ _ n (by exact hn) hn2) mi_X4_addNote q_ml_RX4_113 rfl rfl ⟨Nat.le_of_ble_eq_true rfl, Nat.le_of_ble_eq_true rfl⟩ (Nat.le_of_ble_eq_true rfl) ⟨Nat.zero_le _, Nat.zero_le _⟩ dX4_open_225 (fun σ1 F th H locs hr hO => ?_)
                              subst hr
                              refine lv_iconst (v := (-1)) hC.1 hC.2.1 dX4_open_228 (by decide) ?_
                              exact g_iret hC hO dX4_open_229 (by unfold mOpen; simp [hq, hs, hpp, hoo, hpl, c_18, c_19, c_20, if_neg hqs])
                            · skip
                              rw [lg_cmp_eq] at c_21
                              rw [ck] at c_21
                              have hqs : p1 = sJ σ 13 k := c_21
                              refine lv_iconst (v := 1) hC.1 hC.2.1 dX4_open_222 (by decide) ?_
                              exact g_iret hC hO dX4_open_223 (by unfold mOpen; simp [hq, hs, hpp, hoo, hpl, c_18, c_19, c_20, if_pos hqs])
                          · skip
                            exact absurd c_20 (by decide)
                · skip
                  rw [ck] at c_9
                  have hk2 : sI σ 10 k < 2 := Int32.not_le.mp c_9
                  refine g_iload hC hl dX4_open_76 rfl ?_
                  refine lv_iconst (v := (-1)) hC.1 hC.2.1 dX4_open_78 (by decide) ?_
                  refine lv_icmp_ne (tgt := 98) hC.1 hC.2.1 dX4_open_79 (by decide) (fun c_22 => ?_) (fun c_22 => ?_)
                  · skip
                    have hpl : pplB σ k p2 p3 = false := by unfold pplB; rw [if_pos hk2, decide_eq_false c_22]; rfl
                    refine lv_iconst (v := 0) hC.1 hC.2.1 dX4_open_98 (by decide) ?_
                    refine lv_goto (tgt := 120) hC.1 hC.2.1 dX4_open_99 (by decide) ?_
                    refine g_istore hC hl dX4_open_120 (Nat.le_of_ble_eq_true rfl) rfl (fun ls hl => ?_)
                    have hl : LL ls 9 [some _, some _, some _, none, some _, some _, some _, some _, none] := hl
                    refine g_aload_n hC hl dX4_open_122 rfl rfl ?_
                    refine g_get (ci := 4) (k := 7) hC hO rfl inX4 (by decide) q_fl_RX4_22 (nn_lt (Nat.le_of_ble_eq_true rfl)) rfl rfl dX4_open_123 ?_
                    refine g_iload hC hl dX4_open_126 rfl ?_
                    refine g_zald hC hO (nn_lt (Nat.le_of_ble_eq_true rfl)) rfl (vp_in_nI (by omega) (by omega)) dX4_open_128 ?_
                    refine lv_if_eq (tgt := 145) hC.1 hC.2.1 dX4_open_129 (by decide) (fun c_23 => ?_) (fun c_23 => ?_)
                    · skip
                      rw [ck] at c_23
                      refine lv_bipush (v := (-13)) hC.1 hC.2.1 dX4_open_145 (by decide) ?_
                      exact g_iret hC hO dX4_open_147 (by unfold mOpen; simp [hq, hs, hpp, hoo, hpl, c_23])
                    · skip
                      rw [ck] at c_23
                      refine g_aload_n hC hl dX4_open_132 rfl rfl ?_
                      refine g_iload_n hC hl dX4_open_133 rfl rfl ?_
                      refine g_cVi1 hC hO hl (ci := 4) rfl (nn_lt (Nat.le_of_ble_eq_true rfl)) rfl (c_X4_isShutIn l κ _ (by first | exact hM | exact hM.upA 9 _ (by decide) (by decide) (by decide)) (1001 + k) (by omega)) mi_X4_isShutIn q_ml_RX4_98 rfl rfl ⟨Nat.le_of_ble_eq_true rfl, Nat.le_of_ble_eq_true rfl⟩ (Nat.le_of_ble_eq_true rfl) ⟨Nat.zero_le _, Nat.zero_le _⟩ dX4_open_134 (fun r σ1 F th H locs hr hO => ?_)
                      obtain ⟨rfl, rfl⟩ := hr
                      refine lv_if_ne (tgt := 145) hC.1 hC.2.1 dX4_open_137 (by decide) (fun c_24 => ?_) (fun c_24 => ?_)
                      · skip
                        have c_24 := bI_nz c_24
                        refine lv_bipush (v := (-13)) hC.1 hC.2.1 dX4_open_145 (by decide) ?_
                        exact g_iret hC hO dX4_open_147 (by unfold mOpen; simp [hq, hs, hpp, hoo, hpl, c_23, c_24])
                      · skip
                        have c_24 := bI_z c_24
                        refine g_iload hC hl dX4_open_140 rfl ?_
                        refine lv_if_ne (tgt := 148) hC.1 hC.2.1 dX4_open_142 (by decide) (fun c_25 => ?_) (fun c_25 => ?_)
                        · skip
                          exact absurd c_25 (by decide)
                        · skip
                          refine lv_bipush (v := (-13)) hC.1 hC.2.1 dX4_open_145 (by decide) ?_
                          exact g_iret hC hO dX4_open_147 (by unfold mOpen; simp [hq, hs, hpp, hoo, hpl, c_23, c_24, c_25])
                  · skip
                    have hc1 := c_22
                    refine g_iload hC hl dX4_open_82 rfl ?_
                    refine g_aload_n hC hl dX4_open_84 rfl rfl ?_
                    refine g_get (ci := 4) (k := 10) hC hO rfl inX4 (by decide) q_fl_RX4_33 (nn_lt (Nat.le_of_ble_eq_true rfl)) rfl rfl dX4_open_85 ?_
                    refine g_iload hC hl dX4_open_88 rfl ?_
                    refine g_iald hC hO (nn_lt (Nat.le_of_ble_eq_true rfl)) rfl (vp_in_nI (by omega) (by omega)) dX4_open_90 ?_
                    refine lv_icmp_eq (tgt := 98) hC.1 hC.2.1 dX4_open_91 (by decide) (fun c_26 => ?_) (fun c_26 => ?_)
                    · skip
                      rw [ck] at c_26
                      have hpl : pplB σ k p2 p3 = false := by unfold pplB; rw [if_pos hk2, decide_eq_true c_26]; simp
                      refine lv_iconst (v := 0) hC.1 hC.2.1 dX4_open_98 (by decide) ?_
                      refine lv_goto (tgt := 120) hC.1 hC.2.1 dX4_open_99 (by decide) ?_
                      refine g_istore hC hl dX4_open_120 (Nat.le_of_ble_eq_true rfl) rfl (fun ls hl => ?_)
                      have hl : LL ls 9 [some _, some _, some _, none, some _, some _, some _, some _, none] := hl
                      refine g_aload_n hC hl dX4_open_122 rfl rfl ?_
                      refine g_get (ci := 4) (k := 7) hC hO rfl inX4 (by decide) q_fl_RX4_22 (nn_lt (Nat.le_of_ble_eq_true rfl)) rfl rfl dX4_open_123 ?_
                      refine g_iload hC hl dX4_open_126 rfl ?_
                      refine g_zald hC hO (nn_lt (Nat.le_of_ble_eq_true rfl)) rfl (vp_in_nI (by omega) (by omega)) dX4_open_128 ?_
                      refine lv_if_eq (tgt := 145) hC.1 hC.2.1 dX4_open_129 (by decide) (fun c_27 => ?_) (fun c_27 => ?_)
                      · skip
                        rw [ck] at c_27
                        refine lv_bipush (v := (-13)) hC.1 hC.2.1 dX4_open_145 (by decide) ?_
                        exact g_iret hC hO dX4_open_147 (by unfold mOpen; simp [hq, hs, hpp, hoo, hpl, c_27])
                      · skip
                        rw [ck] at c_27
                        refine g_aload_n hC hl dX4_open_132 rfl rfl ?_
                        refine g_iload_n hC hl dX4_open_133 rfl rfl ?_
                        refine g_cVi1 hC hO hl (ci := 4) rfl (nn_lt (Nat.le_of_ble_eq_true rfl)) rfl (c_X4_isShutIn l κ _ (by first | exact hM | exact hM.upA 9 _ (by decide) (by decide) (by decide)) (1001 + k) (by omega)) mi_X4_isShutIn q_ml_RX4_98 rfl rfl ⟨Nat.le_of_ble_eq_true rfl, Nat.le_of_ble_eq_true rfl⟩ (Nat.le_of_ble_eq_true rfl) ⟨Nat.zero_le _, Nat.zero_le _⟩ dX4_open_134 (fun r σ1 F th H locs hr hO => ?_)
                        obtain ⟨rfl, rfl⟩ := hr
                        refine lv_if_ne (tgt := 145) hC.1 hC.2.1 dX4_open_137 (by decide) (fun c_28 => ?_) (fun c_28 => ?_)
                        · skip
                          have c_28 := bI_nz c_28
                          refine lv_bipush (v := (-13)) hC.1 hC.2.1 dX4_open_145 (by decide) ?_
                          exact g_iret hC hO dX4_open_147 (by unfold mOpen; simp [hq, hs, hpp, hoo, hpl, c_27, c_28])
                        · skip
                          have c_28 := bI_z c_28
                          refine g_iload hC hl dX4_open_140 rfl ?_
                          refine lv_if_ne (tgt := 148) hC.1 hC.2.1 dX4_open_142 (by decide) (fun c_29 => ?_) (fun c_29 => ?_)
                          · skip
                            exact absurd c_29 (by decide)
                          · skip
                            refine lv_bipush (v := (-13)) hC.1 hC.2.1 dX4_open_145 (by decide) ?_
                            exact g_iret hC hO dX4_open_147 (by unfold mOpen; simp [hq, hs, hpp, hoo, hpl, c_27, c_28, c_29])
                    · skip
                      rw [ck] at c_26
                      have hpl : pplB σ k p2 p3 = true := by unfold pplB; rw [if_pos hk2, decide_eq_true hc1, decide_eq_false c_26]; rfl
                      refine lv_iconst (v := 1) hC.1 hC.2.1 dX4_open_94 (by decide) ?_
                      refine lv_goto (tgt := 120) hC.1 hC.2.1 dX4_open_95 (by decide) ?_
                      refine g_istore hC hl dX4_open_120 (Nat.le_of_ble_eq_true rfl) rfl (fun ls hl => ?_)
                      have hl : LL ls 9 [some _, some _, some _, none, some _, some _, some _, some _, none] := hl
                      refine g_aload_n hC hl dX4_open_122 rfl rfl ?_
                      refine g_get (ci := 4) (k := 7) hC hO rfl inX4 (by decide) q_fl_RX4_22 (nn_lt (Nat.le_of_ble_eq_true rfl)) rfl rfl dX4_open_123 ?_
                      refine g_iload hC hl dX4_open_126 rfl ?_
                      refine g_zald hC hO (nn_lt (Nat.le_of_ble_eq_true rfl)) rfl (vp_in_nI (by omega) (by omega)) dX4_open_128 ?_
                      refine lv_if_eq (tgt := 145) hC.1 hC.2.1 dX4_open_129 (by decide) (fun c_30 => ?_) (fun c_30 => ?_)
                      · skip
                        rw [ck] at c_30
                        refine lv_bipush (v := (-13)) hC.1 hC.2.1 dX4_open_145 (by decide) ?_
                        exact g_iret hC hO dX4_open_147 (by unfold mOpen; simp [hq, hs, hpp, hoo, hpl, c_30])
                      · skip
                        rw [ck] at c_30
                        refine g_aload_n hC hl dX4_open_132 rfl rfl ?_
                        refine g_iload_n hC hl dX4_open_133 rfl rfl ?_
                        refine g_cVi1 hC hO hl (ci := 4) rfl (nn_lt (Nat.le_of_ble_eq_true rfl)) rfl (c_X4_isShutIn l κ _ (by first | exact hM | exact hM.upA 9 _ (by decide) (by decide) (by decide)) (1001 + k) (by omega)) mi_X4_isShutIn q_ml_RX4_98 rfl rfl ⟨Nat.le_of_ble_eq_true rfl, Nat.le_of_ble_eq_true rfl⟩ (Nat.le_of_ble_eq_true rfl) ⟨Nat.zero_le _, Nat.zero_le _⟩ dX4_open_134 (fun r σ1 F th H locs hr hO => ?_)
                        obtain ⟨rfl, rfl⟩ := hr
                        refine lv_if_ne (tgt := 145) hC.1 hC.2.1 dX4_open_137 (by decide) (fun c_31 => ?_) (fun c_31 => ?_)
                        · skip
                          have c_31 := bI_nz c_31
                          refine lv_bipush (v := (-13)) hC.1 hC.2.1 dX4_open_145 (by decide) ?_
                          exact g_iret hC hO dX4_open_147 (by unfold mOpen; simp [hq, hs, hpp, hoo, hpl, c_30, c_31])
                        · skip
                          have c_31 := bI_z c_31
                          refine g_iload hC hl dX4_open_140 rfl ?_
                          refine lv_if_ne (tgt := 148) hC.1 hC.2.1 dX4_open_142 (by decide) (fun c_32 => ?_) (fun c_32 => ?_)
                          · skip
                            refine g_aload_n hC hl dX4_open_148 rfl rfl ?_
                            refine g_get (ci := 4) (k := 7) hC hO rfl inX4 (by decide) q_fl_RX4_22 (nn_lt (Nat.le_of_ble_eq_true rfl)) rfl rfl dX4_open_149 ?_
                            refine g_iload hC hl dX4_open_152 rfl ?_
                            refine lv_iconst (v := 0) hC.1 hC.2.1 dX4_open_154 (by decide) ?_
                            refine g_zast hC hO (nn_lt (Nat.le_of_ble_eq_true rfl)) (fun _ _ => rfl) (vp_in_nI (by omega) (by omega)) (by decide) dX4_open_155 (fun H locs hO => ?_)
                            rw [ck] at hO
                            refine g_aload_n hC hl dX4_open_156 rfl rfl ?_
                            refine g_get (ci := 4) (k := 8) hC hO rfl inX4 (by decide) q_fl_RX4_26 (nn_lt (Nat.le_of_ble_eq_true rfl)) rfl rfl dX4_open_157 ?_
                            refine g_iload hC hl dX4_open_160 rfl ?_
                            refine lv_iconst (v := 1) hC.1 hC.2.1 dX4_open_162 (by decide) ?_
                            refine g_zast hC hO (nn_lt (Nat.le_of_ble_eq_true rfl)) (fun _ _ => rfl) (vp_in_nI (by omega) (by omega)) (by decide) dX4_open_163 (fun H locs hO => ?_)
                            rw [ck] at hO
                            refine g_aload_n hC hl dX4_open_164 rfl rfl ?_
                            refine g_get (ci := 4) (k := 11) hC hO rfl inX4 (by decide) q_fl_RX4_36 (nn_lt (Nat.le_of_ble_eq_true rfl)) rfl rfl dX4_open_165 ?_
                            refine g_iload hC hl dX4_open_168 rfl ?_
                            refine g_lload_n hC hl dX4_open_170 rfl rfl ?_
                            refine g_last hC hO (nn_lt (Nat.le_of_ble_eq_true rfl)) (fun _ _ => rfl) (vp_in_nI (by omega) (by omega)) dX4_open_171 (fun H locs hO => ?_)
                            rw [ck] at hO
                            refine g_aload_n hC hl dX4_open_172 rfl rfl ?_
                            refine g_get (ci := 4) (k := 15) hC hO rfl inX4 (by decide) q_fl_RX4_48 (nn_lt (Nat.le_of_ble_eq_true rfl)) rfl rfl dX4_open_173 ?_
                            refine g_iload hC hl dX4_open_176 rfl ?_
                            refine lv_iconst (v := 0) hC.1 hC.2.1 dX4_open_178 (by decide) ?_
                            refine g_iast hC hO (nn_lt (Nat.le_of_ble_eq_true rfl)) (fun _ _ => rfl) (vp_in_nI (by omega) (by omega)) dX4_open_179 (fun H locs hO => ?_)
                            rw [ck] at hO
                            refine lv_iconst (v := 0) hC.1 hC.2.1 dX4_open_180 (by decide) ?_
                            refine g_istore hC hl dX4_open_181 (Nat.le_of_ble_eq_true rfl) rfl (fun ls hl => ?_)
                            have hl : LL ls 9 [some _, some _, some _, none, some _, some _, some _, some _, some _] := hl
                            have hl := LL.drop hl 7
                            refine loop183 k (by omega) ?_ 13 0 (by omega) (by omega) _ _ _ _ (by rw [clrP_0]; exact (show OS κ s.heap (upA (unsB σ k p1) 18 (sI (unsB σ k p1) 18)) _ _ _ _ by rw [upA_self]; exact hO)) ls hl
                            intro F th H locs hO ls hl
                            refine g_lload_n hC hl dX4_open_210 rfl rfl ?_
                            refine g_aload_n hC hl dX4_open_211 rfl rfl ?_
                            refine g_get (ci := 4) (k := 9) hC hO rfl inX4 (by decide) q_fl_RX4_29 (nn_lt (Nat.le_of_ble_eq_true rfl)) rfl rfl dX4_open_212 ?_
                            refine g_iload hC hl dX4_open_215 rfl ?_
                            refine g_lald hC hO (nn_lt (Nat.le_of_ble_eq_true rfl)) rfl (vp_in_nI (by omega) (by omega)) dX4_open_217 ?_
                            refine W.lcmp hC.1 hC.2.1 dX4_open_218 ?_
                            refine lv_if_ne (tgt := 224) hC.1 hC.2.1 dX4_open_219 (by decide) (fun c_33 => ?_) (fun c_33 => ?_)
                            · skip
                              rw [lg_cmp_eq] at c_33
                              rw [ck] at c_33
                              have hqs : ¬ p1 = sJ σ 13 k := c_33
                              refine g_aload_n hC hl dX4_open_224 rfl rfl ?_
                              refine g_cVv0 hC hO hl (ci := 4) rfl (nn_lt (Nat.le_of_ble_eq_true rfl)) rfl (c_X4_addNote l κ _ n (by exact hn) hn2) mi_X4_addNote q_ml_RX4_113 rfl rfl ⟨Nat.le_of_ble_eq_true rfl, Nat.le_of_ble_eq_true rfl⟩ (Nat.le_of_ble_eq_true rfl) ⟨Nat.zero_le _, Nat.zero_le _⟩ dX4_open_225 (fun σ1 F th H locs hr hO => ?_)
                              subst hr
                              refine lv_iconst (v := (-1)) hC.1 hC.2.1 dX4_open_228 (by decide) ?_
                              exact g_iret hC hO dX4_open_229 (by unfold mOpen; simp [hq, hs, hpp, hoo, hpl, c_30, c_31, c_32, if_neg hqs])
                            · skip
                              rw [lg_cmp_eq] at c_33
                              rw [ck] at c_33
                              have hqs : p1 = sJ σ 13 k := c_33
                              refine lv_iconst (v := 1) hC.1 hC.2.1 dX4_open_222 (by decide) ?_
                              exact g_iret hC hO dX4_open_223 (by unfold mOpen; simp [hq, hs, hpp, hoo, hpl, c_30, c_31, c_32, if_pos hqs])
                          · skip
                            exact absurd c_32 (by decide)
              · skip
                have hoo := orP_f2 c_8
                refine lv_bipush (v := (-12)) hC.1 hC.2.1 dX4_open_55 (by decide) ?_
                exact g_iret hC hO dX4_open_57 (by unfold mOpen; simp [hq, hs, hpp, hoo])
  · skip
    have c_2 := bI_z c_2
    have hq := recOf_no c_2
    refine lv_bipush (v := (-11)) hC.1 hC.2.1 dX4_open_13 (by decide) ?_
    exact g_iret hC hO dX4_open_15 (by unfold mOpen; simp [hq])

set_option maxHeartbeats 4000000 in
set_option maxRecDepth 100000 in
/-- BagRowsModel.found -/
theorem c_X4_found (l : Launch) (κ : KK) (σ : ST) (hM : MB σ) (hL : ML σ) (n : Nat) (hn : sI σ 6 21 = nI n) (hn2 : n < 2000) (p0 p1 : Int32) : Met l yX4_found (wA yX4_found cX4_found 6 (some .int)) ({ frames := 3, cells := 0, slots := 0, locals := 69 }) (va_Pc [.ref (kad κ 6), .int p0, .int p1] (WX κ σ)) (va_Qi (fun r σ' => (r, σ') = mFoundF σ p0 p1) (WX κ) (FA κ)) 0 0 (FA κ) := by
  refine g_met 3 (by decide) rfl (Nat.le_of_ble_eq_true rfl) ?_
  intro p e s m args below meth c hC F th hO ls hl
  have hl : LL ls 6 [some _, some _, some _, none, none, none] := hl
  have h60 := hM.2.1
  refine g_aload_n hC hl dX4_found_0 rfl rfl ?_
  refine lv_iconst (v := 0) hC.1 hC.2.1 dX4_found_1 (by decide) ?_
  refine g_putT hC hO q_fl_RX4_69 dX4_found_2 (fun H locs hO => ?_)
  refine g_aload_n hC hl dX4_found_5 rfl rfl ?_
  refine g_iload_n hC hl dX4_found_6 rfl rfl ?_
  refine g_cVi1 hC hO hl (ci := 4) rfl (nn_lt (Nat.le_of_ble_eq_true rfl)) rfl (c_X4_isBag l κ _ (by first | exact hM | exact hM.upA 9 _ (by decide) (by decide) (by decide)) _) mi_X4_isBag q_ml_RX4_76 rfl rfl ⟨Nat.le_of_ble_eq_true rfl, Nat.le_of_ble_eq_true rfl⟩ (Nat.le_of_ble_eq_true rfl) ⟨Nat.zero_le _, Nat.zero_le _⟩ dX4_found_7 (fun r σ1 F th H locs hr hO => ?_)
  obtain ⟨rfl, rfl⟩ := hr
  refine lv_if_eq (tgt := 21) hC.1 hC.2.1 dX4_found_10 (by decide) (fun c_1 => ?_) (fun c_1 => ?_)
  · skip
    have c_1 := bI_z c_1
    have hq := recOf_no c_1
    refine lv_bipush (v := (-11)) hC.1 hC.2.1 dX4_found_21 (by decide) ?_
    exact g_iret hC hO dX4_found_23 (by unfold mFoundF mFound mEx; simp [hq])
  · skip
    have c_1 := bI_nz c_1
    obtain ⟨k, hq, hk, rfl⟩ := recOf_isSome c_1
    have hbt := thing_bag hq
    have ck : (nI k).toNatClampNeg = k := nI_clamp (by omega)
    have cb : (nI (1001 + k)).toNatClampNeg = 1001 + k := nI_clamp (by omega)
    refine g_aload_n hC hl dX4_found_13 rfl rfl ?_
    refine g_iload_n hC hl dX4_found_14 rfl rfl ?_
    refine g_cVi1 hC hO hl (ci := 4) rfl (nn_lt (Nat.le_of_ble_eq_true rfl)) rfl (c_X4_isThing l κ _ (by first | exact hM | exact hM.upA 9 _ (by decide) (by decide) (by decide)) _) mi_X4_isThing q_ml_RX4_95 rfl rfl ⟨Nat.le_of_ble_eq_true rfl, Nat.le_of_ble_eq_true rfl⟩ (Nat.le_of_ble_eq_true rfl) ⟨Nat.zero_le _, Nat.zero_le _⟩ dX4_found_15 (fun r σ1 F th H locs hr hO => ?_)
    obtain ⟨rfl, rfl⟩ := hr
    refine lv_if_ne (tgt := 24) hC.1 hC.2.1 dX4_found_18 (by decide) (fun c_2 => ?_) (fun c_2 => ?_)
    · skip
      have c_2 := bI_nz c_2
      obtain ⟨t, ht1, ht2, rfl⟩ := thing_ex c_2 h60
      have hth : thingB σ (nI t) = true := c_2
      have hcl : (nI t).toNatClampNeg = t := nI_clamp (by omega)
      refine g_iload_n hC hl dX4_found_24 rfl rfl ?_
      refine lv_sipush (v := 1001) hC.1 hC.2.1 dX4_found_25 (by decide) ?_
      refine lv_isub hC.1 hC.2.1 dX4_found_28 ?_
      rw [sub1001 (by omega)]
      refine g_istore_n hC hl dX4_found_29 rfl (Nat.le_of_ble_eq_true rfl) rfl (fun ls hl => ?_)
      have hl : LL ls 6 [some _, some _, some _, some _, none, none] := hl
      refine g_aload_n hC hl dX4_found_30 rfl rfl ?_
      refine g_get (ci := 4) (k := 8) hC hO rfl inX4 (by decide) q_fl_RX4_26 (nn_lt (Nat.le_of_ble_eq_true rfl)) rfl rfl dX4_found_31 ?_
      refine g_iload_n hC hl dX4_found_34 rfl rfl ?_
      refine g_zald hC hO (nn_lt (Nat.le_of_ble_eq_true rfl)) rfl (vp_in_nI (by omega) (by omega)) dX4_found_35 ?_
      refine lv_if_eq (tgt := 66) hC.1 hC.2.1 dX4_found_36 (by decide) (fun c_3 => ?_) (fun c_3 => ?_)
      · skip
        rw [ck] at c_3
        refine lv_bipush (v := (-13)) hC.1 hC.2.1 dX4_found_66 (by decide) ?_
        exact g_iret hC hO dX4_found_68 (by unfold mFoundF mFound mEx; simp [hq, hth, hcl, c_3])
      · skip
        rw [ck] at c_3
        refine g_iload_n hC hl dX4_found_39 rfl rfl ?_
        refine g_iload_n hC hl dX4_found_40 rfl rfl ?_
        refine lv_icmp_eq (tgt := 66) hC.1 hC.2.1 dX4_found_41 (by decide) (fun c_4 => ?_) (fun c_4 => ?_)
        · skip
          have h41 := c_4
          refine lv_bipush (v := (-13)) hC.1 hC.2.1 dX4_found_66 (by decide) ?_
          exact g_iret hC hO dX4_found_68 (by unfold mFoundF mFound mEx; simp [hq, hth, hcl, c_3, h41, hbt])
        · skip
          refine g_aload_n hC hl dX4_found_44 rfl rfl ?_
          refine g_iload_n hC hl dX4_found_45 rfl rfl ?_
          refine g_iload_n hC hl dX4_found_46 rfl rfl ?_
          refine g_cVi2 hC hO hl (ci := 4) rfl (nn_lt (Nat.le_of_ble_eq_true rfl)) rfl (c_X4_liesIn l κ _ (by first | exact hM | exact hM.upA 9 _ (by decide) (by decide) (by decide)) (1001 + k) (by omega) _) mi_X4_liesIn q_ml_RX4_116 rfl rfl ⟨Nat.le_of_ble_eq_true rfl, Nat.le_of_ble_eq_true rfl⟩ (Nat.le_of_ble_eq_true rfl) ⟨Nat.zero_le _, Nat.zero_le _⟩ dX4_found_47 (fun r σ1 F th H locs hr hO => ?_)
          obtain ⟨rfl, rfl⟩ := hr
          refine lv_if_ne (tgt := 66) hC.1 hC.2.1 dX4_found_50 (by decide) (fun c_5 => ?_) (fun c_5 => ?_)
          · skip
            have c_5 := bI_nz c_5
            refine lv_bipush (v := (-13)) hC.1 hC.2.1 dX4_found_66 (by decide) ?_
            exact g_iret hC hO dX4_found_68 (by unfold mFoundF mFound mEx; simp [hq, hth, hcl, c_3, c_4, c_5])
          · skip
            have c_5 := bI_z c_5
            refine g_aload_n hC hl dX4_found_53 rfl rfl ?_
            refine g_iload_n hC hl dX4_found_54 rfl rfl ?_
            refine g_cVi1 hC hO hl (ci := 4) rfl (nn_lt (Nat.le_of_ble_eq_true rfl)) rfl (c_X4_kindOf l κ _ (by first | exact hM | exact hM.upA 9 _ (by decide) (by decide) (by decide)) _ (by exact hth)) mi_X4_kindOf q_ml_RX4_101 rfl rfl ⟨Nat.le_of_ble_eq_true rfl, Nat.le_of_ble_eq_true rfl⟩ (Nat.le_of_ble_eq_true rfl) ⟨Nat.zero_le _, Nat.zero_le _⟩ dX4_found_55 (fun r σ1 F th H locs hr hO => ?_)
            obtain ⟨rfl, rfl⟩ := hr
            refine g_aload_n hC hl dX4_found_58 rfl rfl ?_
            refine g_iload_n hC hl dX4_found_59 rfl rfl ?_
            refine g_cVi1 hC hO hl (ci := 4) rfl (nn_lt (Nat.le_of_ble_eq_true rfl)) rfl (c_X4_kindOf l κ _ (by first | exact hM | exact hM.upA 9 _ (by decide) (by decide) (by decide)) _ (by exact hbt)) mi_X4_kindOf q_ml_RX4_101 rfl rfl ⟨Nat.le_of_ble_eq_true rfl, Nat.le_of_ble_eq_true rfl⟩ (Nat.le_of_ble_eq_true rfl) ⟨Nat.zero_le _, Nat.zero_le _⟩ dX4_found_60 (fun r σ1 F th H locs hr hO => ?_)
            obtain ⟨rfl, rfl⟩ := hr
            refine lv_icmp_lt (tgt := 69) hC.1 hC.2.1 dX4_found_63 (by decide) (fun c_6 => ?_) (fun c_6 => ?_)
            · skip
              have hmk := c_6
              have hnle : ¬ mkF σ (nI (1001 + k)) ≤ mkF σ (nI t) := Int32.not_le.mpr c_6
              refine g_aload_n hC hl dX4_found_69 rfl rfl ?_
              refine g_iload_n hC hl dX4_found_70 rfl rfl ?_
              refine g_iload_n hC hl dX4_found_71 rfl rfl ?_
              refine g_cVi2 hC hO hl (ci := 4) rfl (nn_lt (Nat.le_of_ble_eq_true rfl)) rfl (c_X4_listPlace l κ _ k (by omega) (lnS σ k) (hL k hk).1 (hL k hk).2.1 _) mi_X4_listPlace q_ml_RX4_120 rfl rfl ⟨Nat.le_of_ble_eq_true rfl, Nat.le_of_ble_eq_true rfl⟩ (Nat.le_of_ble_eq_true rfl) ⟨Nat.zero_le _, Nat.zero_le _⟩ dX4_found_72 (fun r σ1 F th H locs hr hO => ?_)
              obtain ⟨rfl, rfl⟩ := hr
              refine g_istore hC hl dX4_found_75 (Nat.le_of_ble_eq_true rfl) rfl (fun ls hl => ?_)
              have hl : LL ls 6 [some _, some _, some _, some _, some _, none] := hl
              refine g_iload hC hl dX4_found_77 rfl ?_
              refine lv_if_lt (tgt := 97) hC.1 hC.2.1 dX4_found_79 (by decide) (fun c_7 => ?_) (fun c_7 => ?_)
              · skip
                have hlp := c_7
                refine g_aload_n hC hl dX4_found_97 rfl rfl ?_
                refine g_iload_n hC hl dX4_found_98 rfl rfl ?_
                refine g_iload_n hC hl dX4_found_99 rfl rfl ?_
                refine g_cVi2 hC hO hl (ci := 4) rfl (nn_lt (Nat.le_of_ble_eq_true rfl)) rfl (c_X4_isExtra l κ _ k (by omega) (exS σ k) (hL k hk).2.2.1 (hL k hk).2.2.2.1 _) mi_X4_isExtra q_ml_RX4_124 rfl rfl ⟨Nat.le_of_ble_eq_true rfl, Nat.le_of_ble_eq_true rfl⟩ (Nat.le_of_ble_eq_true rfl) ⟨Nat.zero_le _, Nat.zero_le _⟩ dX4_found_100 (fun r σ1 F th H locs hr hO => ?_)
                obtain ⟨rfl, rfl⟩ := hr
                refine lv_if_eq (tgt := 108) hC.1 hC.2.1 dX4_found_103 (by decide) (fun c_8 => ?_) (fun c_8 => ?_)
                · skip
                  have c_8 := bI_z c_8
                  refine g_aload_n hC hl dX4_found_108 rfl rfl ?_
                  refine g_get (ci := 4) (k := 15) hC hO rfl inX4 (by decide) q_fl_RX4_48 (nn_lt (Nat.le_of_ble_eq_true rfl)) rfl rfl dX4_found_109 ?_
                  refine g_iload_n hC hl dX4_found_112 rfl rfl ?_
                  refine g_iald hC hO (nn_lt (Nat.le_of_ble_eq_true rfl)) rfl (vp_in_nI (by omega) (by omega)) dX4_found_113 ?_
                  refine lv_bipush (v := 12) hC.1 hC.2.1 dX4_found_114 (by decide) ?_
                  refine lv_icmp_eq (tgt := 139) hC.1 hC.2.1 dX4_found_116 (by decide) (fun c_9 => ?_) (fun c_9 => ?_)
                  · skip
                    rw [ck, (hL k hk).2.2.1, show (12 : Int32) = nI 12 from rfl, nI_eq (by have := (hL k hk).2.2.2.1; omega) (by omega)] at c_9
                    have h116 : ¬ exS σ k < 12 := by omega
                    refine lv_bipush (v := (-14)) hC.1 hC.2.1 dX4_found_139 (by decide) ?_
                    exact g_iret hC hO dX4_found_141 (by unfold mFoundF mFound mEx; simp [hq, hth, hcl, c_3, c_4, c_5, hnle, hlp, c_8, h116])
                  · skip
                    rw [ck, (hL k hk).2.2.1, show (12 : Int32) = nI 12 from rfl, nI_eq (by have := (hL k hk).2.2.2.1; omega) (by omega)] at c_9
                    have h116 : exS σ k < 12 := by have := (hL k hk).2.2.2.1; omega
                    refine g_aload_n hC hl dX4_found_119 rfl rfl ?_
                    refine g_get (ci := 4) (k := 1) hC hO rfl inX4 (by decide) q_fl_RX4_7 (nn_lt (Nat.le_of_ble_eq_true rfl)) rfl rfl dX4_found_120 ?_
                    refine g_iload_n hC hl dX4_found_123 rfl rfl ?_
                    refine g_iald hC hO (nn_lt (Nat.le_of_ble_eq_true rfl)) rfl (vp_in_nI (by omega) (by omega)) dX4_found_124 ?_
                    refine g_iload_n hC hl dX4_found_125 rfl rfl ?_
                    refine lv_icmp_eq (tgt := 142) hC.1 hC.2.1 dX4_found_126 (by decide) (fun c_10 => ?_) (fun c_10 => ?_)
                    · skip
                      rw [hcl] at c_10
                      have h126 := c_10
                      refine g_aload_n hC hl dX4_found_142 rfl rfl ?_
                      refine g_get (ci := 4) (k := 1) hC hO rfl inX4 (by decide) q_fl_RX4_7 (nn_lt (Nat.le_of_ble_eq_true rfl)) rfl rfl dX4_found_143 ?_
                      refine g_iload_n hC hl dX4_found_146 rfl rfl ?_
                      refine g_iald hC hO (nn_lt (Nat.le_of_ble_eq_true rfl)) rfl (vp_in_nI (by omega) (by omega)) dX4_found_147 ?_
                      refine g_iload_n hC hl dX4_found_148 rfl rfl ?_
                      refine lv_icmp_eq (tgt := 171) hC.1 hC.2.1 dX4_found_149 (by decide) (fun c_11 => ?_) (fun c_11 => ?_)
                      · skip
                        rw [hcl] at c_11
                        refine g_aload_n hC hl dX4_found_171 rfl rfl ?_
                        refine g_get (ci := 4) (k := 16) hC hO rfl inX4 (by decide) q_fl_RX4_51 (nn_lt (Nat.le_of_ble_eq_true rfl)) rfl rfl dX4_found_172 ?_
                        refine lv_bipush (v := 12) hC.1 hC.2.1 dX4_found_175 (by decide) ?_
                        refine g_iload_n hC hl dX4_found_177 rfl rfl ?_
                        refine lv_imul hC.1 hC.2.1 dX4_found_178 ?_
                        refine g_aload_n hC hl dX4_found_179 rfl rfl ?_
                        refine g_get (ci := 4) (k := 15) hC hO rfl inX4 (by decide) q_fl_RX4_48 (nn_lt (Nat.le_of_ble_eq_true rfl)) rfl rfl dX4_found_180 ?_
                        refine g_iload_n hC hl dX4_found_183 rfl rfl ?_
                        refine g_iald hC hO (nn_lt (Nat.le_of_ble_eq_true rfl)) rfl (vp_in_nI (by omega) (by omega)) dX4_found_184 ?_
                        refine lv_topi (fun v9 ev9 => ?_)
                        have ev9 : v9 = nI (exS σ k) := ev9.trans (by rw [ck]; exact (hL k hk).2.2.1)
                        subst ev9
                        refine lv_iadd hC.1 hC.2.1 dX4_found_185 ?_
                        refine g_iload_n hC hl dX4_found_186 rfl rfl ?_
                        rw [ix12]
                        refine g_iast hC hO (nn_lt (Nat.le_of_ble_eq_true rfl)) (fun _ _ => rfl) (vp_in_nI (by omega) (by omega)) dX4_found_187 (fun H locs hO => ?_)
                        rw [nI_clamp (n := 12 * k + exS σ k) (by have := (hL k hk).2.2.2.1; omega)] at hO
                        refine g_aload_n hC hl dX4_found_188 rfl rfl ?_
                        refine g_get (ci := 4) (k := 15) hC hO rfl inX4 (by decide) q_fl_RX4_48 (nn_lt (Nat.le_of_ble_eq_true rfl)) rfl rfl dX4_found_189 ?_
                        refine g_iload_n hC hl dX4_found_192 rfl rfl ?_
                        refine lv_dup2_11 hC.1 hC.2.1 dX4_found_193 rfl rfl ?_
                        refine g_iald hC hO (nn_lt (Nat.le_of_ble_eq_true rfl)) rfl (vp_in_nI (by omega) (by omega)) dX4_found_194 ?_
                        refine lv_topi (fun v9 ev9 => ?_)
                        have ev9 : v9 = nI (exS σ k) := ev9.trans (by rw [ck]; exact (hL k hk).2.2.1)
                        subst ev9
                        refine lv_iconst (v := 1) hC.1 hC.2.1 dX4_found_195 (by decide) ?_
                        refine lv_iadd hC.1 hC.2.1 dX4_found_196 ?_
                        rw [nI_1]
                        refine g_iast hC hO (nn_lt (Nat.le_of_ble_eq_true rfl)) (fun _ _ => rfl) (vp_in_nI (by omega) (by omega)) dX4_found_197 (fun H locs hO => ?_)
                        rw [ck] at hO
                        refine g_aload_n hC hl dX4_found_198 rfl rfl ?_
                        refine g_cVv0 hC hO hl (ci := 4) rfl (nn_lt (Nat.le_of_ble_eq_true rfl)) rfl (c_X4_addNote l κ _ n (by exact hn) hn2) mi_X4_addNote q_ml_RX4_113 rfl rfl ⟨Nat.le_of_ble_eq_true rfl, Nat.le_of_ble_eq_true rfl⟩ (Nat.le_of_ble_eq_true rfl) ⟨Nat.zero_le _, Nat.zero_le _⟩ dX4_found_199 (fun σ1 F th H locs hr hO => ?_)
                        subst hr
                        refine lv_iconst (v := 0) hC.1 hC.2.1 dX4_found_202 (by decide) ?_
                        exact g_iret hC hO dX4_found_203 (by unfold mFoundF mFound mEx; simp [hq, hth, hcl, c_3, c_4, c_5, hnle, hlp, c_8, h116, h126]; try rfl)
                      · skip
                        rw [hcl] at c_11
                        exact absurd h126 c_11
                    · skip
                      rw [hcl] at c_10
                      have h126 := c_10
                      refine g_aload_n hC hl dX4_found_129 rfl rfl ?_
                      refine g_iload_n hC hl dX4_found_130 rfl rfl ?_
                      refine g_cVi1 hC hO hl (ci := 4) rfl (nn_lt (Nat.le_of_ble_eq_true rfl)) rfl (c_X4_count l κ _ _) mi_X4_count q_ml_RX4_104 rfl rfl ⟨Nat.le_of_ble_eq_true rfl, Nat.le_of_ble_eq_true rfl⟩ (Nat.le_of_ble_eq_true rfl) ⟨Nat.zero_le _, Nat.zero_le _⟩ dX4_found_131 (fun r σ1 F th H locs hr hO => ?_)
                      obtain ⟨rfl, rfl⟩ := hr
                      refine lv_bipush (v := 12) hC.1 hC.2.1 dX4_found_134 (by decide) ?_
                      refine lv_icmp_ne (tgt := 142) hC.1 hC.2.1 dX4_found_136 (by decide) (fun c_12 => ?_) (fun c_12 => ?_)
                      · skip
                        have hc9 := cntN_le σ (nI (1001 + k)) 1061
                        rw [show (12 : Int32) = nI 12 from rfl, nI_eq (by omega) (by omega)] at c_12
                        refine g_aload_n hC hl dX4_found_142 rfl rfl ?_
                        refine g_get (ci := 4) (k := 1) hC hO rfl inX4 (by decide) q_fl_RX4_7 (nn_lt (Nat.le_of_ble_eq_true rfl)) rfl rfl dX4_found_143 ?_
                        refine g_iload_n hC hl dX4_found_146 rfl rfl ?_
                        refine g_iald hC hO (nn_lt (Nat.le_of_ble_eq_true rfl)) rfl (vp_in_nI (by omega) (by omega)) dX4_found_147 ?_
                        refine g_iload_n hC hl dX4_found_148 rfl rfl ?_
                        refine lv_icmp_eq (tgt := 171) hC.1 hC.2.1 dX4_found_149 (by decide) (fun c_13 => ?_) (fun c_13 => ?_)
                        · skip
                          rw [hcl] at c_13
                          exact absurd c_13 h126
                        · skip
                          rw [hcl] at c_13
                          refine g_aload_n hC hl dX4_found_152 rfl rfl ?_
                          refine g_iload_n hC hl dX4_found_153 rfl rfl ?_
                          refine g_iload_n hC hl dX4_found_154 rfl rfl ?_
                          refine g_cVv2 hC hO hl (ci := 4) rfl (nn_lt (Nat.le_of_ble_eq_true rfl)) rfl (c_X4_put l κ _ t (by omega) _) mi_X4_put q_ml_RX4_107 rfl rfl ⟨Nat.le_of_ble_eq_true rfl, Nat.le_of_ble_eq_true rfl⟩ (Nat.le_of_ble_eq_true rfl) ⟨Nat.zero_le _, Nat.zero_le _⟩ dX4_found_155 (fun σ1 F th H locs hr hO => ?_)
                          subst hr
                          have hM : MB (mPut σ (nI (1001 + k)) t) := hM.put hk (by rw [show sI σ 10 k = mkF σ (nI (1001 + k)) from (by unfold mkF; rw [hq])]; exact hmk)
                          refine g_aload_n hC hl dX4_found_158 rfl rfl ?_
                          refine g_iload_n hC hl dX4_found_159 rfl rfl ?_
                          refine g_aload_n hC hl dX4_found_160 rfl rfl ?_
                          refine g_get (ci := 4) (k := 3) hC hO rfl inX4 (by decide) q_fl_RX4_16 (nn_lt (Nat.le_of_ble_eq_true rfl)) rfl rfl dX4_found_161 ?_
                          refine g_iload_n hC hl dX4_found_164 rfl rfl ?_
                          refine g_iald hC hO (nn_lt (Nat.le_of_ble_eq_true rfl)) rfl (vp_in_nI (by omega) (by omega)) dX4_found_165 ?_
                          rw [cb]
                          refine g_cVi2 hC hO hl (ci := 4) rfl (nn_lt (Nat.le_of_ble_eq_true rfl)) rfl (c_X4_bring l κ _ (by first | exact hM | exact hM.upA 9 _ (by decide) (by decide) (by decide)) t (by omega) (by omega) _) mi_X4_bring q_ml_RX4_127 rfl rfl ⟨Nat.le_of_ble_eq_true rfl, Nat.le_of_ble_eq_true rfl⟩ (Nat.le_of_ble_eq_true rfl) ⟨Nat.zero_le _, Nat.zero_le _⟩ dX4_found_166 (fun r σ1 F th H locs hr hO => ?_)
                          obtain ⟨rfl, rfl⟩ := hr
                          refine g_istore hC hl dX4_found_169 (Nat.le_of_ble_eq_true rfl) rfl (fun ls hl => ?_)
                          have hl : LL ls 6 [some _, some _, some _, some _, some _, some _] := hl
                          refine g_aload_n hC hl dX4_found_171 rfl rfl ?_
                          refine g_get (ci := 4) (k := 16) hC hO rfl inX4 (by decide) q_fl_RX4_51 (nn_lt (Nat.le_of_ble_eq_true rfl)) rfl rfl dX4_found_172 ?_
                          refine lv_bipush (v := 12) hC.1 hC.2.1 dX4_found_175 (by decide) ?_
                          refine g_iload_n hC hl dX4_found_177 rfl rfl ?_
                          refine lv_imul hC.1 hC.2.1 dX4_found_178 ?_
                          refine g_aload_n hC hl dX4_found_179 rfl rfl ?_
                          refine g_get (ci := 4) (k := 15) hC hO rfl inX4 (by decide) q_fl_RX4_48 (nn_lt (Nat.le_of_ble_eq_true rfl)) rfl rfl dX4_found_180 ?_
                          refine g_iload_n hC hl dX4_found_183 rfl rfl ?_
                          refine g_iald hC hO (nn_lt (Nat.le_of_ble_eq_true rfl)) rfl (vp_in_nI (by omega) (by omega)) dX4_found_184 ?_
                          refine lv_topi (fun v9 ev9 => ?_)
                          have ev9 : v9 = nI (exS σ k) := ev9.trans (by rw [ck]; exact (hL k hk).2.2.1)
                          subst ev9
                          refine lv_iadd hC.1 hC.2.1 dX4_found_185 ?_
                          refine g_iload_n hC hl dX4_found_186 rfl rfl ?_
                          rw [ix12]
                          refine g_iast hC hO (nn_lt (Nat.le_of_ble_eq_true rfl)) (fun _ _ => rfl) (vp_in_nI (by omega) (by omega)) dX4_found_187 (fun H locs hO => ?_)
                          rw [nI_clamp (n := 12 * k + exS σ k) (by have := (hL k hk).2.2.2.1; omega)] at hO
                          refine g_aload_n hC hl dX4_found_188 rfl rfl ?_
                          refine g_get (ci := 4) (k := 15) hC hO rfl inX4 (by decide) q_fl_RX4_48 (nn_lt (Nat.le_of_ble_eq_true rfl)) rfl rfl dX4_found_189 ?_
                          refine g_iload_n hC hl dX4_found_192 rfl rfl ?_
                          refine lv_dup2_11 hC.1 hC.2.1 dX4_found_193 rfl rfl ?_
                          refine g_iald hC hO (nn_lt (Nat.le_of_ble_eq_true rfl)) rfl (vp_in_nI (by omega) (by omega)) dX4_found_194 ?_
                          refine lv_topi (fun v9 ev9 => ?_)
                          have ev9 : v9 = nI (exS σ k) := ev9.trans (by rw [ck]; exact (hL k hk).2.2.1)
                          subst ev9
                          refine lv_iconst (v := 1) hC.1 hC.2.1 dX4_found_195 (by decide) ?_
                          refine lv_iadd hC.1 hC.2.1 dX4_found_196 ?_
                          rw [nI_1]
                          refine g_iast hC hO (nn_lt (Nat.le_of_ble_eq_true rfl)) (fun _ _ => rfl) (vp_in_nI (by omega) (by omega)) dX4_found_197 (fun H locs hO => ?_)
                          rw [ck] at hO
                          refine g_aload_n hC hl dX4_found_198 rfl rfl ?_
                          refine g_cVv0 hC hO hl (ci := 4) rfl (nn_lt (Nat.le_of_ble_eq_true rfl)) rfl (c_X4_addNote l κ _ n (by exact hn) hn2) mi_X4_addNote q_ml_RX4_113 rfl rfl ⟨Nat.le_of_ble_eq_true rfl, Nat.le_of_ble_eq_true rfl⟩ (Nat.le_of_ble_eq_true rfl) ⟨Nat.zero_le _, Nat.zero_le _⟩ dX4_found_199 (fun σ1 F th H locs hr hO => ?_)
                          subst hr
                          refine lv_iconst (v := 0) hC.1 hC.2.1 dX4_found_202 (by decide) ?_
                          exact g_iret hC hO dX4_found_203 (by unfold mFoundF mFound mEx; simp [hq, hth, hcl, c_3, c_4, c_5, hnle, hlp, c_8, h116, h126, c_12]; try rfl)
                      · skip
                        have hc9 := cntN_le σ (nI (1001 + k)) 1061
                        rw [show (12 : Int32) = nI 12 from rfl, nI_eq (by omega) (by omega)] at c_12
                        refine lv_bipush (v := (-14)) hC.1 hC.2.1 dX4_found_139 (by decide) ?_
                        exact g_iret hC hO dX4_found_141 (by unfold mFoundF mFound mEx; simp [hq, hth, hcl, c_3, c_4, c_5, hnle, hlp, c_8, h116, h126, c_12])
                · skip
                  have c_8 := bI_nz c_8
                  refine lv_iconst (v := 0) hC.1 hC.2.1 dX4_found_106 (by decide) ?_
                  exact g_iret hC hO dX4_found_107 (by unfold mFoundF mFound mEx; simp [hq, hth, hcl, c_3, c_4, c_5, hnle, hlp, c_8])
              · skip
                have hlp := c_7
                obtain ⟨p9, hp9, ep9⟩ := lpF_nn hlp
                have e79 : (lpF σ k (nI t) (lnS σ k)).toNatClampNeg = p9 := by rw [ep9, nI_clamp (by have := (hL k hk).2.1; omega)]
                have hp12 : p9 < 12 := by have := (hL k hk).2.1; omega
                refine g_aload_n hC hl dX4_found_82 rfl rfl ?_
                refine g_get (ci := 4) (k := 14) hC hO rfl inX4 (by decide) q_fl_RX4_45 (nn_lt (Nat.le_of_ble_eq_true rfl)) rfl rfl dX4_found_83 ?_
                refine lv_bipush (v := 12) hC.1 hC.2.1 dX4_found_86 (by decide) ?_
                refine g_iload_n hC hl dX4_found_88 rfl rfl ?_
                refine lv_imul hC.1 hC.2.1 dX4_found_89 ?_
                refine g_iload hC hl dX4_found_90 rfl ?_
                refine lv_iadd hC.1 hC.2.1 dX4_found_92 ?_
                rw [ep9, ix12]
                refine lv_iconst (v := 1) hC.1 hC.2.1 dX4_found_93 (by decide) ?_
                refine g_zast hC hO (nn_lt (Nat.le_of_ble_eq_true rfl)) (fun _ _ => rfl) (vp_in_nI (by omega) (by omega)) (by decide) dX4_found_94 (fun H locs hO => ?_)
                rw [nI_clamp (n := 12 * k + p9) (by omega)] at hO
                refine lv_iconst (v := 1) hC.1 hC.2.1 dX4_found_95 (by decide) ?_
                exact g_iret hC hO dX4_found_96 (by unfold mFoundF mFound mEx; simp [hq, hth, hcl, c_3, c_4, c_5, hnle, hlp, e79])
            · skip
              have hmk : mkF σ (nI (1001 + k)) ≤ mkF σ (nI t) := Int32.not_lt.mp c_6
              refine lv_bipush (v := (-13)) hC.1 hC.2.1 dX4_found_66 (by decide) ?_
              exact g_iret hC hO dX4_found_68 (by unfold mFoundF mFound mEx; simp [hq, hth, hcl, c_3, c_4, c_5, hmk])
    · skip
      have c_2 := bI_z c_2
      have hth := c_2
      refine lv_bipush (v := (-11)) hC.1 hC.2.1 dX4_found_21 (by decide) ?_
      exact g_iret hC hO dX4_found_23 (by unfold mFoundF mFound mEx; simp [hq, hth])

set_option maxHeartbeats 4000000 in
set_option maxRecDepth 100000 in
/-- BagRowsModel.differ -/
theorem c_X4_differ (l : Launch) (κ : KK) (σ : ST) (hM : MB σ) (hL : ML σ) (p0 p1 p2 : Int32) : Met l yX4_differ (wA yX4_differ cX4_differ 4 (some .int)) ({ frames := 2, cells := 0, slots := 0, locals := 49 }) (va_Pc [.ref (kad κ 6), .int p0, .int p1, .int p2] (WX κ σ)) (va_Qi (fun r σ' => σ = σ' ∧ r = mDiffer σ p0 p1 p2) (WX κ) (FA κ)) 0 0 (FA κ) := by
  refine g_met 0 (by decide) rfl (Nat.le_of_ble_eq_true rfl) ?_
  intro p e s m args below meth c hC F th hO ls hl
  have hl : LL ls 4 [some _, some _, some _, some _] := hl
  have h60 := hM.2.1
  refine g_aload_n hC hl dX4_differ_0 rfl rfl ?_
  refine lv_iconst (v := 0) hC.1 hC.2.1 dX4_differ_1 (by decide) ?_
  refine g_putT hC hO q_fl_RX4_69 dX4_differ_2 (fun H locs hO => ?_)
  refine g_aload_n hC hl dX4_differ_5 rfl rfl ?_
  refine g_iload_n hC hl dX4_differ_6 rfl rfl ?_
  refine g_cVi1 hC hO hl (ci := 4) rfl (nn_lt (Nat.le_of_ble_eq_true rfl)) rfl (c_X4_isBag l κ _ (by first | exact hM | exact hM.upA 9 _ (by decide) (by decide) (by decide)) _) mi_X4_isBag q_ml_RX4_76 rfl rfl ⟨Nat.le_of_ble_eq_true rfl, Nat.le_of_ble_eq_true rfl⟩ (Nat.le_of_ble_eq_true rfl) ⟨Nat.zero_le _, Nat.zero_le _⟩ dX4_differ_7 (fun r σ1 F th H locs hr hO => ?_)
  obtain ⟨rfl, rfl⟩ := hr
  refine lv_if_ne (tgt := 16) hC.1 hC.2.1 dX4_differ_10 (by decide) (fun c_1 => ?_) (fun c_1 => ?_)
  · skip
    have c_1 := bI_nz c_1
    obtain ⟨k, hq, hk, rfl⟩ := recOf_isSome c_1
    have hbt := thing_bag hq
    have ck : (nI k).toNatClampNeg = k := nI_clamp (by omega)
    have cb : (nI (1001 + k)).toNatClampNeg = 1001 + k := nI_clamp (by omega)
    refine g_iload_n hC hl dX4_differ_16 rfl rfl ?_
    refine lv_if_lt (tgt := 25) hC.1 hC.2.1 dX4_differ_17 (by decide) (fun c_2 => ?_) (fun c_2 => ?_)
    · skip
      refine lv_bipush (v := (-12)) hC.1 hC.2.1 dX4_differ_25 (by decide) ?_
      exact g_iret hC hO dX4_differ_27 (⟨rfl, by unfold mDiffer; simp [hq, c_2]⟩)
    · skip
      refine g_iload_n hC hl dX4_differ_20 rfl rfl ?_
      refine lv_iconst (v := 1) hC.1 hC.2.1 dX4_differ_21 (by decide) ?_
      refine lv_icmp_le (tgt := 28) hC.1 hC.2.1 dX4_differ_22 (by decide) (fun c_3 => ?_) (fun c_3 => ?_)
      · skip
        refine g_aload_n hC hl dX4_differ_28 rfl rfl ?_
        refine g_get (ci := 4) (k := 8) hC hO rfl inX4 (by decide) q_fl_RX4_26 (nn_lt (Nat.le_of_ble_eq_true rfl)) rfl rfl dX4_differ_29 ?_
        refine g_iload_n hC hl dX4_differ_32 rfl rfl ?_
        refine lv_sipush (v := 1001) hC.1 hC.2.1 dX4_differ_33 (by decide) ?_
        refine lv_isub hC.1 hC.2.1 dX4_differ_36 ?_
        rw [sub1001 (by omega)]
        refine g_zald hC hO (nn_lt (Nat.le_of_ble_eq_true rfl)) rfl (vp_in_nI (by omega) (by omega)) dX4_differ_37 ?_
        refine lv_if_ne (tgt := 44) hC.1 hC.2.1 dX4_differ_38 (by decide) (fun c_4 => ?_) (fun c_4 => ?_)
        · skip
          rw [ck] at c_4
          refine g_iload_n hC hl dX4_differ_44 rfl rfl ?_
          refine lv_if_ge (tgt := 52) hC.1 hC.2.1 dX4_differ_45 (by decide) (fun c_5 => ?_) (fun c_5 => ?_)
          · skip
            obtain ⟨i, hi, rfl⟩ := nI_of (Int32.not_lt.mpr c_5)
            have ci : (nI i).toNatClampNeg = i := nI_clamp hi
            have hi0 := nI_pos hi
            refine g_aload_n hC hl dX4_differ_52 rfl rfl ?_
            refine g_iload_n hC hl dX4_differ_53 rfl rfl ?_
            refine lv_sipush (v := 1001) hC.1 hC.2.1 dX4_differ_54 (by decide) ?_
            refine lv_isub hC.1 hC.2.1 dX4_differ_57 ?_
            rw [sub1001 (by omega)]
            refine g_iload_n hC hl dX4_differ_58 rfl rfl ?_
            refine g_iload_n hC hl dX4_differ_59 rfl rfl ?_
            refine g_cVi3 hC hO hl (ci := 4) rfl (nn_lt (Nat.le_of_ble_eq_true rfl)) rfl (c_X4_difference l κ _ k (by omega) (lnS σ k) (hL k hk).1 (hL k hk).2.1 (exS σ k) (hL k hk).2.2.1 (hL k hk).2.2.2.1 (weS σ k) (hL k hk).2.2.2.2.1 (hL k hk).2.2.2.2.2 i hi _) mi_X4_difference q_ml_RX4_134 rfl rfl ⟨Nat.le_of_ble_eq_true rfl, Nat.le_of_ble_eq_true rfl⟩ (Nat.le_of_ble_eq_true rfl) ⟨Nat.zero_le _, Nat.zero_le _⟩ dX4_differ_60 (fun r σ1 F th H locs hr hO => ?_)
            obtain ⟨rfl, rfl⟩ := hr
            exact g_iret hC hO dX4_differ_63 (⟨rfl, by unfold mDiffer; simp [hq, c_2, c_3, c_4, hi0, ci]⟩)
          · skip
            have hi0 : p1 < 0 := Int32.not_le.mp c_5
            refine lv_iconst (v := (-1)) hC.1 hC.2.1 dX4_differ_48 (by decide) ?_
            refine lv_goto (tgt := 63) hC.1 hC.2.1 dX4_differ_49 (by decide) ?_
            exact g_iret hC hO dX4_differ_63 (⟨rfl, by unfold mDiffer; simp [hq, c_2, c_3, c_4, hi0]⟩)
        · skip
          rw [ck] at c_4
          refine lv_bipush (v := (-13)) hC.1 hC.2.1 dX4_differ_41 (by decide) ?_
          exact g_iret hC hO dX4_differ_43 (⟨rfl, by unfold mDiffer; simp [hq, c_2, c_3, c_4]⟩)
      · skip
        refine lv_bipush (v := (-12)) hC.1 hC.2.1 dX4_differ_25 (by decide) ?_
        exact g_iret hC hO dX4_differ_27 (⟨rfl, by unfold mDiffer; simp [hq, c_2, c_3]⟩)
  · skip
    have c_1 := bI_z c_1
    have hq := recOf_no c_1
    refine lv_bipush (v := (-11)) hC.1 hC.2.1 dX4_differ_13 (by decide) ?_
    exact g_iret hC hO dX4_differ_15 (⟨rfl, by unfold mDiffer; simp [hq]⟩)

set_option maxHeartbeats 4000000 in
set_option maxRecDepth 100000 in
/-- BagRowsModel.inside -/
theorem c_X4_inside (l : Launch) (κ : KK) (σ : ST) (hM : MB σ) (p0 : Int32) : Met l yX4_inside (wA yX4_inside cX4_inside 2 (some .int)) ({ frames := 2, cells := 0, slots := 0, locals := 42 }) (va_Pc [.ref (kad κ 6), .int p0] (WX κ σ)) (va_Qi (fun r σ' => σ = σ' ∧ r = mInside σ p0) (WX κ) (FA κ)) 0 0 (FA κ) := by
  refine g_met 0 (by decide) rfl (Nat.le_of_ble_eq_true rfl) ?_
  intro p e s m args below meth c hC F th hO ls hl
  have hl : LL ls 2 [some _, some _] := hl
  have h60 := hM.2.1
  refine g_aload_n hC hl dX4_inside_0 rfl rfl ?_
  refine lv_iconst (v := 0) hC.1 hC.2.1 dX4_inside_1 (by decide) ?_
  refine g_putT hC hO q_fl_RX4_69 dX4_inside_2 (fun H locs hO => ?_)
  refine g_aload_n hC hl dX4_inside_5 rfl rfl ?_
  refine g_iload_n hC hl dX4_inside_6 rfl rfl ?_
  refine g_cVi1 hC hO hl (ci := 4) rfl (nn_lt (Nat.le_of_ble_eq_true rfl)) rfl (c_X4_isThing l κ _ (by first | exact hM | exact hM.upA 9 _ (by decide) (by decide) (by decide)) _) mi_X4_isThing q_ml_RX4_95 rfl rfl ⟨Nat.le_of_ble_eq_true rfl, Nat.le_of_ble_eq_true rfl⟩ (Nat.le_of_ble_eq_true rfl) ⟨Nat.zero_le _, Nat.zero_le _⟩ dX4_inside_7 (fun r σ1 F th H locs hr hO => ?_)
  obtain ⟨rfl, rfl⟩ := hr
  refine lv_if_eq (tgt := 22) hC.1 hC.2.1 dX4_inside_10 (by decide) (fun c_1 => ?_) (fun c_1 => ?_)
  · skip
    have c_1 := bI_z c_1
    have hth := c_1
    refine lv_bipush (v := (-11)) hC.1 hC.2.1 dX4_inside_22 (by decide) ?_
    exact g_iret hC hO dX4_inside_24 (⟨rfl, by unfold mInside; simp [hth]⟩)
  · skip
    have c_1 := bI_nz c_1
    obtain ⟨t, ht1, ht2, rfl⟩ := thing_ex c_1 h60
    have hth : thingB σ (nI t) = true := c_1
    have hcl : (nI t).toNatClampNeg = t := nI_clamp (by omega)
    refine g_aload_n hC hl dX4_inside_13 rfl rfl ?_
    refine g_get (ci := 4) (k := 1) hC hO rfl inX4 (by decide) q_fl_RX4_7 (nn_lt (Nat.le_of_ble_eq_true rfl)) rfl rfl dX4_inside_14 ?_
    refine g_iload_n hC hl dX4_inside_17 rfl rfl ?_
    refine g_iald hC hO (nn_lt (Nat.le_of_ble_eq_true rfl)) rfl (vp_in_nI (by omega) (by omega)) dX4_inside_18 ?_
    refine lv_goto (tgt := 24) hC.1 hC.2.1 dX4_inside_19 (by decide) ?_
    exact g_iret hC hO dX4_inside_24 (⟨rfl, by unfold mInside; simp [hth, hcl]⟩)

set_option maxHeartbeats 4000000 in
set_option maxRecDepth 100000 in
/-- BagRowsModel.place -/
theorem c_X4_place (l : Launch) (κ : KK) (σ : ST) (hM : MB σ) (p0 : Int32) : Met l yX4_place (wA yX4_place cX4_place 2 (some .int)) ({ frames := 2, cells := 0, slots := 0, locals := 42 }) (va_Pc [.ref (kad κ 6), .int p0] (WX κ σ)) (va_Qi (fun r σ' => σ = σ' ∧ r = mPlace σ p0) (WX κ) (FA κ)) 0 0 (FA κ) := by
  refine g_met 0 (by decide) rfl (Nat.le_of_ble_eq_true rfl) ?_
  intro p e s m args below meth c hC F th hO ls hl
  have hl : LL ls 2 [some _, some _] := hl
  have h60 := hM.2.1
  refine g_aload_n hC hl dX4_place_0 rfl rfl ?_
  refine lv_iconst (v := 0) hC.1 hC.2.1 dX4_place_1 (by decide) ?_
  refine g_putT hC hO q_fl_RX4_69 dX4_place_2 (fun H locs hO => ?_)
  refine g_aload_n hC hl dX4_place_5 rfl rfl ?_
  refine g_iload_n hC hl dX4_place_6 rfl rfl ?_
  refine g_cVi1 hC hO hl (ci := 4) rfl (nn_lt (Nat.le_of_ble_eq_true rfl)) rfl (c_X4_isThing l κ _ (by first | exact hM | exact hM.upA 9 _ (by decide) (by decide) (by decide)) _) mi_X4_isThing q_ml_RX4_95 rfl rfl ⟨Nat.le_of_ble_eq_true rfl, Nat.le_of_ble_eq_true rfl⟩ (Nat.le_of_ble_eq_true rfl) ⟨Nat.zero_le _, Nat.zero_le _⟩ dX4_place_7 (fun r σ1 F th H locs hr hO => ?_)
  obtain ⟨rfl, rfl⟩ := hr
  refine lv_if_eq (tgt := 22) hC.1 hC.2.1 dX4_place_10 (by decide) (fun c_1 => ?_) (fun c_1 => ?_)
  · skip
    have c_1 := bI_z c_1
    have hth := c_1
    refine lv_bipush (v := (-11)) hC.1 hC.2.1 dX4_place_22 (by decide) ?_
    exact g_iret hC hO dX4_place_24 (⟨rfl, by unfold mPlace; simp [hth]⟩)
  · skip
    have c_1 := bI_nz c_1
    obtain ⟨t, ht1, ht2, rfl⟩ := thing_ex c_1 h60
    have hth : thingB σ (nI t) = true := c_1
    have hcl : (nI t).toNatClampNeg = t := nI_clamp (by omega)
    refine g_aload_n hC hl dX4_place_13 rfl rfl ?_
    refine g_get (ci := 4) (k := 3) hC hO rfl inX4 (by decide) q_fl_RX4_16 (nn_lt (Nat.le_of_ble_eq_true rfl)) rfl rfl dX4_place_14 ?_
    refine g_iload_n hC hl dX4_place_17 rfl rfl ?_
    refine g_iald hC hO (nn_lt (Nat.le_of_ble_eq_true rfl)) rfl (vp_in_nI (by omega) (by omega)) dX4_place_18 ?_
    refine lv_goto (tgt := 24) hC.1 hC.2.1 dX4_place_19 (by decide) ?_
    exact g_iret hC hO dX4_place_24 (⟨rfl, by unfold mPlace; simp [hth, hcl]⟩)

set_option maxHeartbeats 4000000 in
set_option maxRecDepth 100000 in
/-- BagRowsModel.document -/
theorem c_X4_document (l : Launch) (κ : KK) (σ : ST) (hM : MB σ) (hL : ML σ) (p0 p1 : Int32) : Met l yX4_document (wA yX4_document cX4_document 3 (some .int)) ({ frames := 1, cells := 0, slots := 0, locals := 21 }) (va_Pc [.ref (kad κ 6), .int p0, .int p1] (WX κ σ)) (va_Qi (fun r σ' => σ = σ' ∧ r = mDocument σ p0 p1) (WX κ) (FA κ)) 0 0 (FA κ) := by
  refine g_met 0 (by decide) rfl (Nat.le_of_ble_eq_true rfl) ?_
  intro p e s m args below meth c hC F th hO ls hl
  have hl : LL ls 3 [some _, some _, some _] := hl
  have h60 := hM.2.1
  refine g_aload_n hC hl dX4_document_0 rfl rfl ?_
  refine lv_iconst (v := 0) hC.1 hC.2.1 dX4_document_1 (by decide) ?_
  refine g_putT hC hO q_fl_RX4_69 dX4_document_2 (fun H locs hO => ?_)
  refine g_aload_n hC hl dX4_document_5 rfl rfl ?_
  refine g_iload_n hC hl dX4_document_6 rfl rfl ?_
  refine g_cVi1 hC hO hl (ci := 4) rfl (nn_lt (Nat.le_of_ble_eq_true rfl)) rfl (c_X4_isBag l κ _ (by first | exact hM | exact hM.upA 9 _ (by decide) (by decide) (by decide)) _) mi_X4_isBag q_ml_RX4_76 rfl rfl ⟨Nat.le_of_ble_eq_true rfl, Nat.le_of_ble_eq_true rfl⟩ (Nat.le_of_ble_eq_true rfl) ⟨Nat.zero_le _, Nat.zero_le _⟩ dX4_document_7 (fun r σ1 F th H locs hr hO => ?_)
  obtain ⟨rfl, rfl⟩ := hr
  refine lv_if_ne (tgt := 16) hC.1 hC.2.1 dX4_document_10 (by decide) (fun c_1 => ?_) (fun c_1 => ?_)
  · skip
    have c_1 := bI_nz c_1
    obtain ⟨k, hq, hk, rfl⟩ := recOf_isSome c_1
    have hbt := thing_bag hq
    have ck : (nI k).toNatClampNeg = k := nI_clamp (by omega)
    have cb : (nI (1001 + k)).toNatClampNeg = 1001 + k := nI_clamp (by omega)
    refine g_iload_n hC hl dX4_document_16 rfl rfl ?_
    refine lv_if_lt (tgt := 52) hC.1 hC.2.1 dX4_document_17 (by decide) (fun c_2 => ?_) (fun c_2 => ?_)
    · skip
      --
      refine lv_iconst (v := 0) hC.1 hC.2.1 dX4_document_52 (by decide) ?_
      exact g_iret hC hO dX4_document_53 (⟨rfl, by unfold mDocument; simp [hq, c_2]⟩)
    · skip
      obtain ⟨i, hi, rfl⟩ := nI_of c_2
      have ci : (nI i).toNatClampNeg = i := nI_clamp hi
      refine g_iload_n hC hl dX4_document_20 rfl rfl ?_
      refine g_aload_n hC hl dX4_document_21 rfl rfl ?_
      refine g_get (ci := 4) (k := 12) hC hO rfl inX4 (by decide) q_fl_RX4_39 (nn_lt (Nat.le_of_ble_eq_true rfl)) rfl rfl dX4_document_22 ?_
      refine g_iload_n hC hl dX4_document_25 rfl rfl ?_
      refine lv_sipush (v := 1001) hC.1 hC.2.1 dX4_document_26 (by decide) ?_
      refine lv_isub hC.1 hC.2.1 dX4_document_29 ?_
      rw [sub1001 (by omega)]
      refine g_iald hC hO (nn_lt (Nat.le_of_ble_eq_true rfl)) rfl (vp_in_nI (by omega) (by omega)) dX4_document_30 ?_
      refine lv_icmp_ge (tgt := 52) hC.1 hC.2.1 dX4_document_31 (by decide) (fun c_3 => ?_) (fun c_3 => ?_)
      · skip
        rw [ck, (hL k hk).1] at c_3
        refine lv_iconst (v := 0) hC.1 hC.2.1 dX4_document_52 (by decide) ?_
        exact g_iret hC hO dX4_document_53 (⟨rfl, by unfold mDocument; simp [hq, c_2, ci, c_3]⟩)
      · skip
        rw [ck, (hL k hk).1] at c_3
        have hll := c_3
        have hln := (hL k hk).2.1
        rw [nI_leI (by omega) (by omega)] at hll
        have cx9 : (nI (12 * k + i)).toNatClampNeg = 12 * k + i := nI_clamp (by omega)
        refine g_aload_n hC hl dX4_document_34 rfl rfl ?_
        refine g_get (ci := 4) (k := 13) hC hO rfl inX4 (by decide) q_fl_RX4_42 (nn_lt (Nat.le_of_ble_eq_true rfl)) rfl rfl dX4_document_35 ?_
        refine lv_bipush (v := 12) hC.1 hC.2.1 dX4_document_38 (by decide) ?_
        refine g_iload_n hC hl dX4_document_40 rfl rfl ?_
        refine lv_sipush (v := 1001) hC.1 hC.2.1 dX4_document_41 (by decide) ?_
        refine lv_isub hC.1 hC.2.1 dX4_document_44 ?_
        rw [sub1001 (by omega)]
        refine lv_imul hC.1 hC.2.1 dX4_document_45 ?_
        refine g_iload_n hC hl dX4_document_46 rfl rfl ?_
        refine lv_iadd hC.1 hC.2.1 dX4_document_47 ?_
        rw [ix12]
        refine g_iald hC hO (nn_lt (Nat.le_of_ble_eq_true rfl)) rfl (vp_in_nI (by omega) (by omega)) dX4_document_48 ?_
        refine lv_goto (tgt := 53) hC.1 hC.2.1 dX4_document_49 (by decide) ?_
        exact g_iret hC hO dX4_document_53 (⟨rfl, by unfold mDocument; simp [hq, c_2, ci, c_3, cx9]⟩)
  · skip
    have c_1 := bI_z c_1
    have hq := recOf_no c_1
    refine lv_bipush (v := (-11)) hC.1 hC.2.1 dX4_document_13 (by decide) ?_
    exact g_iret hC hO dX4_document_15 (⟨rfl, by unfold mDocument; simp [hq]⟩)

set_option maxHeartbeats 4000000 in
set_option maxRecDepth 100000 in
/-- BagRowsModel.move -/
theorem c_X4_move (l : Launch) (κ : KK) (σ : ST) (hM : MB σ) (p0 p1 : Int32) : Met l yX4_move (wA yX4_move cX4_move 3 (some .int)) ({ frames := 3, cells := 0, slots := 0, locals := 69 }) (va_Pc [.ref (kad κ 6), .int p0, .int p1] (WX κ σ)) (va_Qi (fun r σ' => (r, σ') = mMove σ p0 p1) (WX κ) (FA κ)) 0 0 (FA κ) := by
  refine g_met 0 (by decide) rfl (Nat.le_of_ble_eq_true rfl) ?_
  intro p e s m args below meth c hC F th hO ls hl
  have hl : LL ls 3 [some _, some _, some _] := hl
  have h60 := hM.2.1
  refine g_aload_n hC hl dX4_move_0 rfl rfl ?_
  refine lv_iconst (v := 0) hC.1 hC.2.1 dX4_move_1 (by decide) ?_
  refine g_putT hC hO q_fl_RX4_69 dX4_move_2 (fun H locs hO => ?_)
  refine g_aload_n hC hl dX4_move_5 rfl rfl ?_
  refine g_iload_n hC hl dX4_move_6 rfl rfl ?_
  refine g_cVi1 hC hO hl (ci := 4) rfl (nn_lt (Nat.le_of_ble_eq_true rfl)) rfl (c_X4_isBag l κ _ (by first | exact hM | exact hM.upA 9 _ (by decide) (by decide) (by decide)) _) mi_X4_isBag q_ml_RX4_76 rfl rfl ⟨Nat.le_of_ble_eq_true rfl, Nat.le_of_ble_eq_true rfl⟩ (Nat.le_of_ble_eq_true rfl) ⟨Nat.zero_le _, Nat.zero_le _⟩ dX4_move_7 (fun r σ1 F th H locs hr hO => ?_)
  obtain ⟨rfl, rfl⟩ := hr
  refine lv_if_ne (tgt := 16) hC.1 hC.2.1 dX4_move_10 (by decide) (fun c_1 => ?_) (fun c_1 => ?_)
  · skip
    have c_1 := bI_nz c_1
    obtain ⟨k, hq, hk, rfl⟩ := recOf_isSome c_1
    have hbt := thing_bag hq
    have ck : (nI k).toNatClampNeg = k := nI_clamp (by omega)
    have cb : (nI (1001 + k)).toNatClampNeg = 1001 + k := nI_clamp (by omega)
    refine g_iload_n hC hl dX4_move_16 rfl rfl ?_
    refine lv_if_lt (tgt := 26) hC.1 hC.2.1 dX4_move_17 (by decide) (fun c_2 => ?_) (fun c_2 => ?_)
    · skip
      refine lv_bipush (v := (-12)) hC.1 hC.2.1 dX4_move_26 (by decide) ?_
      exact g_iret hC hO dX4_move_28 (by unfold mMove; simp [hq, c_2])
    · skip
      refine g_iload_n hC hl dX4_move_20 rfl rfl ?_
      refine lv_bipush (v := 9) hC.1 hC.2.1 dX4_move_21 (by decide) ?_
      refine lv_icmp_le (tgt := 29) hC.1 hC.2.1 dX4_move_23 (by decide) (fun c_3 => ?_) (fun c_3 => ?_)
      · skip
        refine g_aload_n hC hl dX4_move_29 rfl rfl ?_
        refine g_get (ci := 4) (k := 7) hC hO rfl inX4 (by decide) q_fl_RX4_22 (nn_lt (Nat.le_of_ble_eq_true rfl)) rfl rfl dX4_move_30 ?_
        refine g_iload_n hC hl dX4_move_33 rfl rfl ?_
        refine lv_sipush (v := 1001) hC.1 hC.2.1 dX4_move_34 (by decide) ?_
        refine lv_isub hC.1 hC.2.1 dX4_move_37 ?_
        rw [sub1001 (by omega)]
        refine g_zald hC hO (nn_lt (Nat.le_of_ble_eq_true rfl)) rfl (vp_in_nI (by omega) (by omega)) dX4_move_38 ?_
        refine lv_if_eq (tgt := 60) hC.1 hC.2.1 dX4_move_39 (by decide) (fun c_4 => ?_) (fun c_4 => ?_)
        · skip
          rw [ck] at c_4
          refine lv_bipush (v := (-13)) hC.1 hC.2.1 dX4_move_60 (by decide) ?_
          exact g_iret hC hO dX4_move_62 (by unfold mMove; simp [hq, c_2, c_3, c_4])
        · skip
          rw [ck] at c_4
          refine g_aload_n hC hl dX4_move_42 rfl rfl ?_
          refine g_get (ci := 4) (k := 1) hC hO rfl inX4 (by decide) q_fl_RX4_7 (nn_lt (Nat.le_of_ble_eq_true rfl)) rfl rfl dX4_move_43 ?_
          refine g_iload_n hC hl dX4_move_46 rfl rfl ?_
          refine g_iald hC hO (nn_lt (Nat.le_of_ble_eq_true rfl)) rfl (vp_in_nI (by omega) (by omega)) dX4_move_47 ?_
          refine lv_if_ne (tgt := 60) hC.1 hC.2.1 dX4_move_48 (by decide) (fun c_5 => ?_) (fun c_5 => ?_)
          · skip
            rw [cb] at c_5
            refine lv_bipush (v := (-13)) hC.1 hC.2.1 dX4_move_60 (by decide) ?_
            exact g_iret hC hO dX4_move_62 (by unfold mMove; simp [hq, c_2, c_3, c_4, c_5])
          · skip
            rw [cb] at c_5
            refine g_aload_n hC hl dX4_move_51 rfl rfl ?_
            refine g_iload_n hC hl dX4_move_52 rfl rfl ?_
            refine g_iload_n hC hl dX4_move_53 rfl rfl ?_
            refine g_cVi2 hC hO hl (ci := 4) rfl (nn_lt (Nat.le_of_ble_eq_true rfl)) rfl (c_X4_bring l κ _ (by first | exact hM | exact hM.upA 9 _ (by decide) (by decide) (by decide)) (1001 + k) (by omega) (by omega) _) mi_X4_bring q_ml_RX4_127 rfl rfl ⟨Nat.le_of_ble_eq_true rfl, Nat.le_of_ble_eq_true rfl⟩ (Nat.le_of_ble_eq_true rfl) ⟨Nat.zero_le _, Nat.zero_le _⟩ dX4_move_54 (fun r σ1 F th H locs hr hO => ?_)
            obtain ⟨rfl, rfl⟩ := hr
            refine lv_goto (tgt := 62) hC.1 hC.2.1 dX4_move_57 (by decide) ?_
            exact g_iret hC hO dX4_move_62 (by unfold mMove; simp [hq, c_2, c_3, c_4, c_5])
      · skip
        refine lv_bipush (v := (-12)) hC.1 hC.2.1 dX4_move_26 (by decide) ?_
        exact g_iret hC hO dX4_move_28 (by unfold mMove; simp [hq, c_2, c_3])
  · skip
    have c_1 := bI_z c_1
    have hq := recOf_no c_1
    refine lv_bipush (v := (-11)) hC.1 hC.2.1 dX4_move_13 (by decide) ?_
    exact g_iret hC hO dX4_move_15 (by unfold mMove; simp [hq])

set_option maxHeartbeats 4000000 in
set_option maxRecDepth 100000 in
/-- BagRowsModel.weight -/
theorem c_X4_weight (l : Launch) (κ : KK) (σ : ST) (hM : MB σ) (hL : ML σ) (n : Nat) (hn : sI σ 6 21 = nI n) (hn2 : n < 2000) (p0 : Int32) (p1 : Int64) : Met l yX4_weight (wA yX4_weight cX4_weight 9 (some .int)) ({ frames := 2, cells := 0, slots := 0, locals := 45 }) (va_Pc [.ref (kad κ 6), .int p0, .long p1] (WX κ σ)) (va_Qi (fun r σ' => (r, σ') = mWeightF σ p0 p1) (WX κ) (FA κ)) 0 0 (FA κ) := by
  refine g_met 5 (by decide) rfl (Nat.le_of_ble_eq_true rfl) ?_
  intro p e s m args below meth c hC F th hO ls hl
  have hl : LL ls 9 [some _, some _, some _, none, none, none, none, none, none] := hl
  have h60 := hM.2.1
  have loop43 : ∀ (k : Nat), k < 60 → (∀ (F : Nat → Nat → Int32) (th : Int32) (H : Heap) (locs : List Loc), OS κ s.heap σ F th H locs → ∀ ls : Array Slot, LL ls 9 [some (.ref (kad κ 6)), some (.int (nI (1001 + k))), some (.long p1), none, some (.long (mws σ (1001 + k) 1061)), none, none, none, none] → W p l e ({ frames := 2, cells := 0, slots := 0, locals := 45 } : Room) s m args below meth c H locs 0 0 (MQ below (va_Qi (fun r σ' => (r, σ') = mWeightF σ p0 p1) (WX κ) (FA κ)) args s 0 0 (FA κ)) (F0 m 83 ls [])) → ∀ (n2 i : Nat), 1062 ≤ i + n2 → i ≤ 1061 → 1 ≤ i → ∀ (F : Nat → Nat → Int32) (th : Int32) (H : Heap) (locs : List Loc), OS κ s.heap σ F th H locs → ∀ ls : Array Slot, LL ls 9 [some (.ref (kad κ 6)), some (.int (nI (1001 + k))), some (.long p1), none, some (.long (mws σ (1001 + k) i)), none, some (.int (nI i)), none, none] → W p l e ({ frames := 2, cells := 0, slots := 0, locals := 45 } : Room) s m args below meth c H locs 0 0 (MQ below (va_Qi (fun r σ' => (r, σ') = mWeightF σ p0 p1) (WX κ) (FA κ)) args s 0 0 (FA κ)) (F0 m 43 ls []) := by
    intro k hk K n2
    induction n2 with
    | zero => intro i h1 h2; exact absurd h1 (by omega)
    | succ n2 ih =>
      intro i h1 h2 h3 F th H locs hO ls hl
      refine g_iload hC hl dX4_weight_43 rfl ?_
      refine lv_sipush (v := 1061) hC.1 hC.2.1 dX4_weight_45 (by decide) ?_
      refine lv_icmp_ge (tgt := 83) hC.1 hC.2.1 dX4_weight_48 (by decide) (fun c_1 => ?_) (fun c_1 => ?_)
      · skip
        rw [show (1061 : Int32) = nI 1061 from rfl, nI_leI (by omega) (by omega)] at c_1
        have ei : i = 1061 := by omega
        subst ei
        exact K _ _ _ _ hO ls (LL.drop hl 6)
      · skip
        rw [show (1061 : Int32) = nI 1061 from rfl, nI_leI (by omega) (by omega)] at c_1
        refine g_aload_n hC hl dX4_weight_51 rfl rfl ?_
        refine g_iload hC hl dX4_weight_52 rfl ?_
        refine g_iload_n hC hl dX4_weight_54 rfl rfl ?_
        refine g_cVi2 hC hO hl (ci := 4) rfl (nn_lt (Nat.le_of_ble_eq_true rfl)) rfl (c_X4_liesIn l κ _ (by first | exact hM | exact hM.upA 9 _ (by decide) (by decide) (by decide)) i (by omega) _) mi_X4_liesIn q_ml_RX4_116 rfl rfl ⟨Nat.le_of_ble_eq_true rfl, Nat.le_of_ble_eq_true rfl⟩ (Nat.le_of_ble_eq_true rfl) ⟨Nat.zero_le _, Nat.zero_le _⟩ dX4_weight_55 (fun r σ1 F th H locs hr hO => ?_)
        obtain ⟨rfl, rfl⟩ := hr
        refine lv_if_eq (tgt := 73) hC.1 hC.2.1 dX4_weight_58 (by decide) (fun c_2 => ?_) (fun c_2 => ?_)
        · skip
          have c_2 := bI_z c_2
          have hw : mws σ (1001 + k) (i + 1) = mws σ (1001 + k) i := by rw [mws, if_neg (fun q => by rw [c_2] at q; exact absurd q.2 (by decide))]
          refine g_lload hC hl dX4_weight_73 rfl ?_
          refine g_lstore hC hl dX4_weight_75 (Nat.le_of_ble_eq_true rfl) rfl (fun ls hl => ?_)
          have hl : LL ls 9 [some _, some _, some _, none, some _, none, some _, none, none] := hl
          refine g_iinc (v := nI (i + 1)) hC hl dX4_weight_77 rfl (nI_i1 i) (Nat.le_of_ble_eq_true rfl) rfl (fun ls hl => ?_)
          have hl : LL ls 9 [some _, some _, some _, none, some _, none, some _, none, none] := hl
          refine lv_goto (tgt := 43) hC.1 hC.2.1 dX4_weight_80 (by decide) ?_
          exact ih (i + 1) (by omega) (by omega) (by omega) _ _ _ _ hO ls (by rw [hw]; exact hl)
        · skip
          have c_2 := bI_nz c_2
          have hw : mws σ (1001 + k) (i + 1) = mws σ (1001 + k) i + ownM σ i := by rw [mws, if_pos ⟨h3, c_2⟩]
          refine g_lload hC hl dX4_weight_61 rfl ?_
          refine g_aload_n hC hl dX4_weight_63 rfl rfl ?_
          refine g_iload hC hl dX4_weight_64 rfl ?_
          refine g_cVl1 hC hO hl (ci := 4) rfl (nn_lt (Nat.le_of_ble_eq_true rfl)) rfl (c_X4_own l κ _ i (by omega)) mi_X4_own q_ml_RX4_142 rfl rfl ⟨Nat.le_of_ble_eq_true rfl, Nat.le_of_ble_eq_true rfl⟩ (Nat.le_of_ble_eq_true rfl) ⟨Nat.zero_le _, Nat.zero_le _⟩ dX4_weight_66 (fun r σ1 F th H locs hr hO => ?_)
          obtain ⟨rfl, rfl⟩ := hr
          refine lv_ladd hC.1 hC.2.1 dX4_weight_69 ?_
          refine lv_goto (tgt := 75) hC.1 hC.2.1 dX4_weight_70 (by decide) ?_
          refine g_lstore hC hl dX4_weight_75 (Nat.le_of_ble_eq_true rfl) rfl (fun ls hl => ?_)
          have hl : LL ls 9 [some _, some _, some _, none, some _, none, some _, none, none] := hl
          refine g_iinc (v := nI (i + 1)) hC hl dX4_weight_77 rfl (nI_i1 i) (Nat.le_of_ble_eq_true rfl) rfl (fun ls hl => ?_)
          have hl : LL ls 9 [some _, some _, some _, none, some _, none, some _, none, none] := hl
          refine lv_goto (tgt := 43) hC.1 hC.2.1 dX4_weight_80 (by decide) ?_
          exact ih (i + 1) (by omega) (by omega) (by omega) _ _ _ _ hO ls (by rw [hw]; exact hl)
  refine g_aload_n hC hl dX4_weight_0 rfl rfl ?_
  refine lv_iconst (v := 0) hC.1 hC.2.1 dX4_weight_1 (by decide) ?_
  refine g_putT hC hO q_fl_RX4_69 dX4_weight_2 (fun H locs hO => ?_)
  refine g_aload_n hC hl dX4_weight_5 rfl rfl ?_
  refine g_iload_n hC hl dX4_weight_6 rfl rfl ?_
  refine g_cVi1 hC hO hl (ci := 4) rfl (nn_lt (Nat.le_of_ble_eq_true rfl)) rfl (c_X4_isBag l κ _ (by first | exact hM | exact hM.upA 9 _ (by decide) (by decide) (by decide)) _) mi_X4_isBag q_ml_RX4_76 rfl rfl ⟨Nat.le_of_ble_eq_true rfl, Nat.le_of_ble_eq_true rfl⟩ (Nat.le_of_ble_eq_true rfl) ⟨Nat.zero_le _, Nat.zero_le _⟩ dX4_weight_7 (fun r σ1 F th H locs hr hO => ?_)
  obtain ⟨rfl, rfl⟩ := hr
  refine lv_if_ne (tgt := 16) hC.1 hC.2.1 dX4_weight_10 (by decide) (fun c_3 => ?_) (fun c_3 => ?_)
  · skip
    have c_3 := bI_nz c_3
    obtain ⟨k, hq, hk, rfl⟩ := recOf_isSome c_3
    have hbt := thing_bag hq
    have ck : (nI k).toNatClampNeg = k := nI_clamp (by omega)
    have cb : (nI (1001 + k)).toNatClampNeg = 1001 + k := nI_clamp (by omega)
    refine g_lload_n hC hl dX4_weight_16 rfl rfl ?_
    refine lv_lconst (v := 0) hC.1 hC.2.1 dX4_weight_17 (by decide) ?_
    refine W.lcmp hC.1 hC.2.1 dX4_weight_18 ?_
    refine lv_if_lt (tgt := 30) hC.1 hC.2.1 dX4_weight_19 (by decide) (fun c_4 => ?_) (fun c_4 => ?_)
    · skip
      rw [lg_cmp_lt] at c_4
      refine lv_bipush (v := (-12)) hC.1 hC.2.1 dX4_weight_30 (by decide) ?_
      exact g_iret hC hO dX4_weight_32 (by unfold mWeightF mWeight; rw [hq]; simp only [hq, c_4, if_true, if_false, not_false_eq_true, reduceIte, not_true_eq_false])
    · skip
      rw [lg_cmp_lt] at c_4
      refine g_lload_n hC hl dX4_weight_22 rfl rfl ?_
      refine lv_ldc2 hC.1 hC.2.1 hC.2.2.2.1 (hC.2.2.2.2.1 _ q_kl_RX4_111) dX4_weight_23 ?_
      refine W.lcmp hC.1 hC.2.1 dX4_weight_26 ?_
      refine lv_if_le (tgt := 33) hC.1 hC.2.1 dX4_weight_27 (by decide) (fun c_5 => ?_) (fun c_5 => ?_)
      · skip
        rw [lg_cmp_le] at c_5
        refine g_aload_n hC hl dX4_weight_33 rfl rfl ?_
        refine g_iload_n hC hl dX4_weight_34 rfl rfl ?_
        refine g_cVl1 hC hO hl (ci := 4) rfl (nn_lt (Nat.le_of_ble_eq_true rfl)) rfl (c_X4_own l κ _ (1001 + k) (by omega)) mi_X4_own q_ml_RX4_142 rfl rfl ⟨Nat.le_of_ble_eq_true rfl, Nat.le_of_ble_eq_true rfl⟩ (Nat.le_of_ble_eq_true rfl) ⟨Nat.zero_le _, Nat.zero_le _⟩ dX4_weight_35 (fun r σ1 F th H locs hr hO => ?_)
        obtain ⟨rfl, rfl⟩ := hr
        refine g_lstore hC hl dX4_weight_38 (Nat.le_of_ble_eq_true rfl) rfl (fun ls hl => ?_)
        have hl : LL ls 9 [some _, some _, some _, none, some _, none, none, none, none] := hl
        refine lv_iconst (v := 1) hC.1 hC.2.1 dX4_weight_40 (by decide) ?_
        refine g_istore hC hl dX4_weight_41 (Nat.le_of_ble_eq_true rfl) rfl (fun ls hl => ?_)
        have hl : LL ls 9 [some _, some _, some _, none, some _, none, some _, none, none] := hl
        refine loop43 k (by omega) ?_ 1061 1 (by omega) (by omega) (by omega) _ _ _ _ hO ls hl
        intro F th H locs hO ls hl
        refine g_lload_n hC hl dX4_weight_83 rfl rfl ?_
        refine g_lload hC hl dX4_weight_84 rfl ?_
        refine W.lcmp hC.1 hC.2.1 dX4_weight_86 ?_
        refine lv_if_ge (tgt := 97) hC.1 hC.2.1 dX4_weight_87 (by decide) (fun c_6 => ?_) (fun c_6 => ?_)
        · skip
          rw [lg_cmp_ge] at c_6
          refine g_lload_n hC hl dX4_weight_97 rfl rfl ?_
          refine g_lload hC hl dX4_weight_98 rfl ?_
          refine lv_lsub hC.1 hC.2.1 dX4_weight_100 ?_
          refine g_lstore hC hl dX4_weight_101 (Nat.le_of_ble_eq_true rfl) rfl (fun ls hl => ?_)
          have hl : LL ls 9 [some _, some _, some _, none, some _, none, some _, none, none] := hl
          refine g_lload hC hl dX4_weight_103 rfl ?_
          refine g_lload hC hl dX4_weight_105 rfl ?_
          refine lv_ldc2 hC.1 hC.2.1 hC.2.2.2.1 (hC.2.2.2.2.1 _ q_kl_RX4_146) dX4_weight_107 ?_
          refine lv_ldiv hC.1 hC.2.1 dX4_weight_110 (by decide) ?_
          refine W.lcmp hC.1 hC.2.1 dX4_weight_111 ?_
          refine lv_if_gt (tgt := 117) hC.1 hC.2.1 dX4_weight_112 (by decide) (fun c_7 => ?_) (fun c_7 => ?_)
          · skip
            rw [lg_cmp_gt] at c_7
            refine g_iload_n hC hl dX4_weight_117 rfl rfl ?_
            refine lv_sipush (v := 1001) hC.1 hC.2.1 dX4_weight_118 (by decide) ?_
            refine lv_isub hC.1 hC.2.1 dX4_weight_121 ?_
            rw [sub1001 (by omega)]
            refine g_istore hC hl dX4_weight_122 (Nat.le_of_ble_eq_true rfl) rfl (fun ls hl => ?_)
            have hl : LL ls 9 [some _, some _, some _, none, some _, none, some _, none, some _] := hl
            refine g_aload_n hC hl dX4_weight_124 rfl rfl ?_
            refine g_get (ci := 4) (k := 17) hC hO rfl inX4 (by decide) q_fl_RX4_54 (nn_lt (Nat.le_of_ble_eq_true rfl)) rfl rfl dX4_weight_125 ?_
            refine g_iload hC hl dX4_weight_128 rfl ?_
            refine g_iald hC hO (nn_lt (Nat.le_of_ble_eq_true rfl)) rfl (vp_in_nI (by omega) (by omega)) dX4_weight_130 ?_
            refine lv_bipush (v := 6) hC.1 hC.2.1 dX4_weight_131 (by decide) ?_
            refine lv_icmp_ge (tgt := 166) hC.1 hC.2.1 dX4_weight_133 (by decide) (fun c_8 => ?_) (fun c_8 => ?_)
            · skip
              rw [ck, (hL k hk).2.2.2.2.1, show (6 : Int32) = nI 6 from rfl, nI_leI (by omega) (by have := (hL k hk).2.2.2.2.2; omega)] at c_8
              have h6 : ¬ weS σ k < 6 := by omega
              refine g_aload_n hC hl dX4_weight_166 rfl rfl ?_
              refine g_cVv0 hC hO hl (ci := 4) rfl (nn_lt (Nat.le_of_ble_eq_true rfl)) rfl (c_X4_addNote l κ _ n (by exact hn) hn2) mi_X4_addNote q_ml_RX4_113 rfl rfl ⟨Nat.le_of_ble_eq_true rfl, Nat.le_of_ble_eq_true rfl⟩ (Nat.le_of_ble_eq_true rfl) ⟨Nat.zero_le _, Nat.zero_le _⟩ dX4_weight_167 (fun σ1 F th H locs hr hO => ?_)
              subst hr
              refine lv_iconst (v := 0) hC.1 hC.2.1 dX4_weight_170 (by decide) ?_
              exact g_iret hC hO dX4_weight_171 (by unfold mWeightF mWeight; rw [hq]; simp only [hq, c_4, c_5, c_6, c_7, h6, if_true, if_false, not_false_eq_true, reduceIte, not_true_eq_false])
            · skip
              rw [ck, (hL k hk).2.2.2.2.1, show (6 : Int32) = nI 6 from rfl, nI_leI (by omega) (by have := (hL k hk).2.2.2.2.2; omega)] at c_8
              have h6 : weS σ k < 6 := by omega
              refine g_aload_n hC hl dX4_weight_136 rfl rfl ?_
              refine g_get (ci := 4) (k := 18) hC hO rfl inX4 (by decide) q_fl_RX4_57 (nn_lt (Nat.le_of_ble_eq_true rfl)) rfl rfl dX4_weight_137 ?_
              refine lv_bipush (v := 6) hC.1 hC.2.1 dX4_weight_140 (by decide) ?_
              refine g_iload hC hl dX4_weight_142 rfl ?_
              refine lv_imul hC.1 hC.2.1 dX4_weight_144 ?_
              refine g_aload_n hC hl dX4_weight_145 rfl rfl ?_
              refine g_get (ci := 4) (k := 17) hC hO rfl inX4 (by decide) q_fl_RX4_54 (nn_lt (Nat.le_of_ble_eq_true rfl)) rfl rfl dX4_weight_146 ?_
              refine g_iload hC hl dX4_weight_149 rfl ?_
              refine g_iald hC hO (nn_lt (Nat.le_of_ble_eq_true rfl)) rfl (vp_in_nI (by omega) (by omega)) dX4_weight_151 ?_
              refine lv_topi (fun v9 ev9 => ?_)
              have ev9 : v9 = nI (weS σ k) := ev9.trans (by rw [ck]; exact (hL k hk).2.2.2.2.1)
              subst ev9
              refine lv_iadd hC.1 hC.2.1 dX4_weight_152 ?_
              rw [ix6]
              refine g_lload_n hC hl dX4_weight_153 rfl rfl ?_
              refine g_last hC hO (nn_lt (Nat.le_of_ble_eq_true rfl)) (fun _ _ => rfl) (vp_in_nI (by omega) (by omega)) dX4_weight_154 (fun H locs hO => ?_)
              rw [nI_clamp (n := 6 * k + weS σ k) (by omega)] at hO
              refine g_aload_n hC hl dX4_weight_155 rfl rfl ?_
              refine g_get (ci := 4) (k := 17) hC hO rfl inX4 (by decide) q_fl_RX4_54 (nn_lt (Nat.le_of_ble_eq_true rfl)) rfl rfl dX4_weight_156 ?_
              refine g_iload hC hl dX4_weight_159 rfl ?_
              refine lv_dup2_11 hC.1 hC.2.1 dX4_weight_161 rfl rfl ?_
              refine g_iald hC hO (nn_lt (Nat.le_of_ble_eq_true rfl)) rfl (vp_in_nI (by omega) (by omega)) dX4_weight_162 ?_
              refine lv_topi (fun v9 ev9 => ?_)
              have ev9 : v9 = nI (weS σ k) := ev9.trans (by rw [ck]; exact (hL k hk).2.2.2.2.1)
              subst ev9
              refine lv_iconst (v := 1) hC.1 hC.2.1 dX4_weight_163 (by decide) ?_
              refine lv_iadd hC.1 hC.2.1 dX4_weight_164 ?_
              rw [nI_1]
              refine g_iast hC hO (nn_lt (Nat.le_of_ble_eq_true rfl)) (fun _ _ => rfl) (vp_in_nI (by omega) (by omega)) dX4_weight_165 (fun H locs hO => ?_)
              rw [ck] at hO
              refine g_aload_n hC hl dX4_weight_166 rfl rfl ?_
              refine g_cVv0 hC hO hl (ci := 4) rfl (nn_lt (Nat.le_of_ble_eq_true rfl)) rfl (c_X4_addNote l κ _ n (by exact hn) hn2) mi_X4_addNote q_ml_RX4_113 rfl rfl ⟨Nat.le_of_ble_eq_true rfl, Nat.le_of_ble_eq_true rfl⟩ (Nat.le_of_ble_eq_true rfl) ⟨Nat.zero_le _, Nat.zero_le _⟩ dX4_weight_167 (fun σ1 F th H locs hr hO => ?_)
              subst hr
              refine lv_iconst (v := 0) hC.1 hC.2.1 dX4_weight_170 (by decide) ?_
              exact g_iret hC hO dX4_weight_171 (by unfold mWeightF mWeight; rw [hq]; simp only [hq, c_4, c_5, c_6, c_7, h6, if_true, if_false, not_false_eq_true, reduceIte, not_true_eq_false])
          · skip
            rw [lg_cmp_gt] at c_7
            refine lv_iconst (v := 1) hC.1 hC.2.1 dX4_weight_115 (by decide) ?_
            exact g_iret hC hO dX4_weight_116 (by unfold mWeightF mWeight; rw [hq]; simp only [hq, c_4, c_5, c_6, c_7, if_true, if_false, not_false_eq_true, reduceIte, not_true_eq_false])
        · skip
          rw [lg_cmp_ge] at c_6
          refine g_lload hC hl dX4_weight_90 rfl ?_
          refine g_lload_n hC hl dX4_weight_92 rfl rfl ?_
          refine lv_lsub hC.1 hC.2.1 dX4_weight_93 ?_
          refine lv_goto (tgt := 101) hC.1 hC.2.1 dX4_weight_94 (by decide) ?_
          refine g_lstore hC hl dX4_weight_101 (Nat.le_of_ble_eq_true rfl) rfl (fun ls hl => ?_)
          have hl : LL ls 9 [some _, some _, some _, none, some _, none, some _, none, none] := hl
          refine g_lload hC hl dX4_weight_103 rfl ?_
          refine g_lload hC hl dX4_weight_105 rfl ?_
          refine lv_ldc2 hC.1 hC.2.1 hC.2.2.2.1 (hC.2.2.2.2.1 _ q_kl_RX4_146) dX4_weight_107 ?_
          refine lv_ldiv hC.1 hC.2.1 dX4_weight_110 (by decide) ?_
          refine W.lcmp hC.1 hC.2.1 dX4_weight_111 ?_
          refine lv_if_gt (tgt := 117) hC.1 hC.2.1 dX4_weight_112 (by decide) (fun c_9 => ?_) (fun c_9 => ?_)
          · skip
            rw [lg_cmp_gt] at c_9
            refine g_iload_n hC hl dX4_weight_117 rfl rfl ?_
            refine lv_sipush (v := 1001) hC.1 hC.2.1 dX4_weight_118 (by decide) ?_
            refine lv_isub hC.1 hC.2.1 dX4_weight_121 ?_
            rw [sub1001 (by omega)]
            refine g_istore hC hl dX4_weight_122 (Nat.le_of_ble_eq_true rfl) rfl (fun ls hl => ?_)
            have hl : LL ls 9 [some _, some _, some _, none, some _, none, some _, none, some _] := hl
            refine g_aload_n hC hl dX4_weight_124 rfl rfl ?_
            refine g_get (ci := 4) (k := 17) hC hO rfl inX4 (by decide) q_fl_RX4_54 (nn_lt (Nat.le_of_ble_eq_true rfl)) rfl rfl dX4_weight_125 ?_
            refine g_iload hC hl dX4_weight_128 rfl ?_
            refine g_iald hC hO (nn_lt (Nat.le_of_ble_eq_true rfl)) rfl (vp_in_nI (by omega) (by omega)) dX4_weight_130 ?_
            refine lv_bipush (v := 6) hC.1 hC.2.1 dX4_weight_131 (by decide) ?_
            refine lv_icmp_ge (tgt := 166) hC.1 hC.2.1 dX4_weight_133 (by decide) (fun c_10 => ?_) (fun c_10 => ?_)
            · skip
              rw [ck, (hL k hk).2.2.2.2.1, show (6 : Int32) = nI 6 from rfl, nI_leI (by omega) (by have := (hL k hk).2.2.2.2.2; omega)] at c_10
              have h6 : ¬ weS σ k < 6 := by omega
              refine g_aload_n hC hl dX4_weight_166 rfl rfl ?_
              refine g_cVv0 hC hO hl (ci := 4) rfl (nn_lt (Nat.le_of_ble_eq_true rfl)) rfl (c_X4_addNote l κ _ n (by exact hn) hn2) mi_X4_addNote q_ml_RX4_113 rfl rfl ⟨Nat.le_of_ble_eq_true rfl, Nat.le_of_ble_eq_true rfl⟩ (Nat.le_of_ble_eq_true rfl) ⟨Nat.zero_le _, Nat.zero_le _⟩ dX4_weight_167 (fun σ1 F th H locs hr hO => ?_)
              subst hr
              refine lv_iconst (v := 0) hC.1 hC.2.1 dX4_weight_170 (by decide) ?_
              exact g_iret hC hO dX4_weight_171 (by unfold mWeightF mWeight; rw [hq]; simp only [hq, c_4, c_5, c_6, c_9, h6, if_true, if_false, not_false_eq_true, reduceIte, not_true_eq_false])
            · skip
              rw [ck, (hL k hk).2.2.2.2.1, show (6 : Int32) = nI 6 from rfl, nI_leI (by omega) (by have := (hL k hk).2.2.2.2.2; omega)] at c_10
              have h6 : weS σ k < 6 := by omega
              refine g_aload_n hC hl dX4_weight_136 rfl rfl ?_
              refine g_get (ci := 4) (k := 18) hC hO rfl inX4 (by decide) q_fl_RX4_57 (nn_lt (Nat.le_of_ble_eq_true rfl)) rfl rfl dX4_weight_137 ?_
              refine lv_bipush (v := 6) hC.1 hC.2.1 dX4_weight_140 (by decide) ?_
              refine g_iload hC hl dX4_weight_142 rfl ?_
              refine lv_imul hC.1 hC.2.1 dX4_weight_144 ?_
              refine g_aload_n hC hl dX4_weight_145 rfl rfl ?_
              refine g_get (ci := 4) (k := 17) hC hO rfl inX4 (by decide) q_fl_RX4_54 (nn_lt (Nat.le_of_ble_eq_true rfl)) rfl rfl dX4_weight_146 ?_
              refine g_iload hC hl dX4_weight_149 rfl ?_
              refine g_iald hC hO (nn_lt (Nat.le_of_ble_eq_true rfl)) rfl (vp_in_nI (by omega) (by omega)) dX4_weight_151 ?_
              refine lv_topi (fun v9 ev9 => ?_)
              have ev9 : v9 = nI (weS σ k) := ev9.trans (by rw [ck]; exact (hL k hk).2.2.2.2.1)
              subst ev9
              refine lv_iadd hC.1 hC.2.1 dX4_weight_152 ?_
              rw [ix6]
              refine g_lload_n hC hl dX4_weight_153 rfl rfl ?_
              refine g_last hC hO (nn_lt (Nat.le_of_ble_eq_true rfl)) (fun _ _ => rfl) (vp_in_nI (by omega) (by omega)) dX4_weight_154 (fun H locs hO => ?_)
              rw [nI_clamp (n := 6 * k + weS σ k) (by omega)] at hO
              refine g_aload_n hC hl dX4_weight_155 rfl rfl ?_
              refine g_get (ci := 4) (k := 17) hC hO rfl inX4 (by decide) q_fl_RX4_54 (nn_lt (Nat.le_of_ble_eq_true rfl)) rfl rfl dX4_weight_156 ?_
              refine g_iload hC hl dX4_weight_159 rfl ?_
              refine lv_dup2_11 hC.1 hC.2.1 dX4_weight_161 rfl rfl ?_
              refine g_iald hC hO (nn_lt (Nat.le_of_ble_eq_true rfl)) rfl (vp_in_nI (by omega) (by omega)) dX4_weight_162 ?_
              refine lv_topi (fun v9 ev9 => ?_)
              have ev9 : v9 = nI (weS σ k) := ev9.trans (by rw [ck]; exact (hL k hk).2.2.2.2.1)
              subst ev9
              refine lv_iconst (v := 1) hC.1 hC.2.1 dX4_weight_163 (by decide) ?_
              refine lv_iadd hC.1 hC.2.1 dX4_weight_164 ?_
              rw [nI_1]
              refine g_iast hC hO (nn_lt (Nat.le_of_ble_eq_true rfl)) (fun _ _ => rfl) (vp_in_nI (by omega) (by omega)) dX4_weight_165 (fun H locs hO => ?_)
              rw [ck] at hO
              refine g_aload_n hC hl dX4_weight_166 rfl rfl ?_
              refine g_cVv0 hC hO hl (ci := 4) rfl (nn_lt (Nat.le_of_ble_eq_true rfl)) rfl (c_X4_addNote l κ _ n (by exact hn) hn2) mi_X4_addNote q_ml_RX4_113 rfl rfl ⟨Nat.le_of_ble_eq_true rfl, Nat.le_of_ble_eq_true rfl⟩ (Nat.le_of_ble_eq_true rfl) ⟨Nat.zero_le _, Nat.zero_le _⟩ dX4_weight_167 (fun σ1 F th H locs hr hO => ?_)
              subst hr
              refine lv_iconst (v := 0) hC.1 hC.2.1 dX4_weight_170 (by decide) ?_
              exact g_iret hC hO dX4_weight_171 (by unfold mWeightF mWeight; rw [hq]; simp only [hq, c_4, c_5, c_6, c_9, h6, if_true, if_false, not_false_eq_true, reduceIte, not_true_eq_false])
          · skip
            rw [lg_cmp_gt] at c_9
            refine lv_iconst (v := 1) hC.1 hC.2.1 dX4_weight_115 (by decide) ?_
            exact g_iret hC hO dX4_weight_116 (by unfold mWeightF mWeight; rw [hq]; simp only [hq, c_4, c_5, c_6, c_9, if_true, if_false, not_false_eq_true, reduceIte, not_true_eq_false])
      · skip
        rw [lg_cmp_le] at c_5
        refine lv_bipush (v := (-12)) hC.1 hC.2.1 dX4_weight_30 (by decide) ?_
        exact g_iret hC hO dX4_weight_32 (by unfold mWeightF mWeight; rw [hq]; simp only [hq, c_4, c_5, if_true, if_false, not_false_eq_true, reduceIte, not_true_eq_false])
  · skip
    have c_3 := bI_z c_3
    have hq := recOf_no c_3
    refine lv_bipush (v := (-11)) hC.1 hC.2.1 dX4_weight_13 (by decide) ?_
    exact g_iret hC hO dX4_weight_15 (by unfold mWeightF mWeight; simp [hq])

set_option maxHeartbeats 4000000 in
set_option maxRecDepth 100000 in
/-- BagRowsModel.tick -/
theorem c_X4_tick (l : Launch) (κ : KK) (σ : ST) (n : Nat) (hn : sI σ 6 21 = nI n) (hn2 : n < 2000) (p0 : Int64) : Met l yX4_tick (wA yX4_tick cX4_tick 5 (some .int)) ({ frames := 0, cells := 0, slots := 0, locals := 0 }) (va_Pc [.ref (kad κ 6), .long p0] (WX κ σ)) (va_Qi (fun r σ' => (r, σ') = mTick σ n p0) (WX κ) (FA κ)) 0 0 (FA κ) := by
  refine g_met 2 (by decide) rfl (Nat.le_of_ble_eq_true rfl) ?_
  intro p e s m args below meth c hC F th hO ls hl
  have hl : LL ls 5 [some _, some _, none, none, none] := hl
  skip
  have loop35 : mTick σ n p0 = (nI (tkN σ (sJ σ 6 20) p0 n), upJ (upJ σ 6 19 p0) 6 20 p0) → ∀ (n2 i : Nat), n + 1 ≤ i + n2 → i ≤ n → ∀ (F : Nat → Nat → Int32) (th : Int32) (H : Heap) (locs : List Loc), OS κ s.heap (upJ σ 6 19 p0) F th H locs → ∀ ls : Array Slot, LL ls 5 [some (.ref (kad κ 6)), some (.long p0), none, some (.int (nI (tkN σ (sJ σ 6 20) p0 i))), some (.int (nI i))] → W p l e ({ frames := 0, cells := 0, slots := 0, locals := 0 } : Room) s m args below meth c H locs 0 0 (MQ below (va_Qi (fun r σ' => (r, σ') = mTick σ n p0) (WX κ) (FA κ)) args s 0 0 (FA κ)) (F0 m 35 ls []) := by
    intro hres n2
    induction n2 with
    | zero => intro i h1 h2; exact absurd h1 (by omega)
    | succ n2 ih =>
      intro i h1 h2 F th H locs hO ls hl
      refine g_iload hC hl dX4_tick_35 rfl ?_
      refine g_aload_n hC hl dX4_tick_37 rfl rfl ?_
      refine g_get (ci := 4) (k := 21) hC hO rfl inX4 (by decide) q_fl_RX4_87 (nn_lt (Nat.le_of_ble_eq_true rfl)) rfl rfl dX4_tick_38 ?_
      refine lv_icmp_ge (tgt := 88) hC.1 hC.2.1 dX4_tick_41 (by decide) (fun c_1 => ?_) (fun c_1 => ?_)
      · skip
        rw [show sI (upJ σ 6 19 p0) 6 21 = nI n from hn, nI_leI (by omega) (by omega)] at c_1
        have ei : i = n := by omega
        subst ei
        refine g_aload_n hC hl dX4_tick_88 rfl rfl ?_
        refine g_aload_n hC hl dX4_tick_89 rfl rfl ?_
        refine g_get (ci := 4) (k := 19) hC hO rfl inX4 (by decide) q_fl_RX4_90 (nn_lt (Nat.le_of_ble_eq_true rfl)) rfl rfl dX4_tick_90 ?_
        refine g_putl (ci := 4) (k := 20) hC hO rfl inX4 tyX4_ok nmX4 (by decide) q_fl_RX4_62 rfl (nn_lt (Nat.le_of_ble_eq_true rfl)) rfl (Nat.le_of_ble_eq_true rfl) rfl rfl rfl dX4_tick_93 (fun H locs hO => ?_)
        refine g_iload_n hC hl dX4_tick_96 rfl rfl ?_
        exact g_iret hC hO dX4_tick_97 (hres.symm)
      · skip
        rw [show sI (upJ σ 6 19 p0) 6 21 = nI n from hn, nI_leI (by omega) (by omega)] at c_1
        refine g_aload_n hC hl dX4_tick_44 rfl rfl ?_
        refine g_get (ci := 4) (k := 22) hC hO rfl inX4 (by decide) q_fl_RX4_66 (nn_lt (Nat.le_of_ble_eq_true rfl)) rfl rfl dX4_tick_45 ?_
        refine g_iload hC hl dX4_tick_48 rfl ?_
        refine g_lald hC hO (nn_lt (Nat.le_of_ble_eq_true rfl)) rfl (vp_in_nI (by omega) (by omega)) dX4_tick_50 ?_
        refine g_aload_n hC hl dX4_tick_51 rfl rfl ?_
        refine g_get (ci := 4) (k := 20) hC hO rfl inX4 (by decide) q_fl_RX4_62 (nn_lt (Nat.le_of_ble_eq_true rfl)) rfl rfl dX4_tick_52 ?_
        refine W.lcmp hC.1 hC.2.1 dX4_tick_55 ?_
        refine lv_if_le (tgt := 80) hC.1 hC.2.1 dX4_tick_56 (by decide) (fun c_2 => ?_) (fun c_2 => ?_)
        · skip
          rw [lg_cmp_le] at c_2
          rw [nI_clamp (n := i) (by omega)] at c_2
          have hw : nI (tkN σ (sJ σ 6 20) p0 (i + 1)) = nI (tkN σ (sJ σ 6 20) p0 i) := by rw [tkN, if_neg (fun q => absurd q.1 (Int64.not_lt.mpr c_2))]
          refine g_iload_n hC hl dX4_tick_80 rfl rfl ?_
          refine g_istore_n hC hl dX4_tick_81 rfl (Nat.le_of_ble_eq_true rfl) rfl (fun ls hl => ?_)
          have hl : LL ls 5 [some _, some _, none, some _, some _] := hl
          refine g_iinc (v := nI (i + 1)) hC hl dX4_tick_82 rfl (nI_i1 i) (Nat.le_of_ble_eq_true rfl) rfl (fun ls hl => ?_)
          have hl : LL ls 5 [some _, some _, none, some _, some _] := hl
          refine lv_goto (tgt := 35) hC.1 hC.2.1 dX4_tick_85 (by decide) ?_
          exact ih (i + 1) (by omega) (by omega) _ _ _ _ hO ls (by rw [hw]; exact hl)
        · skip
          rw [lg_cmp_le] at c_2
          rw [nI_clamp (n := i) (by omega)] at c_2
          have h56 : sJ σ 6 20 < sJ σ 23 i := Int64.not_le.mp c_2
          refine g_aload_n hC hl dX4_tick_59 rfl rfl ?_
          refine g_get (ci := 4) (k := 22) hC hO rfl inX4 (by decide) q_fl_RX4_66 (nn_lt (Nat.le_of_ble_eq_true rfl)) rfl rfl dX4_tick_60 ?_
          refine g_iload hC hl dX4_tick_63 rfl ?_
          refine g_lald hC hO (nn_lt (Nat.le_of_ble_eq_true rfl)) rfl (vp_in_nI (by omega) (by omega)) dX4_tick_65 ?_
          refine g_aload_n hC hl dX4_tick_66 rfl rfl ?_
          refine g_get (ci := 4) (k := 19) hC hO rfl inX4 (by decide) q_fl_RX4_90 (nn_lt (Nat.le_of_ble_eq_true rfl)) rfl rfl dX4_tick_67 ?_
          refine W.lcmp hC.1 hC.2.1 dX4_tick_70 ?_
          refine lv_if_gt (tgt := 80) hC.1 hC.2.1 dX4_tick_71 (by decide) (fun c_3 => ?_) (fun c_3 => ?_)
          · skip
            rw [lg_cmp_gt] at c_3
            rw [nI_clamp (n := i) (by omega)] at c_3
            have h70 : p0 < sJ σ 23 i := c_3
            have hw : nI (tkN σ (sJ σ 6 20) p0 (i + 1)) = nI (tkN σ (sJ σ 6 20) p0 i) := by rw [tkN, if_neg (fun q => absurd q.2 (Int64.not_le.mpr h70))]
            refine g_iload_n hC hl dX4_tick_80 rfl rfl ?_
            refine g_istore_n hC hl dX4_tick_81 rfl (Nat.le_of_ble_eq_true rfl) rfl (fun ls hl => ?_)
            have hl : LL ls 5 [some _, some _, none, some _, some _] := hl
            refine g_iinc (v := nI (i + 1)) hC hl dX4_tick_82 rfl (nI_i1 i) (Nat.le_of_ble_eq_true rfl) rfl (fun ls hl => ?_)
            have hl : LL ls 5 [some _, some _, none, some _, some _] := hl
            refine lv_goto (tgt := 35) hC.1 hC.2.1 dX4_tick_85 (by decide) ?_
            exact ih (i + 1) (by omega) (by omega) _ _ _ _ hO ls (by rw [hw]; exact hl)
          · skip
            rw [lg_cmp_gt] at c_3
            rw [nI_clamp (n := i) (by omega)] at c_3
            have h70 : ¬ p0 < sJ σ 23 i := c_3
            have hw : nI (tkN σ (sJ σ 6 20) p0 (i + 1)) = nI (tkN σ (sJ σ 6 20) p0 i) + 1 := by rw [tkN, if_pos ⟨h56, Int64.not_lt.mp h70⟩, nI_1]
            refine g_iload_n hC hl dX4_tick_74 rfl rfl ?_
            refine lv_iconst (v := 1) hC.1 hC.2.1 dX4_tick_75 (by decide) ?_
            refine lv_iadd hC.1 hC.2.1 dX4_tick_76 ?_
            refine lv_goto (tgt := 81) hC.1 hC.2.1 dX4_tick_77 (by decide) ?_
            refine g_istore_n hC hl dX4_tick_81 rfl (Nat.le_of_ble_eq_true rfl) rfl (fun ls hl => ?_)
            have hl : LL ls 5 [some _, some _, none, some _, some _] := hl
            refine g_iinc (v := nI (i + 1)) hC hl dX4_tick_82 rfl (nI_i1 i) (Nat.le_of_ble_eq_true rfl) rfl (fun ls hl => ?_)
            have hl : LL ls 5 [some _, some _, none, some _, some _] := hl
            refine lv_goto (tgt := 35) hC.1 hC.2.1 dX4_tick_85 (by decide) ?_
            exact ih (i + 1) (by omega) (by omega) _ _ _ _ hO ls (by rw [hw]; exact hl)
  refine g_aload_n hC hl dX4_tick_0 rfl rfl ?_
  refine lv_iconst (v := 0) hC.1 hC.2.1 dX4_tick_1 (by decide) ?_
  refine g_putT hC hO q_fl_RX4_69 dX4_tick_2 (fun H locs hO => ?_)
  refine g_lload_n hC hl dX4_tick_5 rfl rfl ?_
  refine g_aload_n hC hl dX4_tick_6 rfl rfl ?_
  refine g_get (ci := 4) (k := 19) hC hO rfl inX4 (by decide) q_fl_RX4_90 (nn_lt (Nat.le_of_ble_eq_true rfl)) rfl rfl dX4_tick_7 ?_
  refine W.lcmp hC.1 hC.2.1 dX4_tick_10 ?_
  refine lv_if_lt (tgt := 22) hC.1 hC.2.1 dX4_tick_11 (by decide) (fun c_4 => ?_) (fun c_4 => ?_)
  · skip
    rw [lg_cmp_lt] at c_4
    --
    refine lv_bipush (v := (-12)) hC.1 hC.2.1 dX4_tick_22 (by decide) ?_
    exact g_iret hC hO dX4_tick_24 (by unfold mTick; simp only [c_4, if_true, if_false, not_false_eq_true, reduceIte, not_true_eq_false])
  · skip
    rw [lg_cmp_lt] at c_4
    have h11 := c_4
    refine g_lload_n hC hl dX4_tick_14 rfl rfl ?_
    refine lv_ldc2 hC.1 hC.2.1 hC.2.2.2.1 (hC.2.2.2.2.1 _ q_kl_RX4_148) dX4_tick_15 ?_
    refine W.lcmp hC.1 hC.2.1 dX4_tick_18 ?_
    refine lv_if_le (tgt := 25) hC.1 hC.2.1 dX4_tick_19 (by decide) (fun c_5 => ?_) (fun c_5 => ?_)
    · skip
      rw [lg_cmp_le] at c_5
      have h19 := c_5
      refine g_aload_n hC hl dX4_tick_25 rfl rfl ?_
      refine g_lload_n hC hl dX4_tick_26 rfl rfl ?_
      refine g_putl (ci := 4) (k := 19) hC hO rfl inX4 tyX4_ok nmX4 (by decide) q_fl_RX4_90 rfl (nn_lt (Nat.le_of_ble_eq_true rfl)) rfl (Nat.le_of_ble_eq_true rfl) rfl rfl rfl dX4_tick_27 (fun H locs hO => ?_)
      refine lv_iconst (v := 0) hC.1 hC.2.1 dX4_tick_30 (by decide) ?_
      refine g_istore_n hC hl dX4_tick_31 rfl (Nat.le_of_ble_eq_true rfl) rfl (fun ls hl => ?_)
      have hl : LL ls 5 [some _, some _, none, some _, none] := hl
      refine lv_iconst (v := 0) hC.1 hC.2.1 dX4_tick_32 (by decide) ?_
      refine g_istore hC hl dX4_tick_33 (Nat.le_of_ble_eq_true rfl) rfl (fun ls hl => ?_)
      have hl : LL ls 5 [some _, some _, none, some _, some _] := hl
      exact loop35 (by unfold mTick; rw [if_neg h11, if_neg (fun q => q h19)]) (n + 1) 0 (by omega) (by omega) _ _ _ _ hO ls hl
    · skip
      rw [lg_cmp_le] at c_5
      --
      refine lv_bipush (v := (-12)) hC.1 hC.2.1 dX4_tick_22 (by decide) ?_
      exact g_iret hC hO dX4_tick_24 (by unfold mTick; simp only [c_4, c_5, if_true, if_false, not_false_eq_true, reduceIte, not_true_eq_false])

set_option maxHeartbeats 4000000 in
set_option maxRecDepth 100000 in
/-- BagRowsModel.bag -/
theorem c_X4_bag (l : Launch) (κ : KK) (σ : ST) (c2 : Nat) (hc : sI σ 6 5 = nI c2) (hc2 : c2 ≤ 60) (p0 : Int32) : Met l yX4_bag (wA yX4_bag cX4_bag 2 (some .int)) ({ frames := 0, cells := 0, slots := 0, locals := 0 }) (va_Pc [.ref (kad κ 6), .int p0] (WX κ σ)) (va_Qi (fun r σ' => (r, σ') = mBag σ c2 p0) (WX κ) (FA κ)) 0 0 (FA κ) := by
  refine g_met 0 (by decide) rfl (Nat.le_of_ble_eq_true rfl) ?_
  intro p e s m args below meth c hC F th hO ls hl
  have hl : LL ls 2 [some _, some _] := hl
  skip
  refine g_aload_n hC hl dX4_bag_0 rfl rfl ?_
  refine lv_iconst (v := 0) hC.1 hC.2.1 dX4_bag_1 (by decide) ?_
  refine g_putT hC hO q_fl_RX4_69 dX4_bag_2 (fun H locs hO => ?_)
  refine g_iload_n hC hl dX4_bag_5 rfl rfl ?_
  refine lv_if_lt (tgt := 14) hC.1 hC.2.1 dX4_bag_6 (by decide) (fun c_1 => ?_) (fun c_1 => ?_)
  · skip
    refine lv_bipush (v := (-12)) hC.1 hC.2.1 dX4_bag_14 (by decide) ?_
    exact g_iret hC hO dX4_bag_16 (by unfold mBag; simp [c_1])
  · skip
    refine g_iload_n hC hl dX4_bag_9 rfl rfl ?_
    refine lv_iconst (v := 3) hC.1 hC.2.1 dX4_bag_10 (by decide) ?_
    refine lv_icmp_le (tgt := 17) hC.1 hC.2.1 dX4_bag_11 (by decide) (fun c_2 => ?_) (fun c_2 => ?_)
    · skip
      refine g_aload_n hC hl dX4_bag_17 rfl rfl ?_
      refine g_get (ci := 4) (k := 5) hC hO rfl inX4 (by decide) q_fl_RX4_73 (nn_lt (Nat.le_of_ble_eq_true rfl)) rfl rfl dX4_bag_18 ?_
      refine lv_bipush (v := 60) hC.1 hC.2.1 dX4_bag_21 (by decide) ?_
      refine lv_icmp_ne (tgt := 29) hC.1 hC.2.1 dX4_bag_23 (by decide) (fun c_3 => ?_) (fun c_3 => ?_)
      · skip
        rw [hc, show (60 : Int32) = nI 60 from rfl, nI_eq (by omega) (by omega)] at c_3
        refine g_aload_n hC hl dX4_bag_29 rfl rfl ?_
        refine g_get (ci := 4) (k := 6) hC hO rfl inX4 (by decide) q_fl_RX4_19 (nn_lt (Nat.le_of_ble_eq_true rfl)) rfl rfl dX4_bag_30 ?_
        refine g_aload_n hC hl dX4_bag_33 rfl rfl ?_
        refine g_get (ci := 4) (k := 5) hC hO rfl inX4 (by decide) q_fl_RX4_73 (nn_lt (Nat.le_of_ble_eq_true rfl)) rfl rfl dX4_bag_34 ?_
        refine g_iload_n hC hl dX4_bag_37 rfl rfl ?_
        refine g_iast hC hO (nn_lt (Nat.le_of_ble_eq_true rfl)) (fun _ _ => rfl) (by rw [hc]; exact vp_in_nI (by omega) (by omega)) dX4_bag_38 (fun H locs hO => ?_)
        rw [hc, nI_clamp (by omega)] at hO
        refine g_aload_n hC hl dX4_bag_39 rfl rfl ?_
        refine lv_dup hC.1 hC.2.1 dX4_bag_40 rfl ?_
        refine g_get (ci := 4) (k := 5) hC hO rfl inX4 (by decide) q_fl_RX4_73 (nn_lt (Nat.le_of_ble_eq_true rfl)) rfl rfl dX4_bag_41 ?_
        refine lv_iconst (v := 1) hC.1 hC.2.1 dX4_bag_44 (by decide) ?_
        refine lv_iadd hC.1 hC.2.1 dX4_bag_45 ?_
        refine g_puti (ci := 4) (k := 5) hC hO rfl inX4 tyX4_ok nmX4 (by decide) q_fl_RX4_73 rfl (nn_lt (Nat.le_of_ble_eq_true rfl)) rfl (Nat.le_of_ble_eq_true rfl) rfl rfl rfl dX4_bag_46 (fun H locs hO => ?_)
        rw [show sI (upI σ 10 c2 p0) 6 5 = nI c2 from hc, nI_1] at hO
        refine lv_sipush (v := 1000) hC.1 hC.2.1 dX4_bag_49 (by decide) ?_
        refine g_aload_n hC hl dX4_bag_52 rfl rfl ?_
        refine g_get (ci := 4) (k := 5) hC hO rfl inX4 (by decide) q_fl_RX4_73 (nn_lt (Nat.le_of_ble_eq_true rfl)) rfl rfl dX4_bag_53 ?_
        refine lv_iadd hC.1 hC.2.1 dX4_bag_56 ?_
        rw [show sI (upI (upI σ 10 c2 p0) 6 5 (nI (c2 + 1))) 6 5 = nI (c2 + 1) from by rw [sI_upI]; simp, show (1000 : Int32) = nI 1000 from rfl, nI_add, show 1000 + (c2 + 1) = 1001 + c2 by omega]
        exact g_iret hC hO dX4_bag_57 (by unfold mBag; simp [c_1, c_2, c_3])
      · skip
        rw [hc, show (60 : Int32) = nI 60 from rfl, nI_eq (by omega) (by omega)] at c_3
        refine lv_bipush (v := (-14)) hC.1 hC.2.1 dX4_bag_26 (by decide) ?_
        exact g_iret hC hO dX4_bag_28 (by unfold mBag; simp [c_1, c_2, c_3])
    · skip
      refine lv_bipush (v := (-12)) hC.1 hC.2.1 dX4_bag_14 (by decide) ?_
      exact g_iret hC hO dX4_bag_16 (by unfold mBag; simp [c_1, c_2])
