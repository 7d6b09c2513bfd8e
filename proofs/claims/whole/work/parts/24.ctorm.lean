theorem sh_mid {κ κ2 : KK} {n q : Nat} (h : kSame κ κ2 n) (h1 : 7 ≤ q) (h2 : q < 24) : sh κ2 st0 (fun _ _ => 0) 0 q = sh κ st0 (fun _ _ => 0) 0 q := by
  unfold sh
  rcases (show q = 7 ∨ q = 8 ∨ q = 9 ∨ q = 10 ∨ q = 11 ∨ q = 12 ∨ q = 13 ∨ q = 14 ∨ q = 15 ∨ q = 16 ∨ q = 17 ∨ q = 18 ∨ q = 19 ∨ q = 20 ∨ q = 21 ∨ q = 22 ∨ q = 23 by omega) with rfl | rfl | rfl | rfl | rfl | rfl | rfl | rfl | rfl | rfl | rfl | rfl | rfl | rfl | rfl | rfl | rfl <;> simp only [shc, kcI_same h, kcL_same h, kcZ_same h]
def PE (κ : KK) (C : Nat → va_E) (κi : KK) (Ci : Nat → va_E) (q : Nat) : Prop := kSame κ κi 7 ∧ (∀ c, c < 6 → Ci c = C c) ∧ ∀ c, 7 ≤ c → c < q → Ci c = sh κ st0 (fun _ _ => 0) 0 c
theorem mstep {κ κi : KK} {C Ci : Nat → va_E} {q a : Nat} {e : va_E} {fs : List Value} {H0 H : Heap} {locs : List Loc} (h7 : 7 ≤ q) (h24 : q < 24) (hP : PE κ C κi Ci q) (he : e = sh κi st0 (fun _ _ => 0) 0 q) (h : OR (kup κi q a) H0 (va_up (va_up Ci q e) 6 (.inr (4, fs))) (q + 1) H locs) : ∃ (κ2 : KK) (C2 : Nat → va_E), OR κ2 H0 C2 (q + 1) H locs ∧ PE κ C κ2 C2 (q + 1) ∧ kad κ2 q = a ∧ (∀ c, c < q → kad κ2 c = kad κi c) ∧ C2 6 = .inr (4, fs) := by
  have hk : ∀ c, c < q → kad (kup κi q a) c = kad κi c := fun c hc => by rw [kad_kup, if_neg (by omega)]
  refine ⟨_, _, h, ⟨⟨hP.1.1, hP.1.2.1, hP.1.2.2.1, fun c hc => by rw [hk c (by omega)]; exact hP.1.2.2.2 c hc⟩, fun c hc => ?_, fun c hc hc2 => ?_⟩, by rw [kad_kup, if_pos rfl], hk, va_up_self _ _ _⟩
  · rw [va_up_ne _ _ (by omega), va_up_ne _ _ (by omega)]; exact hP.2.1 c hc
  · rw [va_up_ne _ _ (by omega)]
    by_cases hq : c = q
    · subst hq; rw [va_up_self, he]; exact sh_mid hP.1 h7 h24
    · rw [va_up_ne _ _ hq]; exact hP.2.2 c hc (by omega)
theorem mend {κ : KK} {C Ci : Nat → va_E} {κi : KK} (hP : PE κ C κi Ci 24) (h6 : Ci 6 = sh κi st0 (fun _ _ => 0) 0 6) : kSame κ κi 7 ∧ (∀ c, c < 6 → Ci c = C c) ∧ ∀ c, c < 24 → 6 ≤ c → Ci c = sh κi st0 (fun _ _ => 0) 0 c := by
  refine ⟨hP.1, hP.2.1, fun c hc hc2 => ?_⟩
  by_cases e : c = 6
  · subst e; exact h6
  · rw [hP.2.2 c (by omega) hc]; exact (sh_mid hP.1 (by omega) hc).symm
set_option maxHeartbeats 4000000 in
set_option maxRecDepth 100000 in
theorem k_X4_init (l : Launch) (κ : KK) (C : Nat → va_E) (he : C 6 = .inr (4, [.int 0, .null, .null, .null, .int 0, .int 0, .null, .null, .null, .null, .null, .null, .null, .null, .null, .null, .null, .null, .null, .long 0, .long 0, .int 0, .null])) : Met l yX4_init (wA yX4_init cX4_init 1 none) ({ frames := 1, cells := 17, slots := 8243, locals := 12 }) (va_Pc [.ref (kad κ 6)] (fun U => WR κ C 7 U ∧ True)) (va_Qv (fun u : KK × (Nat → va_E) => kSame κ u.1 7 ∧ (∀ c, c < 6 → u.2 c = C c) ∧ ∀ c, c < 24 → 6 ≤ c → u.2 c = sh u.1 st0 (fun _ _ => 0) 0 c) (fun u t => WR u.1 u.2 24 t) (FA κ)) 17 8243 (FA κ) := by
  refine r_met 0 (by decide) rfl (Nat.le_of_ble_eq_true rfl) ?_
  intro p e s m args below meth c hC hni hX hO ls hl
  have hl : LL ls 1 [some (.ref (kad κ 6))] := hl
  refine g_aload_n hC hl dX4_init_0 rfl rfl ?_
  refine W.objInit hC.1 hC.2.1 hC.2.2.2.1 (hC.2.2.2.2.1 _ q_ml_RX4_1) (hC.2.2.2.2.1 _ q_im_objectInit) (hC.2.2.2.2.1 _ q_co_objectInit) rfl (by rw [hC.2.2.1]; exact hl.1) rfl dX4_init_1 (Nat.le_of_ble_eq_true rfl) (Nat.le_of_ble_eq_true rfl) ?_
  refine W.eq (g2 := F0 m 4 ls []) rfl ?_
  have he7 := he
  have P7 : PE κ C κ C 7 := ⟨kSame.refl κ 7, fun _ _ => rfl, fun c h1 h2 => absurd h1 (Nat.not_le.mpr h2)⟩
  refine g_aload_n hC hl dX4_init_4 rfl rfl ?_
  refine lv_sipush (v := 1061) hC.1 hC.2.1 dX4_init_5 (by decide) ?_
  refine r_newI 1061 hC hO (by decide) (by decide) (by decide) (Nat.le_of_ble_eq_true rfl) (Nat.le_of_ble_eq_true rfl) dX4_init_8 (fun q7 H hO => ?_)
  refine r_putF (co := 6) (ci := 4) (k := 1) (fs := [.int 0, .null, .null, .null, .int 0, .int 0, .null, .null, .null, .null, .null, .null, .null, .null, .null, .null, .null, .null, .null, .long 0, .long 0, .int 0, .null]) (hC.kup 7 q7) hni hO (by rw [kad_kup, if_neg (by decide)]) rfl inX4 tyX4_ok nmX4 (by decide) q_fl_RX4_7 rfl rfl (Nat.le_of_ble_eq_true rfl) (by rw [va_up_ne _ _ (by decide)]; exact he7) (Nat.le_of_ble_eq_true rfl) rfl rfl dX4_init_10 (fun H locs hO => ?_)
  obtain ⟨κ8, C8, hO, P8, hq7_8, hk8, he8⟩ := mstep (q := 7) (fs := [.int 0, .ref q7, .null, .null, .int 0, .int 0, .null, .null, .null, .null, .null, .null, .null, .null, .null, .null, .null, .null, .null, .long 0, .long 0, .int 0, .null]) (Nat.le_of_ble_eq_true rfl) (Nat.le_of_ble_eq_true rfl) P7 rfl hO
  have K8 := hC.same P8.1
  refine g_aload_n hC hl dX4_init_13 rfl rfl ?_
  refine lv_sipush (v := 1061) hC.1 hC.2.1 dX4_init_14 (by decide) ?_
  refine r_newI 1061 K8 hO (by decide) (by decide) (by decide) (Nat.le_of_ble_eq_true rfl) (Nat.le_of_ble_eq_true rfl) dX4_init_17 (fun q8 H hO => ?_)
  refine r_putF (co := 6) (ci := 4) (k := 2) (fs := [.int 0, .ref q7, .null, .null, .int 0, .int 0, .null, .null, .null, .null, .null, .null, .null, .null, .null, .null, .null, .null, .null, .long 0, .long 0, .int 0, .null]) (K8.kup 8 q8) hni hO (by rw [kad_kup, if_neg (by decide)]; exact P8.1.2.2.2 6 (Nat.le_of_ble_eq_true rfl)) rfl inX4 tyX4_ok nmX4 (by decide) q_fl_RX4_13 rfl rfl (Nat.le_of_ble_eq_true rfl) (by rw [va_up_ne _ _ (by decide)]; exact he8) (Nat.le_of_ble_eq_true rfl) rfl rfl dX4_init_19 (fun H locs hO => ?_)
  obtain ⟨κ9, C9, hO, P9, hq8_9, hk9, he9⟩ := mstep (q := 8) (fs := [.int 0, .ref q7, .ref q8, .null, .int 0, .int 0, .null, .null, .null, .null, .null, .null, .null, .null, .null, .null, .null, .null, .null, .long 0, .long 0, .int 0, .null]) (Nat.le_of_ble_eq_true rfl) (Nat.le_of_ble_eq_true rfl) P8 rfl hO
  have hq7_9 : kad κ9 7 = q7 := (hk9 7 (Nat.le_of_ble_eq_true rfl)).trans hq7_8
  have K9 := hC.same P9.1
  refine g_aload_n hC hl dX4_init_22 rfl rfl ?_
  refine lv_sipush (v := 1061) hC.1 hC.2.1 dX4_init_23 (by decide) ?_
  refine r_newI 1061 K9 hO (by decide) (by decide) (by decide) (Nat.le_of_ble_eq_true rfl) (Nat.le_of_ble_eq_true rfl) dX4_init_26 (fun q9 H hO => ?_)
  refine r_putF (co := 6) (ci := 4) (k := 3) (fs := [.int 0, .ref q7, .ref q8, .null, .int 0, .int 0, .null, .null, .null, .null, .null, .null, .null, .null, .null, .null, .null, .null, .null, .long 0, .long 0, .int 0, .null]) (K9.kup 9 q9) hni hO (by rw [kad_kup, if_neg (by decide)]; exact P9.1.2.2.2 6 (Nat.le_of_ble_eq_true rfl)) rfl inX4 tyX4_ok nmX4 (by decide) q_fl_RX4_16 rfl rfl (Nat.le_of_ble_eq_true rfl) (by rw [va_up_ne _ _ (by decide)]; exact he9) (Nat.le_of_ble_eq_true rfl) rfl rfl dX4_init_28 (fun H locs hO => ?_)
  obtain ⟨κ10, C10, hO, P10, hq9_10, hk10, he10⟩ := mstep (q := 9) (fs := [.int 0, .ref q7, .ref q8, .ref q9, .int 0, .int 0, .null, .null, .null, .null, .null, .null, .null, .null, .null, .null, .null, .null, .null, .long 0, .long 0, .int 0, .null]) (Nat.le_of_ble_eq_true rfl) (Nat.le_of_ble_eq_true rfl) P9 rfl hO
  have hq7_10 : kad κ10 7 = q7 := (hk10 7 (Nat.le_of_ble_eq_true rfl)).trans hq7_9
  have hq8_10 : kad κ10 8 = q8 := (hk10 8 (Nat.le_of_ble_eq_true rfl)).trans hq8_9
  have K10 := hC.same P10.1
  refine g_aload_n hC hl dX4_init_31 rfl rfl ?_
  refine lv_bipush (v := 60) hC.1 hC.2.1 dX4_init_32 (by decide) ?_
  refine r_newI 60 K10 hO (by decide) (by decide) (by decide) (Nat.le_of_ble_eq_true rfl) (Nat.le_of_ble_eq_true rfl) dX4_init_34 (fun q10 H hO => ?_)
  refine r_putF (co := 6) (ci := 4) (k := 6) (fs := [.int 0, .ref q7, .ref q8, .ref q9, .int 0, .int 0, .null, .null, .null, .null, .null, .null, .null, .null, .null, .null, .null, .null, .null, .long 0, .long 0, .int 0, .null]) (K10.kup 10 q10) hni hO (by rw [kad_kup, if_neg (by decide)]; exact P10.1.2.2.2 6 (Nat.le_of_ble_eq_true rfl)) rfl inX4 tyX4_ok nmX4 (by decide) q_fl_RX4_19 rfl rfl (Nat.le_of_ble_eq_true rfl) (by rw [va_up_ne _ _ (by decide)]; exact he10) (Nat.le_of_ble_eq_true rfl) rfl rfl dX4_init_36 (fun H locs hO => ?_)
  obtain ⟨κ11, C11, hO, P11, hq10_11, hk11, he11⟩ := mstep (q := 10) (fs := [.int 0, .ref q7, .ref q8, .ref q9, .int 0, .int 0, .ref q10, .null, .null, .null, .null, .null, .null, .null, .null, .null, .null, .null, .null, .long 0, .long 0, .int 0, .null]) (Nat.le_of_ble_eq_true rfl) (Nat.le_of_ble_eq_true rfl) P10 rfl hO
  have hq7_11 : kad κ11 7 = q7 := (hk11 7 (Nat.le_of_ble_eq_true rfl)).trans hq7_10
  have hq8_11 : kad κ11 8 = q8 := (hk11 8 (Nat.le_of_ble_eq_true rfl)).trans hq8_10
  have hq9_11 : kad κ11 9 = q9 := (hk11 9 (Nat.le_of_ble_eq_true rfl)).trans hq9_10
  have K11 := hC.same P11.1
  refine g_aload_n hC hl dX4_init_39 rfl rfl ?_
  refine lv_bipush (v := 60) hC.1 hC.2.1 dX4_init_40 (by decide) ?_
  refine r_newZ 60 K11 hO (by decide) (by decide) (by decide) (Nat.le_of_ble_eq_true rfl) (Nat.le_of_ble_eq_true rfl) dX4_init_42 (fun q11 H hO => ?_)
  refine r_putF (co := 6) (ci := 4) (k := 7) (fs := [.int 0, .ref q7, .ref q8, .ref q9, .int 0, .int 0, .ref q10, .null, .null, .null, .null, .null, .null, .null, .null, .null, .null, .null, .null, .long 0, .long 0, .int 0, .null]) (K11.kup 11 q11) hni hO (by rw [kad_kup, if_neg (by decide)]; exact P11.1.2.2.2 6 (Nat.le_of_ble_eq_true rfl)) rfl inX4 tyX4_ok nmX4 (by decide) q_fl_RX4_22 rfl rfl (Nat.le_of_ble_eq_true rfl) (by rw [va_up_ne _ _ (by decide)]; exact he11) (Nat.le_of_ble_eq_true rfl) rfl rfl dX4_init_44 (fun H locs hO => ?_)
  obtain ⟨κ12, C12, hO, P12, hq11_12, hk12, he12⟩ := mstep (q := 11) (fs := [.int 0, .ref q7, .ref q8, .ref q9, .int 0, .int 0, .ref q10, .ref q11, .null, .null, .null, .null, .null, .null, .null, .null, .null, .null, .null, .long 0, .long 0, .int 0, .null]) (Nat.le_of_ble_eq_true rfl) (Nat.le_of_ble_eq_true rfl) P11 rfl hO
  have hq7_12 : kad κ12 7 = q7 := (hk12 7 (Nat.le_of_ble_eq_true rfl)).trans hq7_11
  have hq8_12 : kad κ12 8 = q8 := (hk12 8 (Nat.le_of_ble_eq_true rfl)).trans hq8_11
  have hq9_12 : kad κ12 9 = q9 := (hk12 9 (Nat.le_of_ble_eq_true rfl)).trans hq9_11
  have hq10_12 : kad κ12 10 = q10 := (hk12 10 (Nat.le_of_ble_eq_true rfl)).trans hq10_11
  have K12 := hC.same P12.1
  refine g_aload_n hC hl dX4_init_47 rfl rfl ?_
  refine lv_bipush (v := 60) hC.1 hC.2.1 dX4_init_48 (by decide) ?_
  refine r_newZ 60 K12 hO (by decide) (by decide) (by decide) (Nat.le_of_ble_eq_true rfl) (Nat.le_of_ble_eq_true rfl) dX4_init_50 (fun q12 H hO => ?_)
  refine r_putF (co := 6) (ci := 4) (k := 8) (fs := [.int 0, .ref q7, .ref q8, .ref q9, .int 0, .int 0, .ref q10, .ref q11, .null, .null, .null, .null, .null, .null, .null, .null, .null, .null, .null, .long 0, .long 0, .int 0, .null]) (K12.kup 12 q12) hni hO (by rw [kad_kup, if_neg (by decide)]; exact P12.1.2.2.2 6 (Nat.le_of_ble_eq_true rfl)) rfl inX4 tyX4_ok nmX4 (by decide) q_fl_RX4_26 rfl rfl (Nat.le_of_ble_eq_true rfl) (by rw [va_up_ne _ _ (by decide)]; exact he12) (Nat.le_of_ble_eq_true rfl) rfl rfl dX4_init_52 (fun H locs hO => ?_)
  obtain ⟨κ13, C13, hO, P13, hq12_13, hk13, he13⟩ := mstep (q := 12) (fs := [.int 0, .ref q7, .ref q8, .ref q9, .int 0, .int 0, .ref q10, .ref q11, .ref q12, .null, .null, .null, .null, .null, .null, .null, .null, .null, .null, .long 0, .long 0, .int 0, .null]) (Nat.le_of_ble_eq_true rfl) (Nat.le_of_ble_eq_true rfl) P12 rfl hO
  have hq7_13 : kad κ13 7 = q7 := (hk13 7 (Nat.le_of_ble_eq_true rfl)).trans hq7_12
  have hq8_13 : kad κ13 8 = q8 := (hk13 8 (Nat.le_of_ble_eq_true rfl)).trans hq8_12
  have hq9_13 : kad κ13 9 = q9 := (hk13 9 (Nat.le_of_ble_eq_true rfl)).trans hq9_12
  have hq10_13 : kad κ13 10 = q10 := (hk13 10 (Nat.le_of_ble_eq_true rfl)).trans hq10_12
  have hq11_13 : kad κ13 11 = q11 := (hk13 11 (Nat.le_of_ble_eq_true rfl)).trans hq11_12
  have K13 := hC.same P13.1
  refine g_aload_n hC hl dX4_init_55 rfl rfl ?_
  refine lv_bipush (v := 60) hC.1 hC.2.1 dX4_init_56 (by decide) ?_
  refine r_newL 60 K13 hO (by decide) (by decide) (by decide) (Nat.le_of_ble_eq_true rfl) (Nat.le_of_ble_eq_true rfl) dX4_init_58 (fun q13 H hO => ?_)
  refine r_putF (co := 6) (ci := 4) (k := 9) (fs := [.int 0, .ref q7, .ref q8, .ref q9, .int 0, .int 0, .ref q10, .ref q11, .ref q12, .null, .null, .null, .null, .null, .null, .null, .null, .null, .null, .long 0, .long 0, .int 0, .null]) (K13.kup 13 q13) hni hO (by rw [kad_kup, if_neg (by decide)]; exact P13.1.2.2.2 6 (Nat.le_of_ble_eq_true rfl)) rfl inX4 tyX4_ok nmX4 (by decide) q_fl_RX4_29 rfl rfl (Nat.le_of_ble_eq_true rfl) (by rw [va_up_ne _ _ (by decide)]; exact he13) (Nat.le_of_ble_eq_true rfl) rfl rfl dX4_init_60 (fun H locs hO => ?_)
  obtain ⟨κ14, C14, hO, P14, hq13_14, hk14, he14⟩ := mstep (q := 13) (fs := [.int 0, .ref q7, .ref q8, .ref q9, .int 0, .int 0, .ref q10, .ref q11, .ref q12, .ref q13, .null, .null, .null, .null, .null, .null, .null, .null, .null, .long 0, .long 0, .int 0, .null]) (Nat.le_of_ble_eq_true rfl) (Nat.le_of_ble_eq_true rfl) P13 rfl hO
  have hq7_14 : kad κ14 7 = q7 := (hk14 7 (Nat.le_of_ble_eq_true rfl)).trans hq7_13
  have hq8_14 : kad κ14 8 = q8 := (hk14 8 (Nat.le_of_ble_eq_true rfl)).trans hq8_13
  have hq9_14 : kad κ14 9 = q9 := (hk14 9 (Nat.le_of_ble_eq_true rfl)).trans hq9_13
  have hq10_14 : kad κ14 10 = q10 := (hk14 10 (Nat.le_of_ble_eq_true rfl)).trans hq10_13
  have hq11_14 : kad κ14 11 = q11 := (hk14 11 (Nat.le_of_ble_eq_true rfl)).trans hq11_13
  have hq12_14 : kad κ14 12 = q12 := (hk14 12 (Nat.le_of_ble_eq_true rfl)).trans hq12_13
  have K14 := hC.same P14.1
  refine g_aload_n hC hl dX4_init_63 rfl rfl ?_
  refine lv_bipush (v := 60) hC.1 hC.2.1 dX4_init_64 (by decide) ?_
  refine r_newI 60 K14 hO (by decide) (by decide) (by decide) (Nat.le_of_ble_eq_true rfl) (Nat.le_of_ble_eq_true rfl) dX4_init_66 (fun q14 H hO => ?_)
  refine r_putF (co := 6) (ci := 4) (k := 10) (fs := [.int 0, .ref q7, .ref q8, .ref q9, .int 0, .int 0, .ref q10, .ref q11, .ref q12, .ref q13, .null, .null, .null, .null, .null, .null, .null, .null, .null, .long 0, .long 0, .int 0, .null]) (K14.kup 14 q14) hni hO (by rw [kad_kup, if_neg (by decide)]; exact P14.1.2.2.2 6 (Nat.le_of_ble_eq_true rfl)) rfl inX4 tyX4_ok nmX4 (by decide) q_fl_RX4_33 rfl rfl (Nat.le_of_ble_eq_true rfl) (by rw [va_up_ne _ _ (by decide)]; exact he14) (Nat.le_of_ble_eq_true rfl) rfl rfl dX4_init_68 (fun H locs hO => ?_)
  obtain ⟨κ15, C15, hO, P15, hq14_15, hk15, he15⟩ := mstep (q := 14) (fs := [.int 0, .ref q7, .ref q8, .ref q9, .int 0, .int 0, .ref q10, .ref q11, .ref q12, .ref q13, .ref q14, .null, .null, .null, .null, .null, .null, .null, .null, .long 0, .long 0, .int 0, .null]) (Nat.le_of_ble_eq_true rfl) (Nat.le_of_ble_eq_true rfl) P14 rfl hO
  have hq7_15 : kad κ15 7 = q7 := (hk15 7 (Nat.le_of_ble_eq_true rfl)).trans hq7_14
  have hq8_15 : kad κ15 8 = q8 := (hk15 8 (Nat.le_of_ble_eq_true rfl)).trans hq8_14
  have hq9_15 : kad κ15 9 = q9 := (hk15 9 (Nat.le_of_ble_eq_true rfl)).trans hq9_14
  have hq10_15 : kad κ15 10 = q10 := (hk15 10 (Nat.le_of_ble_eq_true rfl)).trans hq10_14
  have hq11_15 : kad κ15 11 = q11 := (hk15 11 (Nat.le_of_ble_eq_true rfl)).trans hq11_14
  have hq12_15 : kad κ15 12 = q12 := (hk15 12 (Nat.le_of_ble_eq_true rfl)).trans hq12_14
  have hq13_15 : kad κ15 13 = q13 := (hk15 13 (Nat.le_of_ble_eq_true rfl)).trans hq13_14
  have K15 := hC.same P15.1
  refine g_aload_n hC hl dX4_init_71 rfl rfl ?_
  refine lv_bipush (v := 60) hC.1 hC.2.1 dX4_init_72 (by decide) ?_
  refine r_newL 60 K15 hO (by decide) (by decide) (by decide) (Nat.le_of_ble_eq_true rfl) (Nat.le_of_ble_eq_true rfl) dX4_init_74 (fun q15 H hO => ?_)
  refine r_putF (co := 6) (ci := 4) (k := 11) (fs := [.int 0, .ref q7, .ref q8, .ref q9, .int 0, .int 0, .ref q10, .ref q11, .ref q12, .ref q13, .ref q14, .null, .null, .null, .null, .null, .null, .null, .null, .long 0, .long 0, .int 0, .null]) (K15.kup 15 q15) hni hO (by rw [kad_kup, if_neg (by decide)]; exact P15.1.2.2.2 6 (Nat.le_of_ble_eq_true rfl)) rfl inX4 tyX4_ok nmX4 (by decide) q_fl_RX4_36 rfl rfl (Nat.le_of_ble_eq_true rfl) (by rw [va_up_ne _ _ (by decide)]; exact he15) (Nat.le_of_ble_eq_true rfl) rfl rfl dX4_init_76 (fun H locs hO => ?_)
  obtain ⟨κ16, C16, hO, P16, hq15_16, hk16, he16⟩ := mstep (q := 15) (fs := [.int 0, .ref q7, .ref q8, .ref q9, .int 0, .int 0, .ref q10, .ref q11, .ref q12, .ref q13, .ref q14, .ref q15, .null, .null, .null, .null, .null, .null, .null, .long 0, .long 0, .int 0, .null]) (Nat.le_of_ble_eq_true rfl) (Nat.le_of_ble_eq_true rfl) P15 rfl hO
  have hq7_16 : kad κ16 7 = q7 := (hk16 7 (Nat.le_of_ble_eq_true rfl)).trans hq7_15
  have hq8_16 : kad κ16 8 = q8 := (hk16 8 (Nat.le_of_ble_eq_true rfl)).trans hq8_15
  have hq9_16 : kad κ16 9 = q9 := (hk16 9 (Nat.le_of_ble_eq_true rfl)).trans hq9_15
  have hq10_16 : kad κ16 10 = q10 := (hk16 10 (Nat.le_of_ble_eq_true rfl)).trans hq10_15
  have hq11_16 : kad κ16 11 = q11 := (hk16 11 (Nat.le_of_ble_eq_true rfl)).trans hq11_15
  have hq12_16 : kad κ16 12 = q12 := (hk16 12 (Nat.le_of_ble_eq_true rfl)).trans hq12_15
  have hq13_16 : kad κ16 13 = q13 := (hk16 13 (Nat.le_of_ble_eq_true rfl)).trans hq13_15
  have hq14_16 : kad κ16 14 = q14 := (hk16 14 (Nat.le_of_ble_eq_true rfl)).trans hq14_15
  have K16 := hC.same P16.1
  refine g_aload_n hC hl dX4_init_79 rfl rfl ?_
  refine lv_bipush (v := 60) hC.1 hC.2.1 dX4_init_80 (by decide) ?_
  refine r_newI 60 K16 hO (by decide) (by decide) (by decide) (Nat.le_of_ble_eq_true rfl) (Nat.le_of_ble_eq_true rfl) dX4_init_82 (fun q16 H hO => ?_)
  refine r_putF (co := 6) (ci := 4) (k := 12) (fs := [.int 0, .ref q7, .ref q8, .ref q9, .int 0, .int 0, .ref q10, .ref q11, .ref q12, .ref q13, .ref q14, .ref q15, .null, .null, .null, .null, .null, .null, .null, .long 0, .long 0, .int 0, .null]) (K16.kup 16 q16) hni hO (by rw [kad_kup, if_neg (by decide)]; exact P16.1.2.2.2 6 (Nat.le_of_ble_eq_true rfl)) rfl inX4 tyX4_ok nmX4 (by decide) q_fl_RX4_39 rfl rfl (Nat.le_of_ble_eq_true rfl) (by rw [va_up_ne _ _ (by decide)]; exact he16) (Nat.le_of_ble_eq_true rfl) rfl rfl dX4_init_84 (fun H locs hO => ?_)
  obtain ⟨κ17, C17, hO, P17, hq16_17, hk17, he17⟩ := mstep (q := 16) (fs := [.int 0, .ref q7, .ref q8, .ref q9, .int 0, .int 0, .ref q10, .ref q11, .ref q12, .ref q13, .ref q14, .ref q15, .ref q16, .null, .null, .null, .null, .null, .null, .long 0, .long 0, .int 0, .null]) (Nat.le_of_ble_eq_true rfl) (Nat.le_of_ble_eq_true rfl) P16 rfl hO
  have hq7_17 : kad κ17 7 = q7 := (hk17 7 (Nat.le_of_ble_eq_true rfl)).trans hq7_16
  have hq8_17 : kad κ17 8 = q8 := (hk17 8 (Nat.le_of_ble_eq_true rfl)).trans hq8_16
  have hq9_17 : kad κ17 9 = q9 := (hk17 9 (Nat.le_of_ble_eq_true rfl)).trans hq9_16
  have hq10_17 : kad κ17 10 = q10 := (hk17 10 (Nat.le_of_ble_eq_true rfl)).trans hq10_16
  have hq11_17 : kad κ17 11 = q11 := (hk17 11 (Nat.le_of_ble_eq_true rfl)).trans hq11_16
  have hq12_17 : kad κ17 12 = q12 := (hk17 12 (Nat.le_of_ble_eq_true rfl)).trans hq12_16
  have hq13_17 : kad κ17 13 = q13 := (hk17 13 (Nat.le_of_ble_eq_true rfl)).trans hq13_16
  have hq14_17 : kad κ17 14 = q14 := (hk17 14 (Nat.le_of_ble_eq_true rfl)).trans hq14_16
  have hq15_17 : kad κ17 15 = q15 := (hk17 15 (Nat.le_of_ble_eq_true rfl)).trans hq15_16
  have K17 := hC.same P17.1
  refine g_aload_n hC hl dX4_init_87 rfl rfl ?_
  refine lv_sipush (v := 720) hC.1 hC.2.1 dX4_init_88 (by decide) ?_
  refine r_newI 720 K17 hO (by decide) (by decide) (by decide) (Nat.le_of_ble_eq_true rfl) (Nat.le_of_ble_eq_true rfl) dX4_init_91 (fun q17 H hO => ?_)
  refine r_putF (co := 6) (ci := 4) (k := 13) (fs := [.int 0, .ref q7, .ref q8, .ref q9, .int 0, .int 0, .ref q10, .ref q11, .ref q12, .ref q13, .ref q14, .ref q15, .ref q16, .null, .null, .null, .null, .null, .null, .long 0, .long 0, .int 0, .null]) (K17.kup 17 q17) hni hO (by rw [kad_kup, if_neg (by decide)]; exact P17.1.2.2.2 6 (Nat.le_of_ble_eq_true rfl)) rfl inX4 tyX4_ok nmX4 (by decide) q_fl_RX4_42 rfl rfl (Nat.le_of_ble_eq_true rfl) (by rw [va_up_ne _ _ (by decide)]; exact he17) (Nat.le_of_ble_eq_true rfl) rfl rfl dX4_init_93 (fun H locs hO => ?_)
  obtain ⟨κ18, C18, hO, P18, hq17_18, hk18, he18⟩ := mstep (q := 17) (fs := [.int 0, .ref q7, .ref q8, .ref q9, .int 0, .int 0, .ref q10, .ref q11, .ref q12, .ref q13, .ref q14, .ref q15, .ref q16, .ref q17, .null, .null, .null, .null, .null, .long 0, .long 0, .int 0, .null]) (Nat.le_of_ble_eq_true rfl) (Nat.le_of_ble_eq_true rfl) P17 rfl hO
  have hq7_18 : kad κ18 7 = q7 := (hk18 7 (Nat.le_of_ble_eq_true rfl)).trans hq7_17
  have hq8_18 : kad κ18 8 = q8 := (hk18 8 (Nat.le_of_ble_eq_true rfl)).trans hq8_17
  have hq9_18 : kad κ18 9 = q9 := (hk18 9 (Nat.le_of_ble_eq_true rfl)).trans hq9_17
  have hq10_18 : kad κ18 10 = q10 := (hk18 10 (Nat.le_of_ble_eq_true rfl)).trans hq10_17
  have hq11_18 : kad κ18 11 = q11 := (hk18 11 (Nat.le_of_ble_eq_true rfl)).trans hq11_17
  have hq12_18 : kad κ18 12 = q12 := (hk18 12 (Nat.le_of_ble_eq_true rfl)).trans hq12_17
  have hq13_18 : kad κ18 13 = q13 := (hk18 13 (Nat.le_of_ble_eq_true rfl)).trans hq13_17
  have hq14_18 : kad κ18 14 = q14 := (hk18 14 (Nat.le_of_ble_eq_true rfl)).trans hq14_17
  have hq15_18 : kad κ18 15 = q15 := (hk18 15 (Nat.le_of_ble_eq_true rfl)).trans hq15_17
  have hq16_18 : kad κ18 16 = q16 := (hk18 16 (Nat.le_of_ble_eq_true rfl)).trans hq16_17
  have K18 := hC.same P18.1
  refine g_aload_n hC hl dX4_init_96 rfl rfl ?_
  refine lv_sipush (v := 720) hC.1 hC.2.1 dX4_init_97 (by decide) ?_
  refine r_newZ 720 K18 hO (by decide) (by decide) (by decide) (Nat.le_of_ble_eq_true rfl) (Nat.le_of_ble_eq_true rfl) dX4_init_100 (fun q18 H hO => ?_)
  refine r_putF (co := 6) (ci := 4) (k := 14) (fs := [.int 0, .ref q7, .ref q8, .ref q9, .int 0, .int 0, .ref q10, .ref q11, .ref q12, .ref q13, .ref q14, .ref q15, .ref q16, .ref q17, .null, .null, .null, .null, .null, .long 0, .long 0, .int 0, .null]) (K18.kup 18 q18) hni hO (by rw [kad_kup, if_neg (by decide)]; exact P18.1.2.2.2 6 (Nat.le_of_ble_eq_true rfl)) rfl inX4 tyX4_ok nmX4 (by decide) q_fl_RX4_45 rfl rfl (Nat.le_of_ble_eq_true rfl) (by rw [va_up_ne _ _ (by decide)]; exact he18) (Nat.le_of_ble_eq_true rfl) rfl rfl dX4_init_102 (fun H locs hO => ?_)
  obtain ⟨κ19, C19, hO, P19, hq18_19, hk19, he19⟩ := mstep (q := 18) (fs := [.int 0, .ref q7, .ref q8, .ref q9, .int 0, .int 0, .ref q10, .ref q11, .ref q12, .ref q13, .ref q14, .ref q15, .ref q16, .ref q17, .ref q18, .null, .null, .null, .null, .long 0, .long 0, .int 0, .null]) (Nat.le_of_ble_eq_true rfl) (Nat.le_of_ble_eq_true rfl) P18 rfl hO
  have hq7_19 : kad κ19 7 = q7 := (hk19 7 (Nat.le_of_ble_eq_true rfl)).trans hq7_18
  have hq8_19 : kad κ19 8 = q8 := (hk19 8 (Nat.le_of_ble_eq_true rfl)).trans hq8_18
  have hq9_19 : kad κ19 9 = q9 := (hk19 9 (Nat.le_of_ble_eq_true rfl)).trans hq9_18
  have hq10_19 : kad κ19 10 = q10 := (hk19 10 (Nat.le_of_ble_eq_true rfl)).trans hq10_18
  have hq11_19 : kad κ19 11 = q11 := (hk19 11 (Nat.le_of_ble_eq_true rfl)).trans hq11_18
  have hq12_19 : kad κ19 12 = q12 := (hk19 12 (Nat.le_of_ble_eq_true rfl)).trans hq12_18
  have hq13_19 : kad κ19 13 = q13 := (hk19 13 (Nat.le_of_ble_eq_true rfl)).trans hq13_18
  have hq14_19 : kad κ19 14 = q14 := (hk19 14 (Nat.le_of_ble_eq_true rfl)).trans hq14_18
  have hq15_19 : kad κ19 15 = q15 := (hk19 15 (Nat.le_of_ble_eq_true rfl)).trans hq15_18
  have hq16_19 : kad κ19 16 = q16 := (hk19 16 (Nat.le_of_ble_eq_true rfl)).trans hq16_18
  have hq17_19 : kad κ19 17 = q17 := (hk19 17 (Nat.le_of_ble_eq_true rfl)).trans hq17_18
  have K19 := hC.same P19.1
  refine g_aload_n hC hl dX4_init_105 rfl rfl ?_
  refine lv_bipush (v := 60) hC.1 hC.2.1 dX4_init_106 (by decide) ?_
  refine r_newI 60 K19 hO (by decide) (by decide) (by decide) (Nat.le_of_ble_eq_true rfl) (Nat.le_of_ble_eq_true rfl) dX4_init_108 (fun q19 H hO => ?_)
  refine r_putF (co := 6) (ci := 4) (k := 15) (fs := [.int 0, .ref q7, .ref q8, .ref q9, .int 0, .int 0, .ref q10, .ref q11, .ref q12, .ref q13, .ref q14, .ref q15, .ref q16, .ref q17, .ref q18, .null, .null, .null, .null, .long 0, .long 0, .int 0, .null]) (K19.kup 19 q19) hni hO (by rw [kad_kup, if_neg (by decide)]; exact P19.1.2.2.2 6 (Nat.le_of_ble_eq_true rfl)) rfl inX4 tyX4_ok nmX4 (by decide) q_fl_RX4_48 rfl rfl (Nat.le_of_ble_eq_true rfl) (by rw [va_up_ne _ _ (by decide)]; exact he19) (Nat.le_of_ble_eq_true rfl) rfl rfl dX4_init_110 (fun H locs hO => ?_)
  obtain ⟨κ20, C20, hO, P20, hq19_20, hk20, he20⟩ := mstep (q := 19) (fs := [.int 0, .ref q7, .ref q8, .ref q9, .int 0, .int 0, .ref q10, .ref q11, .ref q12, .ref q13, .ref q14, .ref q15, .ref q16, .ref q17, .ref q18, .ref q19, .null, .null, .null, .long 0, .long 0, .int 0, .null]) (Nat.le_of_ble_eq_true rfl) (Nat.le_of_ble_eq_true rfl) P19 rfl hO
  have hq7_20 : kad κ20 7 = q7 := (hk20 7 (Nat.le_of_ble_eq_true rfl)).trans hq7_19
  have hq8_20 : kad κ20 8 = q8 := (hk20 8 (Nat.le_of_ble_eq_true rfl)).trans hq8_19
  have hq9_20 : kad κ20 9 = q9 := (hk20 9 (Nat.le_of_ble_eq_true rfl)).trans hq9_19
  have hq10_20 : kad κ20 10 = q10 := (hk20 10 (Nat.le_of_ble_eq_true rfl)).trans hq10_19
  have hq11_20 : kad κ20 11 = q11 := (hk20 11 (Nat.le_of_ble_eq_true rfl)).trans hq11_19
  have hq12_20 : kad κ20 12 = q12 := (hk20 12 (Nat.le_of_ble_eq_true rfl)).trans hq12_19
  have hq13_20 : kad κ20 13 = q13 := (hk20 13 (Nat.le_of_ble_eq_true rfl)).trans hq13_19
  have hq14_20 : kad κ20 14 = q14 := (hk20 14 (Nat.le_of_ble_eq_true rfl)).trans hq14_19
  have hq15_20 : kad κ20 15 = q15 := (hk20 15 (Nat.le_of_ble_eq_true rfl)).trans hq15_19
  have hq16_20 : kad κ20 16 = q16 := (hk20 16 (Nat.le_of_ble_eq_true rfl)).trans hq16_19
  have hq17_20 : kad κ20 17 = q17 := (hk20 17 (Nat.le_of_ble_eq_true rfl)).trans hq17_19
  have hq18_20 : kad κ20 18 = q18 := (hk20 18 (Nat.le_of_ble_eq_true rfl)).trans hq18_19
  have K20 := hC.same P20.1
  refine g_aload_n hC hl dX4_init_113 rfl rfl ?_
  refine lv_sipush (v := 720) hC.1 hC.2.1 dX4_init_114 (by decide) ?_
  refine r_newI 720 K20 hO (by decide) (by decide) (by decide) (Nat.le_of_ble_eq_true rfl) (Nat.le_of_ble_eq_true rfl) dX4_init_117 (fun q20 H hO => ?_)
  refine r_putF (co := 6) (ci := 4) (k := 16) (fs := [.int 0, .ref q7, .ref q8, .ref q9, .int 0, .int 0, .ref q10, .ref q11, .ref q12, .ref q13, .ref q14, .ref q15, .ref q16, .ref q17, .ref q18, .ref q19, .null, .null, .null, .long 0, .long 0, .int 0, .null]) (K20.kup 20 q20) hni hO (by rw [kad_kup, if_neg (by decide)]; exact P20.1.2.2.2 6 (Nat.le_of_ble_eq_true rfl)) rfl inX4 tyX4_ok nmX4 (by decide) q_fl_RX4_51 rfl rfl (Nat.le_of_ble_eq_true rfl) (by rw [va_up_ne _ _ (by decide)]; exact he20) (Nat.le_of_ble_eq_true rfl) rfl rfl dX4_init_119 (fun H locs hO => ?_)
  obtain ⟨κ21, C21, hO, P21, hq20_21, hk21, he21⟩ := mstep (q := 20) (fs := [.int 0, .ref q7, .ref q8, .ref q9, .int 0, .int 0, .ref q10, .ref q11, .ref q12, .ref q13, .ref q14, .ref q15, .ref q16, .ref q17, .ref q18, .ref q19, .ref q20, .null, .null, .long 0, .long 0, .int 0, .null]) (Nat.le_of_ble_eq_true rfl) (Nat.le_of_ble_eq_true rfl) P20 rfl hO
  have hq7_21 : kad κ21 7 = q7 := (hk21 7 (Nat.le_of_ble_eq_true rfl)).trans hq7_20
  have hq8_21 : kad κ21 8 = q8 := (hk21 8 (Nat.le_of_ble_eq_true rfl)).trans hq8_20
  have hq9_21 : kad κ21 9 = q9 := (hk21 9 (Nat.le_of_ble_eq_true rfl)).trans hq9_20
  have hq10_21 : kad κ21 10 = q10 := (hk21 10 (Nat.le_of_ble_eq_true rfl)).trans hq10_20
  have hq11_21 : kad κ21 11 = q11 := (hk21 11 (Nat.le_of_ble_eq_true rfl)).trans hq11_20
  have hq12_21 : kad κ21 12 = q12 := (hk21 12 (Nat.le_of_ble_eq_true rfl)).trans hq12_20
  have hq13_21 : kad κ21 13 = q13 := (hk21 13 (Nat.le_of_ble_eq_true rfl)).trans hq13_20
  have hq14_21 : kad κ21 14 = q14 := (hk21 14 (Nat.le_of_ble_eq_true rfl)).trans hq14_20
  have hq15_21 : kad κ21 15 = q15 := (hk21 15 (Nat.le_of_ble_eq_true rfl)).trans hq15_20
  have hq16_21 : kad κ21 16 = q16 := (hk21 16 (Nat.le_of_ble_eq_true rfl)).trans hq16_20
  have hq17_21 : kad κ21 17 = q17 := (hk21 17 (Nat.le_of_ble_eq_true rfl)).trans hq17_20
  have hq18_21 : kad κ21 18 = q18 := (hk21 18 (Nat.le_of_ble_eq_true rfl)).trans hq18_20
  have hq19_21 : kad κ21 19 = q19 := (hk21 19 (Nat.le_of_ble_eq_true rfl)).trans hq19_20
  have K21 := hC.same P21.1
  refine g_aload_n hC hl dX4_init_122 rfl rfl ?_
  refine lv_bipush (v := 60) hC.1 hC.2.1 dX4_init_123 (by decide) ?_
  refine r_newI 60 K21 hO (by decide) (by decide) (by decide) (Nat.le_of_ble_eq_true rfl) (Nat.le_of_ble_eq_true rfl) dX4_init_125 (fun q21 H hO => ?_)
  refine r_putF (co := 6) (ci := 4) (k := 17) (fs := [.int 0, .ref q7, .ref q8, .ref q9, .int 0, .int 0, .ref q10, .ref q11, .ref q12, .ref q13, .ref q14, .ref q15, .ref q16, .ref q17, .ref q18, .ref q19, .ref q20, .null, .null, .long 0, .long 0, .int 0, .null]) (K21.kup 21 q21) hni hO (by rw [kad_kup, if_neg (by decide)]; exact P21.1.2.2.2 6 (Nat.le_of_ble_eq_true rfl)) rfl inX4 tyX4_ok nmX4 (by decide) q_fl_RX4_54 rfl rfl (Nat.le_of_ble_eq_true rfl) (by rw [va_up_ne _ _ (by decide)]; exact he21) (Nat.le_of_ble_eq_true rfl) rfl rfl dX4_init_127 (fun H locs hO => ?_)
  obtain ⟨κ22, C22, hO, P22, hq21_22, hk22, he22⟩ := mstep (q := 21) (fs := [.int 0, .ref q7, .ref q8, .ref q9, .int 0, .int 0, .ref q10, .ref q11, .ref q12, .ref q13, .ref q14, .ref q15, .ref q16, .ref q17, .ref q18, .ref q19, .ref q20, .ref q21, .null, .long 0, .long 0, .int 0, .null]) (Nat.le_of_ble_eq_true rfl) (Nat.le_of_ble_eq_true rfl) P21 rfl hO
  have hq7_22 : kad κ22 7 = q7 := (hk22 7 (Nat.le_of_ble_eq_true rfl)).trans hq7_21
  have hq8_22 : kad κ22 8 = q8 := (hk22 8 (Nat.le_of_ble_eq_true rfl)).trans hq8_21
  have hq9_22 : kad κ22 9 = q9 := (hk22 9 (Nat.le_of_ble_eq_true rfl)).trans hq9_21
  have hq10_22 : kad κ22 10 = q10 := (hk22 10 (Nat.le_of_ble_eq_true rfl)).trans hq10_21
  have hq11_22 : kad κ22 11 = q11 := (hk22 11 (Nat.le_of_ble_eq_true rfl)).trans hq11_21
  have hq12_22 : kad κ22 12 = q12 := (hk22 12 (Nat.le_of_ble_eq_true rfl)).trans hq12_21
  have hq13_22 : kad κ22 13 = q13 := (hk22 13 (Nat.le_of_ble_eq_true rfl)).trans hq13_21
  have hq14_22 : kad κ22 14 = q14 := (hk22 14 (Nat.le_of_ble_eq_true rfl)).trans hq14_21
  have hq15_22 : kad κ22 15 = q15 := (hk22 15 (Nat.le_of_ble_eq_true rfl)).trans hq15_21
  have hq16_22 : kad κ22 16 = q16 := (hk22 16 (Nat.le_of_ble_eq_true rfl)).trans hq16_21
  have hq17_22 : kad κ22 17 = q17 := (hk22 17 (Nat.le_of_ble_eq_true rfl)).trans hq17_21
  have hq18_22 : kad κ22 18 = q18 := (hk22 18 (Nat.le_of_ble_eq_true rfl)).trans hq18_21
  have hq19_22 : kad κ22 19 = q19 := (hk22 19 (Nat.le_of_ble_eq_true rfl)).trans hq19_21
  have hq20_22 : kad κ22 20 = q20 := (hk22 20 (Nat.le_of_ble_eq_true rfl)).trans hq20_21
  have K22 := hC.same P22.1
  refine g_aload_n hC hl dX4_init_130 rfl rfl ?_
  refine lv_sipush (v := 360) hC.1 hC.2.1 dX4_init_131 (by decide) ?_
  refine r_newL 360 K22 hO (by decide) (by decide) (by decide) (Nat.le_of_ble_eq_true rfl) (Nat.le_of_ble_eq_true rfl) dX4_init_134 (fun q22 H hO => ?_)
  refine r_putF (co := 6) (ci := 4) (k := 18) (fs := [.int 0, .ref q7, .ref q8, .ref q9, .int 0, .int 0, .ref q10, .ref q11, .ref q12, .ref q13, .ref q14, .ref q15, .ref q16, .ref q17, .ref q18, .ref q19, .ref q20, .ref q21, .null, .long 0, .long 0, .int 0, .null]) (K22.kup 22 q22) hni hO (by rw [kad_kup, if_neg (by decide)]; exact P22.1.2.2.2 6 (Nat.le_of_ble_eq_true rfl)) rfl inX4 tyX4_ok nmX4 (by decide) q_fl_RX4_57 rfl rfl (Nat.le_of_ble_eq_true rfl) (by rw [va_up_ne _ _ (by decide)]; exact he22) (Nat.le_of_ble_eq_true rfl) rfl rfl dX4_init_136 (fun H locs hO => ?_)
  obtain ⟨κ23, C23, hO, P23, hq22_23, hk23, he23⟩ := mstep (q := 22) (fs := [.int 0, .ref q7, .ref q8, .ref q9, .int 0, .int 0, .ref q10, .ref q11, .ref q12, .ref q13, .ref q14, .ref q15, .ref q16, .ref q17, .ref q18, .ref q19, .ref q20, .ref q21, .ref q22, .long 0, .long 0, .int 0, .null]) (Nat.le_of_ble_eq_true rfl) (Nat.le_of_ble_eq_true rfl) P22 rfl hO
  have hq7_23 : kad κ23 7 = q7 := (hk23 7 (Nat.le_of_ble_eq_true rfl)).trans hq7_22
  have hq8_23 : kad κ23 8 = q8 := (hk23 8 (Nat.le_of_ble_eq_true rfl)).trans hq8_22
  have hq9_23 : kad κ23 9 = q9 := (hk23 9 (Nat.le_of_ble_eq_true rfl)).trans hq9_22
  have hq10_23 : kad κ23 10 = q10 := (hk23 10 (Nat.le_of_ble_eq_true rfl)).trans hq10_22
  have hq11_23 : kad κ23 11 = q11 := (hk23 11 (Nat.le_of_ble_eq_true rfl)).trans hq11_22
  have hq12_23 : kad κ23 12 = q12 := (hk23 12 (Nat.le_of_ble_eq_true rfl)).trans hq12_22
  have hq13_23 : kad κ23 13 = q13 := (hk23 13 (Nat.le_of_ble_eq_true rfl)).trans hq13_22
  have hq14_23 : kad κ23 14 = q14 := (hk23 14 (Nat.le_of_ble_eq_true rfl)).trans hq14_22
  have hq15_23 : kad κ23 15 = q15 := (hk23 15 (Nat.le_of_ble_eq_true rfl)).trans hq15_22
  have hq16_23 : kad κ23 16 = q16 := (hk23 16 (Nat.le_of_ble_eq_true rfl)).trans hq16_22
  have hq17_23 : kad κ23 17 = q17 := (hk23 17 (Nat.le_of_ble_eq_true rfl)).trans hq17_22
  have hq18_23 : kad κ23 18 = q18 := (hk23 18 (Nat.le_of_ble_eq_true rfl)).trans hq18_22
  have hq19_23 : kad κ23 19 = q19 := (hk23 19 (Nat.le_of_ble_eq_true rfl)).trans hq19_22
  have hq20_23 : kad κ23 20 = q20 := (hk23 20 (Nat.le_of_ble_eq_true rfl)).trans hq20_22
  have hq21_23 : kad κ23 21 = q21 := (hk23 21 (Nat.le_of_ble_eq_true rfl)).trans hq21_22
  have K23 := hC.same P23.1
  refine g_aload_n hC hl dX4_init_139 rfl rfl ?_
  refine lv_ldc2 hC.1 hC.2.1 hC.2.2.2.1 (hC.2.2.2.2.1 _ q_kl_RX4_60) dX4_init_140 ?_
  refine r_put (co := 6) (ci := 4) (k := 20) (fs := [.int 0, .ref q7, .ref q8, .ref q9, .int 0, .int 0, .ref q10, .ref q11, .ref q12, .ref q13, .ref q14, .ref q15, .ref q16, .ref q17, .ref q18, .ref q19, .ref q20, .ref q21, .ref q22, .long 0, .long 0, .int 0, .null]) K23 hO (P23.1.2.2.2 6 (Nat.le_of_ble_eq_true rfl)) rfl inX4 tyX4_ok nmX4 (by decide) q_fl_RX4_62 rfl (Nat.le_of_ble_eq_true rfl) he23 (Nat.le_of_ble_eq_true rfl) rfl rfl dX4_init_143 (fun H locs hO => ?_)
  obtain ⟨D1, hD1⟩ : ∃ D, D = va_up C23 6 (.inr (4, [.int 0, .ref q7, .ref q8, .ref q9, .int 0, .int 0, .ref q10, .ref q11, .ref q12, .ref q13, .ref q14, .ref q15, .ref q16, .ref q17, .ref q18, .ref q19, .ref q20, .ref q21, .ref q22, .long 0, .long (-1), .int 0, .null])) := ⟨_, rfl⟩
  replace hO : OR κ23 s.heap D1 23 H locs := by rw [hD1]; exact hO
  replace P23 : PE κ C κ23 D1 23 := ⟨P23.1, fun c hc => by rw [hD1, va_up_ne _ _ (Nat.ne_of_lt hc)]; exact P23.2.1 c hc, fun c h1 h2 => by rw [hD1, va_up_ne _ _ (Nat.ne_of_gt h1)]; exact P23.2.2 c h1 h2⟩
  replace he23 : D1 6 = .inr (4, [.int 0, .ref q7, .ref q8, .ref q9, .int 0, .int 0, .ref q10, .ref q11, .ref q12, .ref q13, .ref q14, .ref q15, .ref q16, .ref q17, .ref q18, .ref q19, .ref q20, .ref q21, .ref q22, .long 0, .long (-1), .int 0, .null]) := by rw [hD1, va_up_self]
  refine g_aload_n hC hl dX4_init_146 rfl rfl ?_
  refine lv_sipush (v := 2000) hC.1 hC.2.1 dX4_init_147 (by decide) ?_
  refine r_newL 2000 K23 hO (by decide) (by decide) (by decide) (Nat.le_of_ble_eq_true rfl) (Nat.le_of_ble_eq_true rfl) dX4_init_150 (fun q23 H hO => ?_)
  refine r_putF (co := 6) (ci := 4) (k := 22) (fs := [.int 0, .ref q7, .ref q8, .ref q9, .int 0, .int 0, .ref q10, .ref q11, .ref q12, .ref q13, .ref q14, .ref q15, .ref q16, .ref q17, .ref q18, .ref q19, .ref q20, .ref q21, .ref q22, .long 0, .long (-1), .int 0, .null]) (K23.kup 23 q23) hni hO (by rw [kad_kup, if_neg (by decide)]; exact P23.1.2.2.2 6 (Nat.le_of_ble_eq_true rfl)) rfl inX4 tyX4_ok nmX4 (by decide) q_fl_RX4_66 rfl rfl (Nat.le_of_ble_eq_true rfl) (by rw [va_up_ne _ _ (by decide)]; exact he23) (Nat.le_of_ble_eq_true rfl) rfl rfl dX4_init_152 (fun H locs hO => ?_)
  obtain ⟨κ24, C24, hO, P24, hq23_24, hk24, he24⟩ := mstep (q := 23) (fs := [.int 0, .ref q7, .ref q8, .ref q9, .int 0, .int 0, .ref q10, .ref q11, .ref q12, .ref q13, .ref q14, .ref q15, .ref q16, .ref q17, .ref q18, .ref q19, .ref q20, .ref q21, .ref q22, .long 0, .long (-1), .int 0, .ref q23]) (Nat.le_of_ble_eq_true rfl) (Nat.le_of_ble_eq_true rfl) P23 rfl hO
  have hq7_24 : kad κ24 7 = q7 := (hk24 7 (Nat.le_of_ble_eq_true rfl)).trans hq7_23
  have hq8_24 : kad κ24 8 = q8 := (hk24 8 (Nat.le_of_ble_eq_true rfl)).trans hq8_23
  have hq9_24 : kad κ24 9 = q9 := (hk24 9 (Nat.le_of_ble_eq_true rfl)).trans hq9_23
  have hq10_24 : kad κ24 10 = q10 := (hk24 10 (Nat.le_of_ble_eq_true rfl)).trans hq10_23
  have hq11_24 : kad κ24 11 = q11 := (hk24 11 (Nat.le_of_ble_eq_true rfl)).trans hq11_23
  have hq12_24 : kad κ24 12 = q12 := (hk24 12 (Nat.le_of_ble_eq_true rfl)).trans hq12_23
  have hq13_24 : kad κ24 13 = q13 := (hk24 13 (Nat.le_of_ble_eq_true rfl)).trans hq13_23
  have hq14_24 : kad κ24 14 = q14 := (hk24 14 (Nat.le_of_ble_eq_true rfl)).trans hq14_23
  have hq15_24 : kad κ24 15 = q15 := (hk24 15 (Nat.le_of_ble_eq_true rfl)).trans hq15_23
  have hq16_24 : kad κ24 16 = q16 := (hk24 16 (Nat.le_of_ble_eq_true rfl)).trans hq16_23
  have hq17_24 : kad κ24 17 = q17 := (hk24 17 (Nat.le_of_ble_eq_true rfl)).trans hq17_23
  have hq18_24 : kad κ24 18 = q18 := (hk24 18 (Nat.le_of_ble_eq_true rfl)).trans hq18_23
  have hq19_24 : kad κ24 19 = q19 := (hk24 19 (Nat.le_of_ble_eq_true rfl)).trans hq19_23
  have hq20_24 : kad κ24 20 = q20 := (hk24 20 (Nat.le_of_ble_eq_true rfl)).trans hq20_23
  have hq21_24 : kad κ24 21 = q21 := (hk24 21 (Nat.le_of_ble_eq_true rfl)).trans hq21_23
  have hq22_24 : kad κ24 22 = q22 := (hk24 22 (Nat.le_of_ble_eq_true rfl)).trans hq22_23
  have K24 := hC.same P24.1
  have h6 : C24 6 = sh κ24 st0 (fun _ _ => 0) 0 6 := by
    rw [he24, ← hq7_24, ← hq8_24, ← hq9_24, ← hq10_24, ← hq11_24, ← hq12_24, ← hq13_24, ← hq14_24, ← hq15_24, ← hq16_24, ← hq17_24, ← hq18_24, ← hq19_24, ← hq20_24, ← hq21_24, ← hq22_24, ← hq23_24]
    rfl
  exact r_vret (κ24, C24) hC hO P24.1.1 dX4_init_155 (mend P24 h6) (fun t ht hK => hO.wr ht (kT_same P24.1 hK))
