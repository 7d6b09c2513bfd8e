def kSame (κ κ2 : KK) (n : Nat) : Prop := κ2.1 = κ.1 ∧ κ2.2.1 = κ.2.1 ∧ κ2.2.2.1 = κ.2.2.1 ∧ ∀ c, c < n → kad κ2 c = kad κ c
def st0 : ST := (0, fun _ _ => 0, fun c => if c = 6 then (fun i => if i = 20 then -1 else 0) else fun _ => 0, fun _ => [])
set_option maxHeartbeats 4000000 in
set_option maxRecDepth 100000 in
theorem k_X2_init (l : Launch) (κ : KK) (C : Nat → va_E) (n o a cap : Nat) (ho : o < n) (ha : kad κ o = a) (he : C o = .inr (2, [.null, .int 0])) (hcap : cap ≤ 12) : Met l yX2_init (wA yX2_init cX2_init 2 none) ({ frames := 1, cells := 1, slots := cap, locals := 12 }) (va_Pc [.ref a, .int (nI cap)] (fun U => WR κ C n U ∧ True)) (va_Qv (fun _ : Nat => True) (fun q t => WR (kup κ n q) (va_up (va_up C n (.inl (kcI κ, cap, .inl (fun _ => 0)))) o (.inr (2, [.ref q, .int 0]))) (n + 1) t) (FA κ)) 1 cap (FA κ) := by
  refine r_met 0 (by decide) rfl (Nat.le_of_ble_eq_true rfl) ?_
  intro p e s m args below meth c hC hni hX hO ls hl
  have hl : LL ls 2 [some (.ref a), some (.int (nI cap))] := hl
  refine g_aload_n hC hl dX2_init_0 rfl rfl ?_
  refine W.objInit hC.1 hC.2.1 hC.2.2.2.1 (hC.2.2.2.2.1 _ q_ml_RX2_1) (hC.2.2.2.2.1 _ q_im_objectInit) (hC.2.2.2.2.1 _ q_co_objectInit) rfl (by rw [hC.2.2.1]; exact hl.1) rfl dX2_init_1 (Nat.le_of_ble_eq_true rfl) (Nat.le_of_ble_eq_true rfl) ?_
  refine W.eq (g2 := F0 m 4 ls []) rfl ?_
  refine g_aload_n hC hl dX2_init_4 rfl rfl ?_
  refine g_iload_n hC hl dX2_init_5 rfl rfl ?_
  refine lv_if_ge (tgt := 13) hC.1 hC.2.1 dX2_init_6 (by decide) (fun _ => ?_) (fun c1 => absurd (nI_pos' (by omega)) c1)
  refine g_iload_n hC hl dX2_init_13 rfl rfl ?_
  refine r_newI cap hC hO (nI_pos (by omega)) (nI_clamp (by omega)) (by omega) (Nat.le_of_ble_eq_true rfl) (by show 0 + cap ≤ cap; omega) dX2_init_14 (fun q H hO => ?_)
  refine r_putF (co := o) (ci := 2) (k := 0) (fs := [.null, .int 0]) (hC.kup n q) hni hO (by rw [kad_kup, if_neg (by omega)]; exact ha) rfl inX2 tyX2_ok nmX2 (by decide) q_fl_RX2_7 rfl rfl (by omega) (by rw [va_up_ne _ _ (by omega)]; exact he) (Nat.le_of_ble_eq_true rfl) rfl rfl dX2_init_16 (fun H locs hO => ?_)
  refine W.widen (k := 1) (n := cap) (by omega) (by omega) ?_
  exact r_vret q hC hO rfl dX2_init_19 trivial (fun t ht hK => hO.wr ht hK)
set_option maxHeartbeats 4000000 in
set_option maxRecDepth 100000 in
theorem k_X0_init (l : Launch) (κ : KK) (C : Nat → va_E) (n o a : Nat) (ho : o < n) (ha : kad κ o = a) (he : C o = .inr (0, [.null, .int 0, .int 0])) : Met l yX0_init (wA yX0_init cX0_init 1 none) ({ frames := 1, cells := 1, slots := 512, locals := 12 }) (va_Pc [.ref a] (fun U => WR κ C n U ∧ True)) (va_Qv (fun _ : Nat => True) (fun q t => WR (kup κ n q) (va_up (va_up C n (.inl (kcL κ, 512, .inr (.inl (fun _ => 0))))) o (.inr (0, [.ref q, .int 0, .int 0]))) (n + 1) t) (FA κ)) 1 512 (FA κ) := by
  refine r_met 0 (by decide) rfl (Nat.le_of_ble_eq_true rfl) ?_
  intro p e s m args below meth c hC hni hX hO ls hl
  have hl : LL ls 1 [some (.ref a)] := hl
  refine g_aload_n hC hl dX0_init_0 rfl rfl ?_
  refine W.objInit hC.1 hC.2.1 hC.2.2.2.1 (hC.2.2.2.2.1 _ q_ml_RX0_3) (hC.2.2.2.2.1 _ q_im_objectInit) (hC.2.2.2.2.1 _ q_co_objectInit) rfl (by rw [hC.2.2.1]; exact hl.1) rfl dX0_init_1 (Nat.le_of_ble_eq_true rfl) (Nat.le_of_ble_eq_true rfl) ?_
  refine W.eq (g2 := F0 m 4 ls []) rfl ?_
  refine g_aload_n hC hl dX0_init_4 rfl rfl ?_
  refine lv_sipush (v := 512) hC.1 hC.2.1 dX0_init_5 (by decide) ?_
  refine r_newL 512 hC hO (by decide) (by decide) (by decide) (Nat.le_of_ble_eq_true rfl) (Nat.le_of_ble_eq_true rfl) dX0_init_8 (fun q H hO => ?_)
  refine r_putF (co := o) (ci := 0) (k := 0) (fs := [.null, .int 0, .int 0]) (hC.kup n q) hni hO (by rw [kad_kup, if_neg (by omega)]; exact ha) rfl inX0 tyX0_ok nmX0 (by decide) q_fl_RX0_9 rfl rfl (by omega) (by rw [va_up_ne _ _ (by omega)]; exact he) (Nat.le_of_ble_eq_true rfl) rfl rfl dX0_init_10 (fun H locs hO => ?_)
  refine W.widen (k := 1) (n := 512) (by omega) (by omega) ?_
  exact r_vret q hC hO rfl dX0_init_13 trivial (fun t ht hK => hO.wr ht hK)
set_option maxHeartbeats 4000000 in
set_option maxRecDepth 100000 in
theorem k_X1_init (l : Launch) (κ : KK) (C : Nat → va_E) (n o a : Nat) (kd : Int32) (ho : o < n) (ha : kad κ o = a) (he : C o = .inr (1, [.int 0, .int 0, .int 0, .long 0, .int 0, .null, .null, .null, .null, .null, .null])) : Met l yX1_init (wA yX1_init cX1_init 2 none) ({ frames := 2, cells := 12, slots := 67, locals := 33 }) (va_Pc [.ref a, .int kd] (fun U => WR κ C n U ∧ True)) (va_Qv (fun u : KK × (Nat → va_E) => kSame κ u.1 n ∧ (∀ c, c < n → c ≠ o → u.2 c = C c) ∧ u.2 o = .inr (1, [.int kd, .int 0, .int 0, .long 0, .int 0, .ref (kad u.1 (n + 0)), .ref (kad u.1 (n + 2)), .ref (kad u.1 (n + 4)), .ref (kad u.1 (n + 6)), .ref (kad u.1 (n + 8)), .ref (kad u.1 (n + 10))]) ∧ ∀ j, j < 6 → u.2 (n + 2 * j) = .inr (2, [.ref (kad u.1 (n + 2 * j + 1)), .int 0]) ∧ u.2 (n + 2 * j + 1) = .inl (kcI κ, capj j, .inl (fun _ => 0))) (fun u t => WR u.1 u.2 (n + 1 + 1 + 1 + 1 + 1 + 1 + 1 + 1 + 1 + 1 + 1 + 1) t) (FA κ)) 12 67 (FA κ) := by
  refine r_met 0 (by decide) rfl (Nat.le_of_ble_eq_true rfl) ?_
  intro p e s m args below meth c hC hni hX hO ls hl
  have hl : LL ls 2 [some (.ref a), some (.int kd)] := hl
  refine g_aload_n hC hl dX1_init_0 rfl rfl ?_
  refine W.objInit hC.1 hC.2.1 hC.2.2.2.1 (hC.2.2.2.2.1 _ q_ml_RX1_3) (hC.2.2.2.2.1 _ q_im_objectInit) (hC.2.2.2.2.1 _ q_co_objectInit) rfl (by rw [hC.2.2.1]; exact hl.1) rfl dX1_init_1 (Nat.le_of_ble_eq_true rfl) (Nat.le_of_ble_eq_true rfl) ?_
  refine W.eq (g2 := F0 m 4 ls []) rfl ?_
  refine g_aload_n hC hl dX1_init_4 rfl rfl ?_
  refine g_iload_n hC hl dX1_init_5 rfl rfl ?_
  refine r_putF (co := o) (ci := 1) (k := 0) (fs := [.int 0, .int 0, .int 0, .long 0, .int 0, .null, .null, .null, .null, .null, .null]) (hC) hni hO (by simp only [kad_kup]; (repeat' split) <;> first | rfl | omega | exact ha) rfl inX1 tyX1_ok nmX1 (by decide) q_fl_RX1_9 rfl rfl (by omega) (by simp only [va_up]; (repeat' split) <;> first | rfl | omega | exact he) (Nat.le_of_ble_eq_true rfl) rfl rfl dX1_init_6 (fun H locs hO => ?_)
  refine g_aload_n hC hl dX1_init_9 rfl rfl ?_
  refine r_new (ci := 2) (fs := [.null, .int 0]) (hC) hO rfl inX2 tyX2_ok q_cl_RX1_15 q_in_RX2 q_ini_RX2 (fun j hj => by rcases (show j = 0 ∨ j = 1 by omega) with rfl | rfl <;> rfl) (Nat.le_of_ble_eq_true rfl) (Nat.le_of_ble_eq_true rfl) dX1_init_10 (fun q0 H hO => ?_)
  refine lv_dup hC.1 hC.2.1 dX1_init_13 rfl ?_
  refine lv_bipush (v := nI 12) hC.1 hC.2.1 dX1_init_14 (by decide) ?_
  refine r_cI (As := [.int (nI 12)]) ((hC).kup (n) q0) hO hl (k_X2_init l _ _ (n + 1) (n) q0 12 (by omega) (by rw [kad_kup, if_pos rfl]) (by rw [va_up_self]) (by omega)) mi_X2_init rfl q_ml_RX1_17 (fun U g mk a h => ⟨h.1.blind g mk a, trivial⟩) (fun U hU _ hK => ⟨hO.wr hU hK, trivial⟩) rfl rfl rfl ⟨Nat.le_of_ble_eq_true rfl, Nat.le_of_ble_eq_true rfl⟩ (Nat.le_of_ble_eq_true rfl) ⟨Nat.le_of_ble_eq_true rfl, Nat.le_of_ble_eq_true rfl⟩ dX1_init_16 (fun w0 t H locs ht _ hB hS => ?_)
  have hO := hO.back rfl ht hB hS
  refine r_putF (co := o) (ci := 1) (k := 5) (fs := [.int kd, .int 0, .int 0, .long 0, .int 0, .null, .null, .null, .null, .null, .null]) (((hC).kup (n) q0).kup (n + 1) w0) hni hO (by simp only [kad_kup]; (repeat' split) <;> first | rfl | omega | exact ha) rfl inX1 tyX1_ok nmX1 (by decide) q_fl_RX1_20 rfl rfl (by omega) (by simp only [va_up]; (repeat' split) <;> first | rfl | omega | exact he) (Nat.le_of_ble_eq_true rfl) rfl rfl dX1_init_19 (fun H locs hO => ?_)
  refine g_aload_n hC hl dX1_init_22 rfl rfl ?_
  refine r_new (ci := 2) (fs := [.null, .int 0]) (((hC).kup (n) q0).kup (n + 1) w0) hO rfl inX2 tyX2_ok q_cl_RX1_15 q_in_RX2 q_ini_RX2 (fun j hj => by rcases (show j = 0 ∨ j = 1 by omega) with rfl | rfl <;> rfl) (Nat.le_of_ble_eq_true rfl) (Nat.le_of_ble_eq_true rfl) dX1_init_23 (fun q1 H hO => ?_)
  refine lv_dup hC.1 hC.2.1 dX1_init_26 rfl ?_
  refine lv_bipush (v := nI 12) hC.1 hC.2.1 dX1_init_27 (by decide) ?_
  refine r_cI (As := [.int (nI 12)]) ((((hC).kup (n) q0).kup (n + 1) w0).kup (n + 1 + 1) q1) hO hl (k_X2_init l _ _ (n + 1 + 1 + 1) (n + 1 + 1) q1 12 (by omega) (by rw [kad_kup, if_pos rfl]) (by rw [va_up_self]) (by omega)) mi_X2_init rfl q_ml_RX1_17 (fun U g mk a h => ⟨h.1.blind g mk a, trivial⟩) (fun U hU _ hK => ⟨hO.wr hU hK, trivial⟩) rfl rfl rfl ⟨Nat.le_of_ble_eq_true rfl, Nat.le_of_ble_eq_true rfl⟩ (Nat.le_of_ble_eq_true rfl) ⟨Nat.le_of_ble_eq_true rfl, Nat.le_of_ble_eq_true rfl⟩ dX1_init_29 (fun w1 t H locs ht _ hB hS => ?_)
  have hO := hO.back rfl ht hB hS
  refine r_putF (co := o) (ci := 1) (k := 6) (fs := [.int kd, .int 0, .int 0, .long 0, .int 0, .ref q0, .null, .null, .null, .null, .null]) (((((hC).kup (n) q0).kup (n + 1) w0).kup (n + 1 + 1) q1).kup (n + 1 + 1 + 1) w1) hni hO (by simp only [kad_kup]; (repeat' split) <;> first | rfl | omega | exact ha) rfl inX1 tyX1_ok nmX1 (by decide) q_fl_RX1_24 rfl rfl (by omega) (by simp only [va_up]; (repeat' split) <;> first | rfl | omega | exact he) (Nat.le_of_ble_eq_true rfl) rfl rfl dX1_init_32 (fun H locs hO => ?_)
  refine g_aload_n hC hl dX1_init_35 rfl rfl ?_
  refine r_new (ci := 2) (fs := [.null, .int 0]) (((((hC).kup (n) q0).kup (n + 1) w0).kup (n + 1 + 1) q1).kup (n + 1 + 1 + 1) w1) hO rfl inX2 tyX2_ok q_cl_RX1_15 q_in_RX2 q_ini_RX2 (fun j hj => by rcases (show j = 0 ∨ j = 1 by omega) with rfl | rfl <;> rfl) (Nat.le_of_ble_eq_true rfl) (Nat.le_of_ble_eq_true rfl) dX1_init_36 (fun q2 H hO => ?_)
  refine lv_dup hC.1 hC.2.1 dX1_init_39 rfl ?_
  refine lv_iconst (v := nI 1) hC.1 hC.2.1 dX1_init_40 (by decide) ?_
  refine r_cI (As := [.int (nI 1)]) ((((((hC).kup (n) q0).kup (n + 1) w0).kup (n + 1 + 1) q1).kup (n + 1 + 1 + 1) w1).kup (n + 1 + 1 + 1 + 1) q2) hO hl (k_X2_init l _ _ (n + 1 + 1 + 1 + 1 + 1) (n + 1 + 1 + 1 + 1) q2 1 (by omega) (by rw [kad_kup, if_pos rfl]) (by rw [va_up_self]) (by omega)) mi_X2_init rfl q_ml_RX1_17 (fun U g mk a h => ⟨h.1.blind g mk a, trivial⟩) (fun U hU _ hK => ⟨hO.wr hU hK, trivial⟩) rfl rfl rfl ⟨Nat.le_of_ble_eq_true rfl, Nat.le_of_ble_eq_true rfl⟩ (Nat.le_of_ble_eq_true rfl) ⟨Nat.le_of_ble_eq_true rfl, Nat.le_of_ble_eq_true rfl⟩ dX1_init_41 (fun w2 t H locs ht _ hB hS => ?_)
  have hO := hO.back rfl ht hB hS
  refine r_putF (co := o) (ci := 1) (k := 7) (fs := [.int kd, .int 0, .int 0, .long 0, .int 0, .ref q0, .ref q1, .null, .null, .null, .null]) (((((((hC).kup (n) q0).kup (n + 1) w0).kup (n + 1 + 1) q1).kup (n + 1 + 1 + 1) w1).kup (n + 1 + 1 + 1 + 1) q2).kup (n + 1 + 1 + 1 + 1 + 1) w2) hni hO (by simp only [kad_kup]; (repeat' split) <;> first | rfl | omega | exact ha) rfl inX1 tyX1_ok nmX1 (by decide) q_fl_RX1_27 rfl rfl (by omega) (by simp only [va_up]; (repeat' split) <;> first | rfl | omega | exact he) (Nat.le_of_ble_eq_true rfl) rfl rfl dX1_init_44 (fun H locs hO => ?_)
  refine g_aload_n hC hl dX1_init_47 rfl rfl ?_
  refine r_new (ci := 2) (fs := [.null, .int 0]) (((((((hC).kup (n) q0).kup (n + 1) w0).kup (n + 1 + 1) q1).kup (n + 1 + 1 + 1) w1).kup (n + 1 + 1 + 1 + 1) q2).kup (n + 1 + 1 + 1 + 1 + 1) w2) hO rfl inX2 tyX2_ok q_cl_RX1_15 q_in_RX2 q_ini_RX2 (fun j hj => by rcases (show j = 0 ∨ j = 1 by omega) with rfl | rfl <;> rfl) (Nat.le_of_ble_eq_true rfl) (Nat.le_of_ble_eq_true rfl) dX1_init_48 (fun q3 H hO => ?_)
  refine lv_dup hC.1 hC.2.1 dX1_init_51 rfl ?_
  refine lv_bipush (v := nI 6) hC.1 hC.2.1 dX1_init_52 (by decide) ?_
  refine r_cI (As := [.int (nI 6)]) ((((((((hC).kup (n) q0).kup (n + 1) w0).kup (n + 1 + 1) q1).kup (n + 1 + 1 + 1) w1).kup (n + 1 + 1 + 1 + 1) q2).kup (n + 1 + 1 + 1 + 1 + 1) w2).kup (n + 1 + 1 + 1 + 1 + 1 + 1) q3) hO hl (k_X2_init l _ _ (n + 1 + 1 + 1 + 1 + 1 + 1 + 1) (n + 1 + 1 + 1 + 1 + 1 + 1) q3 6 (by omega) (by rw [kad_kup, if_pos rfl]) (by rw [va_up_self]) (by omega)) mi_X2_init rfl q_ml_RX1_17 (fun U g mk a h => ⟨h.1.blind g mk a, trivial⟩) (fun U hU _ hK => ⟨hO.wr hU hK, trivial⟩) rfl rfl rfl ⟨Nat.le_of_ble_eq_true rfl, Nat.le_of_ble_eq_true rfl⟩ (Nat.le_of_ble_eq_true rfl) ⟨Nat.le_of_ble_eq_true rfl, Nat.le_of_ble_eq_true rfl⟩ dX1_init_54 (fun w3 t H locs ht _ hB hS => ?_)
  have hO := hO.back rfl ht hB hS
  refine r_putF (co := o) (ci := 1) (k := 8) (fs := [.int kd, .int 0, .int 0, .long 0, .int 0, .ref q0, .ref q1, .ref q2, .null, .null, .null]) (((((((((hC).kup (n) q0).kup (n + 1) w0).kup (n + 1 + 1) q1).kup (n + 1 + 1 + 1) w1).kup (n + 1 + 1 + 1 + 1) q2).kup (n + 1 + 1 + 1 + 1 + 1) w2).kup (n + 1 + 1 + 1 + 1 + 1 + 1) q3).kup (n + 1 + 1 + 1 + 1 + 1 + 1 + 1) w3) hni hO (by simp only [kad_kup]; (repeat' split) <;> first | rfl | omega | exact ha) rfl inX1 tyX1_ok nmX1 (by decide) q_fl_RX1_30 rfl rfl (by omega) (by simp only [va_up]; (repeat' split) <;> first | rfl | omega | exact he) (Nat.le_of_ble_eq_true rfl) rfl rfl dX1_init_57 (fun H locs hO => ?_)
  refine g_aload_n hC hl dX1_init_60 rfl rfl ?_
  refine r_new (ci := 2) (fs := [.null, .int 0]) (((((((((hC).kup (n) q0).kup (n + 1) w0).kup (n + 1 + 1) q1).kup (n + 1 + 1 + 1) w1).kup (n + 1 + 1 + 1 + 1) q2).kup (n + 1 + 1 + 1 + 1 + 1) w2).kup (n + 1 + 1 + 1 + 1 + 1 + 1) q3).kup (n + 1 + 1 + 1 + 1 + 1 + 1 + 1) w3) hO rfl inX2 tyX2_ok q_cl_RX1_15 q_in_RX2 q_ini_RX2 (fun j hj => by rcases (show j = 0 ∨ j = 1 by omega) with rfl | rfl <;> rfl) (Nat.le_of_ble_eq_true rfl) (Nat.le_of_ble_eq_true rfl) dX1_init_61 (fun q4 H hO => ?_)
  refine lv_dup hC.1 hC.2.1 dX1_init_64 rfl ?_
  refine lv_bipush (v := nI 12) hC.1 hC.2.1 dX1_init_65 (by decide) ?_
  refine r_cI (As := [.int (nI 12)]) ((((((((((hC).kup (n) q0).kup (n + 1) w0).kup (n + 1 + 1) q1).kup (n + 1 + 1 + 1) w1).kup (n + 1 + 1 + 1 + 1) q2).kup (n + 1 + 1 + 1 + 1 + 1) w2).kup (n + 1 + 1 + 1 + 1 + 1 + 1) q3).kup (n + 1 + 1 + 1 + 1 + 1 + 1 + 1) w3).kup (n + 1 + 1 + 1 + 1 + 1 + 1 + 1 + 1) q4) hO hl (k_X2_init l _ _ (n + 1 + 1 + 1 + 1 + 1 + 1 + 1 + 1 + 1) (n + 1 + 1 + 1 + 1 + 1 + 1 + 1 + 1) q4 12 (by omega) (by rw [kad_kup, if_pos rfl]) (by rw [va_up_self]) (by omega)) mi_X2_init rfl q_ml_RX1_17 (fun U g mk a h => ⟨h.1.blind g mk a, trivial⟩) (fun U hU _ hK => ⟨hO.wr hU hK, trivial⟩) rfl rfl rfl ⟨Nat.le_of_ble_eq_true rfl, Nat.le_of_ble_eq_true rfl⟩ (Nat.le_of_ble_eq_true rfl) ⟨Nat.le_of_ble_eq_true rfl, Nat.le_of_ble_eq_true rfl⟩ dX1_init_67 (fun w4 t H locs ht _ hB hS => ?_)
  have hO := hO.back rfl ht hB hS
  refine r_putF (co := o) (ci := 1) (k := 9) (fs := [.int kd, .int 0, .int 0, .long 0, .int 0, .ref q0, .ref q1, .ref q2, .ref q3, .null, .null]) (((((((((((hC).kup (n) q0).kup (n + 1) w0).kup (n + 1 + 1) q1).kup (n + 1 + 1 + 1) w1).kup (n + 1 + 1 + 1 + 1) q2).kup (n + 1 + 1 + 1 + 1 + 1) w2).kup (n + 1 + 1 + 1 + 1 + 1 + 1) q3).kup (n + 1 + 1 + 1 + 1 + 1 + 1 + 1) w3).kup (n + 1 + 1 + 1 + 1 + 1 + 1 + 1 + 1) q4).kup (n + 1 + 1 + 1 + 1 + 1 + 1 + 1 + 1 + 1) w4) hni hO (by simp only [kad_kup]; (repeat' split) <;> first | rfl | omega | exact ha) rfl inX1 tyX1_ok nmX1 (by decide) q_fl_RX1_33 rfl rfl (by omega) (by simp only [va_up]; (repeat' split) <;> first | rfl | omega | exact he) (Nat.le_of_ble_eq_true rfl) rfl rfl dX1_init_70 (fun H locs hO => ?_)
  refine g_aload_n hC hl dX1_init_73 rfl rfl ?_
  refine r_new (ci := 2) (fs := [.null, .int 0]) (((((((((((hC).kup (n) q0).kup (n + 1) w0).kup (n + 1 + 1) q1).kup (n + 1 + 1 + 1) w1).kup (n + 1 + 1 + 1 + 1) q2).kup (n + 1 + 1 + 1 + 1 + 1) w2).kup (n + 1 + 1 + 1 + 1 + 1 + 1) q3).kup (n + 1 + 1 + 1 + 1 + 1 + 1 + 1) w3).kup (n + 1 + 1 + 1 + 1 + 1 + 1 + 1 + 1) q4).kup (n + 1 + 1 + 1 + 1 + 1 + 1 + 1 + 1 + 1) w4) hO rfl inX2 tyX2_ok q_cl_RX1_15 q_in_RX2 q_ini_RX2 (fun j hj => by rcases (show j = 0 ∨ j = 1 by omega) with rfl | rfl <;> rfl) (Nat.le_of_ble_eq_true rfl) (Nat.le_of_ble_eq_true rfl) dX1_init_74 (fun q5 H hO => ?_)
  refine lv_dup hC.1 hC.2.1 dX1_init_77 rfl ?_
  refine lv_bipush (v := nI 12) hC.1 hC.2.1 dX1_init_78 (by decide) ?_
  refine r_cI (As := [.int (nI 12)]) ((((((((((((hC).kup (n) q0).kup (n + 1) w0).kup (n + 1 + 1) q1).kup (n + 1 + 1 + 1) w1).kup (n + 1 + 1 + 1 + 1) q2).kup (n + 1 + 1 + 1 + 1 + 1) w2).kup (n + 1 + 1 + 1 + 1 + 1 + 1) q3).kup (n + 1 + 1 + 1 + 1 + 1 + 1 + 1) w3).kup (n + 1 + 1 + 1 + 1 + 1 + 1 + 1 + 1) q4).kup (n + 1 + 1 + 1 + 1 + 1 + 1 + 1 + 1 + 1) w4).kup (n + 1 + 1 + 1 + 1 + 1 + 1 + 1 + 1 + 1 + 1) q5) hO hl (k_X2_init l _ _ (n + 1 + 1 + 1 + 1 + 1 + 1 + 1 + 1 + 1 + 1 + 1) (n + 1 + 1 + 1 + 1 + 1 + 1 + 1 + 1 + 1 + 1) q5 12 (by omega) (by rw [kad_kup, if_pos rfl]) (by rw [va_up_self]) (by omega)) mi_X2_init rfl q_ml_RX1_17 (fun U g mk a h => ⟨h.1.blind g mk a, trivial⟩) (fun U hU _ hK => ⟨hO.wr hU hK, trivial⟩) rfl rfl rfl ⟨Nat.le_of_ble_eq_true rfl, Nat.le_of_ble_eq_true rfl⟩ (Nat.le_of_ble_eq_true rfl) ⟨Nat.le_of_ble_eq_true rfl, Nat.le_of_ble_eq_true rfl⟩ dX1_init_80 (fun w5 t H locs ht _ hB hS => ?_)
  have hO := hO.back rfl ht hB hS
  refine r_putF (co := o) (ci := 1) (k := 10) (fs := [.int kd, .int 0, .int 0, .long 0, .int 0, .ref q0, .ref q1, .ref q2, .ref q3, .ref q4, .null]) (((((((((((((hC).kup (n) q0).kup (n + 1) w0).kup (n + 1 + 1) q1).kup (n + 1 + 1 + 1) w1).kup (n + 1 + 1 + 1 + 1) q2).kup (n + 1 + 1 + 1 + 1 + 1) w2).kup (n + 1 + 1 + 1 + 1 + 1 + 1) q3).kup (n + 1 + 1 + 1 + 1 + 1 + 1 + 1) w3).kup (n + 1 + 1 + 1 + 1 + 1 + 1 + 1 + 1) q4).kup (n + 1 + 1 + 1 + 1 + 1 + 1 + 1 + 1 + 1) w4).kup (n + 1 + 1 + 1 + 1 + 1 + 1 + 1 + 1 + 1 + 1) q5).kup (n + 1 + 1 + 1 + 1 + 1 + 1 + 1 + 1 + 1 + 1 + 1) w5) hni hO (by simp only [kad_kup]; (repeat' split) <;> first | rfl | omega | exact ha) rfl inX1 tyX1_ok nmX1 (by decide) q_fl_RX1_36 rfl rfl (by omega) (by simp only [va_up]; (repeat' split) <;> first | rfl | omega | exact he) (Nat.le_of_ble_eq_true rfl) rfl rfl dX1_init_83 (fun H locs hO => ?_)
  refine W.widen (k := 12) (n := 67) (by omega) (by omega) ?_
  generalize hκ : (kup (kup (kup (kup (kup (kup (kup (kup (kup (kup (kup (kup κ (n) q0) (n + 1) w0) (n + 1 + 1) q1) (n + 1 + 1 + 1) w1) (n + 1 + 1 + 1 + 1) q2) (n + 1 + 1 + 1 + 1 + 1) w2) (n + 1 + 1 + 1 + 1 + 1 + 1) q3) (n + 1 + 1 + 1 + 1 + 1 + 1 + 1) w3) (n + 1 + 1 + 1 + 1 + 1 + 1 + 1 + 1) q4) (n + 1 + 1 + 1 + 1 + 1 + 1 + 1 + 1 + 1) w4) (n + 1 + 1 + 1 + 1 + 1 + 1 + 1 + 1 + 1 + 1) q5) (n + 1 + 1 + 1 + 1 + 1 + 1 + 1 + 1 + 1 + 1 + 1) w5) = κ2 at hO
  have hk1 : κ2.1 = κ.1 := by rw [← hκ]; rfl
  have hk2 : κ2.2.1 = κ.2.1 := by rw [← hκ]; rfl
  have hk3 : κ2.2.2.1 = κ.2.2.1 := by rw [← hκ]; rfl
  have hk4 : ∀ c, c < n → kad κ2 c = kad κ c := fun c hc => by rw [← hκ]; simp only [kad_kup]; (repeat' split) <;> first | rfl | omega
  have hq0 : kad κ2 (n + 0) = q0 := by rw [← hκ]; simp only [kad_kup]; (repeat' split) <;> first | rfl | omega
  have hw0 : kad κ2 (n + 1) = w0 := by rw [← hκ]; simp only [kad_kup]; (repeat' split) <;> first | rfl | omega
  have hq1 : kad κ2 (n + 2) = q1 := by rw [← hκ]; simp only [kad_kup]; (repeat' split) <;> first | rfl | omega
  have hw1 : kad κ2 (n + 3) = w1 := by rw [← hκ]; simp only [kad_kup]; (repeat' split) <;> first | rfl | omega
  have hq2 : kad κ2 (n + 4) = q2 := by rw [← hκ]; simp only [kad_kup]; (repeat' split) <;> first | rfl | omega
  have hw2 : kad κ2 (n + 5) = w2 := by rw [← hκ]; simp only [kad_kup]; (repeat' split) <;> first | rfl | omega
  have hq3 : kad κ2 (n + 6) = q3 := by rw [← hκ]; simp only [kad_kup]; (repeat' split) <;> first | rfl | omega
  have hw3 : kad κ2 (n + 7) = w3 := by rw [← hκ]; simp only [kad_kup]; (repeat' split) <;> first | rfl | omega
  have hq4 : kad κ2 (n + 8) = q4 := by rw [← hκ]; simp only [kad_kup]; (repeat' split) <;> first | rfl | omega
  have hw4 : kad κ2 (n + 9) = w4 := by rw [← hκ]; simp only [kad_kup]; (repeat' split) <;> first | rfl | omega
  have hq5 : kad κ2 (n + 10) = q5 := by rw [← hκ]; simp only [kad_kup]; (repeat' split) <;> first | rfl | omega
  have hw5 : kad κ2 (n + 11) = w5 := by rw [← hκ]; simp only [kad_kup]; (repeat' split) <;> first | rfl | omega
  have hcI : kcI κ2 = kcI κ := by unfold kcI; rw [hk3]
  refine r_vret (κ2, _) hC hO hk1 dX1_init_86 ⟨⟨hk1, hk2, hk3, hk4⟩, fun c hc hco => ?_, ?_, fun j hj => ?_⟩ (fun t ht hK => hO.wr ht (by unfold kD kT kcI kcL kcZ kcR; rw [hk2, hk3]; exact hK))
  · simp only [va_up]; (repeat' split) <;> first | rfl | omega
  · rw [va_up_self, hq0, hq1, hq2, hq3, hq4, hq5]; rfl
  · rcases (show j = 0 ∨ j = 1 ∨ j = 2 ∨ j = 3 ∨ j = 4 ∨ j = 5 by omega) with rfl | rfl | rfl | rfl | rfl | rfl
    · refine ⟨?_, ?_⟩
      · rw [show n + 2 * 0 + 1 = n + 1 by omega, hw0]; simp only [va_up]; (repeat' split) <;> first | rfl | omega
      · simp only [va_up]; (repeat' split) <;> first | rfl | omega
    · refine ⟨?_, ?_⟩
      · rw [show n + 2 * 1 + 1 = n + 3 by omega, hw1]; simp only [va_up]; (repeat' split) <;> first | rfl | omega
      · simp only [va_up]; (repeat' split) <;> first | rfl | omega
    · refine ⟨?_, ?_⟩
      · rw [show n + 2 * 2 + 1 = n + 5 by omega, hw2]; simp only [va_up]; (repeat' split) <;> first | rfl | omega
      · simp only [va_up]; (repeat' split) <;> first | rfl | omega
    · refine ⟨?_, ?_⟩
      · rw [show n + 2 * 3 + 1 = n + 7 by omega, hw3]; simp only [va_up]; (repeat' split) <;> first | rfl | omega
      · simp only [va_up]; (repeat' split) <;> first | rfl | omega
    · refine ⟨?_, ?_⟩
      · rw [show n + 2 * 4 + 1 = n + 9 by omega, hw4]; simp only [va_up]; (repeat' split) <;> first | rfl | omega
      · simp only [va_up]; (repeat' split) <;> first | rfl | omega
    · refine ⟨?_, ?_⟩
      · rw [show n + 2 * 5 + 1 = n + 11 by omega, hw5]; simp only [va_up]; (repeat' split) <;> first | rfl | omega
      · simp only [va_up]; (repeat' split) <;> first | rfl | omega
set_option maxHeartbeats 4000000 in
set_option maxRecDepth 100000 in
theorem k_X3_init (l : Launch) (κ : KK) (C : Nat → va_E) (he : C 0 = .inr (3, [.null, .int 0, .null, .null, .null, .long 0])) : Met l yX3_init (wA yX3_init cX3_init 1 none) ({ frames := 2, cells := 5, slots := 2697, locals := 32 }) (va_Pc [.ref (kad κ 0)] (fun U => WR κ C 1 U ∧ va_AO RX1 U)) (va_Qv (fun u : KK × (Nat → va_E) => kSame κ u.1 1 ∧ ∀ c, c < 6 → u.2 c = sh u.1 st0 (fun _ _ => 0) 0 c) (fun u t => WR u.1 u.2 6 t) (FA κ)) 5 2697 (FA κ) := by
  refine r_met 0 (by decide) rfl (Nat.le_of_ble_eq_true rfl) ?_
  intro p e s m args below meth c hC hni hX hO ls hl
  have hl : LL ls 1 [some (.ref (kad κ 0))] := hl
  refine g_aload_n hC hl dX3_init_0 rfl rfl ?_
  refine W.objInit hC.1 hC.2.1 hC.2.2.2.1 (hC.2.2.2.2.1 _ q_ml_RX3_3) (hC.2.2.2.2.1 _ q_im_objectInit) (hC.2.2.2.2.1 _ q_co_objectInit) rfl (by rw [hC.2.2.1]; exact hl.1) rfl dX3_init_1 (Nat.le_of_ble_eq_true rfl) (Nat.le_of_ble_eq_true rfl) ?_
  refine W.eq (g2 := F0 m 4 ls []) rfl ?_
  refine g_aload_n hC hl dX3_init_4 rfl rfl ?_
  refine lv_bipush (v := 60) hC.1 hC.2.1 dX3_init_5 (by decide) ?_
  refine r_newR 60 hC hX hO q_cl_RX3_9 (by decide) (by decide) (by decide) (Nat.le_of_ble_eq_true rfl) (Nat.le_of_ble_eq_true rfl) dX3_init_7 (fun q1 H hO => ?_)
  refine r_putF (co := 0) (ci := 3) (k := 0) (fs := [.null, .int 0, .null, .null, .null, .long 0]) ((hC).kup 1 q1) hni hO rfl rfl inX3 tyX3_ok nmX3 (by decide) q_fl_RX3_11 rfl rfl (by decide) he (Nat.le_of_ble_eq_true rfl) rfl rfl dX3_init_10 (fun H locs hO => ?_)
  refine g_aload_n hC hl dX3_init_13 rfl rfl ?_
  refine lv_sipush (v := 1061) hC.1 hC.2.1 dX3_init_14 (by decide) ?_
  refine r_newI 1061 ((hC).kup 1 q1) hO (by decide) (by decide) (by decide) (Nat.le_of_ble_eq_true rfl) (Nat.le_of_ble_eq_true rfl) dX3_init_17 (fun q2 H hO => ?_)
  refine r_putF (co := 0) (ci := 3) (k := 2) (fs := [.ref q1, .int 0, .null, .null, .null, .long 0]) (((hC).kup 1 q1).kup 2 q2) hni hO rfl rfl inX3 tyX3_ok nmX3 (by decide) q_fl_RX3_15 rfl rfl (by decide) rfl (Nat.le_of_ble_eq_true rfl) rfl rfl dX3_init_19 (fun H locs hO => ?_)
  refine g_aload_n hC hl dX3_init_22 rfl rfl ?_
  refine lv_sipush (v := 1061) hC.1 hC.2.1 dX3_init_23 (by decide) ?_
  refine r_newI 1061 (((hC).kup 1 q1).kup 2 q2) hO (by decide) (by decide) (by decide) (Nat.le_of_ble_eq_true rfl) (Nat.le_of_ble_eq_true rfl) dX3_init_26 (fun q3 H hO => ?_)
  refine r_putF (co := 0) (ci := 3) (k := 3) (fs := [.ref q1, .int 0, .ref q2, .null, .null, .long 0]) ((((hC).kup 1 q1).kup 2 q2).kup 3 q3) hni hO rfl rfl inX3 tyX3_ok nmX3 (by decide) q_fl_RX3_19 rfl rfl (by decide) rfl (Nat.le_of_ble_eq_true rfl) rfl rfl dX3_init_28 (fun H locs hO => ?_)
  refine g_aload_n hC hl dX3_init_31 rfl rfl ?_
  refine r_new (ci := 0) (fs := [.null, .int 0, .int 0]) ((((hC).kup 1 q1).kup 2 q2).kup 3 q3) hO rfl inX0 tyX0_ok q_cl_RX3_22 q_in_RX0 q_ini_RX0 (fun j hj => by rcases (show j = 0 ∨ j = 1 ∨ j = 2 by omega) with rfl | rfl | rfl <;> rfl) (Nat.le_of_ble_eq_true rfl) (Nat.le_of_ble_eq_true rfl) dX3_init_32 (fun q4 H hO => ?_)
  refine lv_dup hC.1 hC.2.1 dX3_init_35 rfl ?_
  refine r_cI (As := []) (((((hC).kup 1 q1).kup 2 q2).kup 3 q3).kup 4 q4) hO hl (k_X0_init l _ _ 5 4 q4 (by omega) rfl rfl) mi_X0_init rfl q_ml_RX3_24 (fun U g mk a h => ⟨h.1.blind g mk a, trivial⟩) (fun U hU _ hK => ⟨hO.wr hU hK, trivial⟩) rfl rfl rfl ⟨Nat.le_of_ble_eq_true rfl, Nat.le_of_ble_eq_true rfl⟩ (Nat.le_of_ble_eq_true rfl) ⟨Nat.le_of_ble_eq_true rfl, Nat.le_of_ble_eq_true rfl⟩ dX3_init_36 (fun q5 t H locs ht _ hB hS => ?_)
  have hO := hO.back rfl ht hB hS
  refine r_putF (co := 0) (ci := 3) (k := 4) (fs := [.ref q1, .int 0, .ref q2, .ref q3, .null, .long 0]) ((((((hC).kup 1 q1).kup 2 q2).kup 3 q3).kup 4 q4).kup 5 q5) hni hO rfl rfl inX3 tyX3_ok nmX3 (by decide) q_fl_RX3_25 rfl rfl (by decide) rfl (Nat.le_of_ble_eq_true rfl) rfl rfl dX3_init_39 (fun H locs hO => ?_)
  exact r_vret (kup (kup (kup (kup (kup κ 1 q1) 2 q2) 3 q3) 4 q4) 5 q5, _) hC hO rfl dX3_init_42 ⟨⟨rfl, rfl, rfl, fun c hc => by rcases (show c = 0 by omega) with rfl; rfl⟩, fun c hc => by rcases (show c = 0 ∨ c = 1 ∨ c = 2 ∨ c = 3 ∨ c = 4 ∨ c = 5 by omega) with rfl | rfl | rfl | rfl | rfl | rfl <;> rfl⟩ (fun t ht hK => hO.wr ht hK)
set_option maxHeartbeats 4000000 in
set_option maxRecDepth 100000 in
theorem k_X4_init (l : Launch) (κ : KK) (C : Nat → va_E) (he : C 6 = .inr (4, [.int 0, .null, .null, .null, .int 0, .int 0, .null, .null, .null, .null, .null, .null, .null, .null, .null, .null, .null, .null, .null, .long 0, .long 0, .int 0, .null])) : Met l yX4_init (wA yX4_init cX4_init 1 none) ({ frames := 1, cells := 17, slots := 8243, locals := 12 }) (va_Pc [.ref (kad κ 6)] (fun U => WR κ C 7 U ∧ True)) (va_Qv (fun u : KK × (Nat → va_E) => kSame κ u.1 7 ∧ (∀ c, c < 6 → u.2 c = C c) ∧ ∀ c, c < 24 → 6 ≤ c → u.2 c = sh u.1 st0 (fun _ _ => 0) 0 c) (fun u t => WR u.1 u.2 24 t) (FA κ)) 17 8243 (FA κ) := by
  refine r_met 0 (by decide) rfl (Nat.le_of_ble_eq_true rfl) ?_
  intro p e s m args below meth c hC hni hX hO ls hl
  have hl : LL ls 1 [some (.ref (kad κ 6))] := hl
  refine g_aload_n hC hl dX4_init_0 rfl rfl ?_
  refine W.objInit hC.1 hC.2.1 hC.2.2.2.1 (hC.2.2.2.2.1 _ q_ml_RX4_1) (hC.2.2.2.2.1 _ q_im_objectInit) (hC.2.2.2.2.1 _ q_co_objectInit) rfl (by rw [hC.2.2.1]; exact hl.1) rfl dX4_init_1 (Nat.le_of_ble_eq_true rfl) (Nat.le_of_ble_eq_true rfl) ?_
  refine W.eq (g2 := F0 m 4 ls []) rfl ?_
  refine g_aload_n hC hl dX4_init_4 rfl rfl ?_
  refine lv_sipush (v := 1061) hC.1 hC.2.1 dX4_init_5 (by decide) ?_
  refine r_newI 1061 (hC) hO (by decide) (by decide) (by decide) (Nat.le_of_ble_eq_true rfl) (Nat.le_of_ble_eq_true rfl) dX4_init_8 (fun q7 H hO => ?_)
  refine r_putF (co := 6) (ci := 4) (k := 1) (fs := [.int 0, .null, .null, .null, .int 0, .int 0, .null, .null, .null, .null, .null, .null, .null, .null, .null, .null, .null, .null, .null, .long 0, .long 0, .int 0, .null]) ((hC).kup 7 q7) hni hO rfl rfl inX4 tyX4_ok nmX4 (by decide) q_fl_RX4_7 rfl rfl (by decide) he (Nat.le_of_ble_eq_true rfl) rfl rfl dX4_init_10 (fun H locs hO => ?_)
  refine g_aload_n hC hl dX4_init_13 rfl rfl ?_
  refine lv_sipush (v := 1061) hC.1 hC.2.1 dX4_init_14 (by decide) ?_
  refine r_newI 1061 ((hC).kup 7 q7) hO (by decide) (by decide) (by decide) (Nat.le_of_ble_eq_true rfl) (Nat.le_of_ble_eq_true rfl) dX4_init_17 (fun q8 H hO => ?_)
  refine r_putF (co := 6) (ci := 4) (k := 2) (fs := [.int 0, .ref q7, .null, .null, .int 0, .int 0, .null, .null, .null, .null, .null, .null, .null, .null, .null, .null, .null, .null, .null, .long 0, .long 0, .int 0, .null]) (((hC).kup 7 q7).kup 8 q8) hni hO rfl rfl inX4 tyX4_ok nmX4 (by decide) q_fl_RX4_13 rfl rfl (by decide) rfl (Nat.le_of_ble_eq_true rfl) rfl rfl dX4_init_19 (fun H locs hO => ?_)
  refine g_aload_n hC hl dX4_init_22 rfl rfl ?_
  refine lv_sipush (v := 1061) hC.1 hC.2.1 dX4_init_23 (by decide) ?_
  refine r_newI 1061 (((hC).kup 7 q7).kup 8 q8) hO (by decide) (by decide) (by decide) (Nat.le_of_ble_eq_true rfl) (Nat.le_of_ble_eq_true rfl) dX4_init_26 (fun q9 H hO => ?_)
  refine r_putF (co := 6) (ci := 4) (k := 3) (fs := [.int 0, .ref q7, .ref q8, .null, .int 0, .int 0, .null, .null, .null, .null, .null, .null, .null, .null, .null, .null, .null, .null, .null, .long 0, .long 0, .int 0, .null]) ((((hC).kup 7 q7).kup 8 q8).kup 9 q9) hni hO rfl rfl inX4 tyX4_ok nmX4 (by decide) q_fl_RX4_16 rfl rfl (by decide) rfl (Nat.le_of_ble_eq_true rfl) rfl rfl dX4_init_28 (fun H locs hO => ?_)
  refine g_aload_n hC hl dX4_init_31 rfl rfl ?_
  refine lv_bipush (v := 60) hC.1 hC.2.1 dX4_init_32 (by decide) ?_
  refine r_newI 60 ((((hC).kup 7 q7).kup 8 q8).kup 9 q9) hO (by decide) (by decide) (by decide) (Nat.le_of_ble_eq_true rfl) (Nat.le_of_ble_eq_true rfl) dX4_init_34 (fun q10 H hO => ?_)
  refine r_putF (co := 6) (ci := 4) (k := 6) (fs := [.int 0, .ref q7, .ref q8, .ref q9, .int 0, .int 0, .null, .null, .null, .null, .null, .null, .null, .null, .null, .null, .null, .null, .null, .long 0, .long 0, .int 0, .null]) (((((hC).kup 7 q7).kup 8 q8).kup 9 q9).kup 10 q10) hni hO rfl rfl inX4 tyX4_ok nmX4 (by decide) q_fl_RX4_19 rfl rfl (by decide) rfl (Nat.le_of_ble_eq_true rfl) rfl rfl dX4_init_36 (fun H locs hO => ?_)
  refine g_aload_n hC hl dX4_init_39 rfl rfl ?_
  refine lv_bipush (v := 60) hC.1 hC.2.1 dX4_init_40 (by decide) ?_
  refine r_newZ 60 (((((hC).kup 7 q7).kup 8 q8).kup 9 q9).kup 10 q10) hO (by decide) (by decide) (by decide) (Nat.le_of_ble_eq_true rfl) (Nat.le_of_ble_eq_true rfl) dX4_init_42 (fun q11 H hO => ?_)
  refine r_putF (co := 6) (ci := 4) (k := 7) (fs := [.int 0, .ref q7, .ref q8, .ref q9, .int 0, .int 0, .ref q10, .null, .null, .null, .null, .null, .null, .null, .null, .null, .null, .null, .null, .long 0, .long 0, .int 0, .null]) ((((((hC).kup 7 q7).kup 8 q8).kup 9 q9).kup 10 q10).kup 11 q11) hni hO rfl rfl inX4 tyX4_ok nmX4 (by decide) q_fl_RX4_22 rfl rfl (by decide) rfl (Nat.le_of_ble_eq_true rfl) rfl rfl dX4_init_44 (fun H locs hO => ?_)
  refine g_aload_n hC hl dX4_init_47 rfl rfl ?_
  refine lv_bipush (v := 60) hC.1 hC.2.1 dX4_init_48 (by decide) ?_
  refine r_newZ 60 ((((((hC).kup 7 q7).kup 8 q8).kup 9 q9).kup 10 q10).kup 11 q11) hO (by decide) (by decide) (by decide) (Nat.le_of_ble_eq_true rfl) (Nat.le_of_ble_eq_true rfl) dX4_init_50 (fun q12 H hO => ?_)
  refine r_putF (co := 6) (ci := 4) (k := 8) (fs := [.int 0, .ref q7, .ref q8, .ref q9, .int 0, .int 0, .ref q10, .ref q11, .null, .null, .null, .null, .null, .null, .null, .null, .null, .null, .null, .long 0, .long 0, .int 0, .null]) (((((((hC).kup 7 q7).kup 8 q8).kup 9 q9).kup 10 q10).kup 11 q11).kup 12 q12) hni hO rfl rfl inX4 tyX4_ok nmX4 (by decide) q_fl_RX4_26 rfl rfl (by decide) rfl (Nat.le_of_ble_eq_true rfl) rfl rfl dX4_init_52 (fun H locs hO => ?_)
  refine g_aload_n hC hl dX4_init_55 rfl rfl ?_
  refine lv_bipush (v := 60) hC.1 hC.2.1 dX4_init_56 (by decide) ?_
  refine r_newL 60 (((((((hC).kup 7 q7).kup 8 q8).kup 9 q9).kup 10 q10).kup 11 q11).kup 12 q12) hO (by decide) (by decide) (by decide) (Nat.le_of_ble_eq_true rfl) (Nat.le_of_ble_eq_true rfl) dX4_init_58 (fun q13 H hO => ?_)
  refine r_putF (co := 6) (ci := 4) (k := 9) (fs := [.int 0, .ref q7, .ref q8, .ref q9, .int 0, .int 0, .ref q10, .ref q11, .ref q12, .null, .null, .null, .null, .null, .null, .null, .null, .null, .null, .long 0, .long 0, .int 0, .null]) ((((((((hC).kup 7 q7).kup 8 q8).kup 9 q9).kup 10 q10).kup 11 q11).kup 12 q12).kup 13 q13) hni hO rfl rfl inX4 tyX4_ok nmX4 (by decide) q_fl_RX4_29 rfl rfl (by decide) rfl (Nat.le_of_ble_eq_true rfl) rfl rfl dX4_init_60 (fun H locs hO => ?_)
  refine g_aload_n hC hl dX4_init_63 rfl rfl ?_
  refine lv_bipush (v := 60) hC.1 hC.2.1 dX4_init_64 (by decide) ?_
  refine r_newI 60 ((((((((hC).kup 7 q7).kup 8 q8).kup 9 q9).kup 10 q10).kup 11 q11).kup 12 q12).kup 13 q13) hO (by decide) (by decide) (by decide) (Nat.le_of_ble_eq_true rfl) (Nat.le_of_ble_eq_true rfl) dX4_init_66 (fun q14 H hO => ?_)
  refine r_putF (co := 6) (ci := 4) (k := 10) (fs := [.int 0, .ref q7, .ref q8, .ref q9, .int 0, .int 0, .ref q10, .ref q11, .ref q12, .ref q13, .null, .null, .null, .null, .null, .null, .null, .null, .null, .long 0, .long 0, .int 0, .null]) (((((((((hC).kup 7 q7).kup 8 q8).kup 9 q9).kup 10 q10).kup 11 q11).kup 12 q12).kup 13 q13).kup 14 q14) hni hO rfl rfl inX4 tyX4_ok nmX4 (by decide) q_fl_RX4_33 rfl rfl (by decide) rfl (Nat.le_of_ble_eq_true rfl) rfl rfl dX4_init_68 (fun H locs hO => ?_)
  refine g_aload_n hC hl dX4_init_71 rfl rfl ?_
  refine lv_bipush (v := 60) hC.1 hC.2.1 dX4_init_72 (by decide) ?_
  refine r_newL 60 (((((((((hC).kup 7 q7).kup 8 q8).kup 9 q9).kup 10 q10).kup 11 q11).kup 12 q12).kup 13 q13).kup 14 q14) hO (by decide) (by decide) (by decide) (Nat.le_of_ble_eq_true rfl) (Nat.le_of_ble_eq_true rfl) dX4_init_74 (fun q15 H hO => ?_)
  refine r_putF (co := 6) (ci := 4) (k := 11) (fs := [.int 0, .ref q7, .ref q8, .ref q9, .int 0, .int 0, .ref q10, .ref q11, .ref q12, .ref q13, .ref q14, .null, .null, .null, .null, .null, .null, .null, .null, .long 0, .long 0, .int 0, .null]) ((((((((((hC).kup 7 q7).kup 8 q8).kup 9 q9).kup 10 q10).kup 11 q11).kup 12 q12).kup 13 q13).kup 14 q14).kup 15 q15) hni hO rfl rfl inX4 tyX4_ok nmX4 (by decide) q_fl_RX4_36 rfl rfl (by decide) rfl (Nat.le_of_ble_eq_true rfl) rfl rfl dX4_init_76 (fun H locs hO => ?_)
  refine g_aload_n hC hl dX4_init_79 rfl rfl ?_
  refine lv_bipush (v := 60) hC.1 hC.2.1 dX4_init_80 (by decide) ?_
  refine r_newI 60 ((((((((((hC).kup 7 q7).kup 8 q8).kup 9 q9).kup 10 q10).kup 11 q11).kup 12 q12).kup 13 q13).kup 14 q14).kup 15 q15) hO (by decide) (by decide) (by decide) (Nat.le_of_ble_eq_true rfl) (Nat.le_of_ble_eq_true rfl) dX4_init_82 (fun q16 H hO => ?_)
  refine r_putF (co := 6) (ci := 4) (k := 12) (fs := [.int 0, .ref q7, .ref q8, .ref q9, .int 0, .int 0, .ref q10, .ref q11, .ref q12, .ref q13, .ref q14, .ref q15, .null, .null, .null, .null, .null, .null, .null, .long 0, .long 0, .int 0, .null]) (((((((((((hC).kup 7 q7).kup 8 q8).kup 9 q9).kup 10 q10).kup 11 q11).kup 12 q12).kup 13 q13).kup 14 q14).kup 15 q15).kup 16 q16) hni hO rfl rfl inX4 tyX4_ok nmX4 (by decide) q_fl_RX4_39 rfl rfl (by decide) rfl (Nat.le_of_ble_eq_true rfl) rfl rfl dX4_init_84 (fun H locs hO => ?_)
  refine g_aload_n hC hl dX4_init_87 rfl rfl ?_
  refine lv_sipush (v := 720) hC.1 hC.2.1 dX4_init_88 (by decide) ?_
  refine r_newI 720 (((((((((((hC).kup 7 q7).kup 8 q8).kup 9 q9).kup 10 q10).kup 11 q11).kup 12 q12).kup 13 q13).kup 14 q14).kup 15 q15).kup 16 q16) hO (by decide) (by decide) (by decide) (Nat.le_of_ble_eq_true rfl) (Nat.le_of_ble_eq_true rfl) dX4_init_91 (fun q17 H hO => ?_)
  refine r_putF (co := 6) (ci := 4) (k := 13) (fs := [.int 0, .ref q7, .ref q8, .ref q9, .int 0, .int 0, .ref q10, .ref q11, .ref q12, .ref q13, .ref q14, .ref q15, .ref q16, .null, .null, .null, .null, .null, .null, .long 0, .long 0, .int 0, .null]) ((((((((((((hC).kup 7 q7).kup 8 q8).kup 9 q9).kup 10 q10).kup 11 q11).kup 12 q12).kup 13 q13).kup 14 q14).kup 15 q15).kup 16 q16).kup 17 q17) hni hO rfl rfl inX4 tyX4_ok nmX4 (by decide) q_fl_RX4_42 rfl rfl (by decide) rfl (Nat.le_of_ble_eq_true rfl) rfl rfl dX4_init_93 (fun H locs hO => ?_)
  refine g_aload_n hC hl dX4_init_96 rfl rfl ?_
  refine lv_sipush (v := 720) hC.1 hC.2.1 dX4_init_97 (by decide) ?_
  refine r_newZ 720 ((((((((((((hC).kup 7 q7).kup 8 q8).kup 9 q9).kup 10 q10).kup 11 q11).kup 12 q12).kup 13 q13).kup 14 q14).kup 15 q15).kup 16 q16).kup 17 q17) hO (by decide) (by decide) (by decide) (Nat.le_of_ble_eq_true rfl) (Nat.le_of_ble_eq_true rfl) dX4_init_100 (fun q18 H hO => ?_)
  refine r_putF (co := 6) (ci := 4) (k := 14) (fs := [.int 0, .ref q7, .ref q8, .ref q9, .int 0, .int 0, .ref q10, .ref q11, .ref q12, .ref q13, .ref q14, .ref q15, .ref q16, .ref q17, .null, .null, .null, .null, .null, .long 0, .long 0, .int 0, .null]) (((((((((((((hC).kup 7 q7).kup 8 q8).kup 9 q9).kup 10 q10).kup 11 q11).kup 12 q12).kup 13 q13).kup 14 q14).kup 15 q15).kup 16 q16).kup 17 q17).kup 18 q18) hni hO rfl rfl inX4 tyX4_ok nmX4 (by decide) q_fl_RX4_45 rfl rfl (by decide) rfl (Nat.le_of_ble_eq_true rfl) rfl rfl dX4_init_102 (fun H locs hO => ?_)
  refine g_aload_n hC hl dX4_init_105 rfl rfl ?_
  refine lv_bipush (v := 60) hC.1 hC.2.1 dX4_init_106 (by decide) ?_
  refine r_newI 60 (((((((((((((hC).kup 7 q7).kup 8 q8).kup 9 q9).kup 10 q10).kup 11 q11).kup 12 q12).kup 13 q13).kup 14 q14).kup 15 q15).kup 16 q16).kup 17 q17).kup 18 q18) hO (by decide) (by decide) (by decide) (Nat.le_of_ble_eq_true rfl) (Nat.le_of_ble_eq_true rfl) dX4_init_108 (fun q19 H hO => ?_)
  refine r_putF (co := 6) (ci := 4) (k := 15) (fs := [.int 0, .ref q7, .ref q8, .ref q9, .int 0, .int 0, .ref q10, .ref q11, .ref q12, .ref q13, .ref q14, .ref q15, .ref q16, .ref q17, .ref q18, .null, .null, .null, .null, .long 0, .long 0, .int 0, .null]) ((((((((((((((hC).kup 7 q7).kup 8 q8).kup 9 q9).kup 10 q10).kup 11 q11).kup 12 q12).kup 13 q13).kup 14 q14).kup 15 q15).kup 16 q16).kup 17 q17).kup 18 q18).kup 19 q19) hni hO rfl rfl inX4 tyX4_ok nmX4 (by decide) q_fl_RX4_48 rfl rfl (by decide) rfl (Nat.le_of_ble_eq_true rfl) rfl rfl dX4_init_110 (fun H locs hO => ?_)
  refine g_aload_n hC hl dX4_init_113 rfl rfl ?_
  refine lv_sipush (v := 720) hC.1 hC.2.1 dX4_init_114 (by decide) ?_
  refine r_newI 720 ((((((((((((((hC).kup 7 q7).kup 8 q8).kup 9 q9).kup 10 q10).kup 11 q11).kup 12 q12).kup 13 q13).kup 14 q14).kup 15 q15).kup 16 q16).kup 17 q17).kup 18 q18).kup 19 q19) hO (by decide) (by decide) (by decide) (Nat.le_of_ble_eq_true rfl) (Nat.le_of_ble_eq_true rfl) dX4_init_117 (fun q20 H hO => ?_)
  refine r_putF (co := 6) (ci := 4) (k := 16) (fs := [.int 0, .ref q7, .ref q8, .ref q9, .int 0, .int 0, .ref q10, .ref q11, .ref q12, .ref q13, .ref q14, .ref q15, .ref q16, .ref q17, .ref q18, .ref q19, .null, .null, .null, .long 0, .long 0, .int 0, .null]) (((((((((((((((hC).kup 7 q7).kup 8 q8).kup 9 q9).kup 10 q10).kup 11 q11).kup 12 q12).kup 13 q13).kup 14 q14).kup 15 q15).kup 16 q16).kup 17 q17).kup 18 q18).kup 19 q19).kup 20 q20) hni hO rfl rfl inX4 tyX4_ok nmX4 (by decide) q_fl_RX4_51 rfl rfl (by decide) rfl (Nat.le_of_ble_eq_true rfl) rfl rfl dX4_init_119 (fun H locs hO => ?_)
  refine g_aload_n hC hl dX4_init_122 rfl rfl ?_
  refine lv_bipush (v := 60) hC.1 hC.2.1 dX4_init_123 (by decide) ?_
  refine r_newI 60 (((((((((((((((hC).kup 7 q7).kup 8 q8).kup 9 q9).kup 10 q10).kup 11 q11).kup 12 q12).kup 13 q13).kup 14 q14).kup 15 q15).kup 16 q16).kup 17 q17).kup 18 q18).kup 19 q19).kup 20 q20) hO (by decide) (by decide) (by decide) (Nat.le_of_ble_eq_true rfl) (Nat.le_of_ble_eq_true rfl) dX4_init_125 (fun q21 H hO => ?_)
  refine r_putF (co := 6) (ci := 4) (k := 17) (fs := [.int 0, .ref q7, .ref q8, .ref q9, .int 0, .int 0, .ref q10, .ref q11, .ref q12, .ref q13, .ref q14, .ref q15, .ref q16, .ref q17, .ref q18, .ref q19, .ref q20, .null, .null, .long 0, .long 0, .int 0, .null]) ((((((((((((((((hC).kup 7 q7).kup 8 q8).kup 9 q9).kup 10 q10).kup 11 q11).kup 12 q12).kup 13 q13).kup 14 q14).kup 15 q15).kup 16 q16).kup 17 q17).kup 18 q18).kup 19 q19).kup 20 q20).kup 21 q21) hni hO rfl rfl inX4 tyX4_ok nmX4 (by decide) q_fl_RX4_54 rfl rfl (by decide) rfl (Nat.le_of_ble_eq_true rfl) rfl rfl dX4_init_127 (fun H locs hO => ?_)
  refine g_aload_n hC hl dX4_init_130 rfl rfl ?_
  refine lv_sipush (v := 360) hC.1 hC.2.1 dX4_init_131 (by decide) ?_
  refine r_newL 360 ((((((((((((((((hC).kup 7 q7).kup 8 q8).kup 9 q9).kup 10 q10).kup 11 q11).kup 12 q12).kup 13 q13).kup 14 q14).kup 15 q15).kup 16 q16).kup 17 q17).kup 18 q18).kup 19 q19).kup 20 q20).kup 21 q21) hO (by decide) (by decide) (by decide) (Nat.le_of_ble_eq_true rfl) (Nat.le_of_ble_eq_true rfl) dX4_init_134 (fun q22 H hO => ?_)
  refine r_putF (co := 6) (ci := 4) (k := 18) (fs := [.int 0, .ref q7, .ref q8, .ref q9, .int 0, .int 0, .ref q10, .ref q11, .ref q12, .ref q13, .ref q14, .ref q15, .ref q16, .ref q17, .ref q18, .ref q19, .ref q20, .ref q21, .null, .long 0, .long 0, .int 0, .null]) (((((((((((((((((hC).kup 7 q7).kup 8 q8).kup 9 q9).kup 10 q10).kup 11 q11).kup 12 q12).kup 13 q13).kup 14 q14).kup 15 q15).kup 16 q16).kup 17 q17).kup 18 q18).kup 19 q19).kup 20 q20).kup 21 q21).kup 22 q22) hni hO rfl rfl inX4 tyX4_ok nmX4 (by decide) q_fl_RX4_57 rfl rfl (by decide) rfl (Nat.le_of_ble_eq_true rfl) rfl rfl dX4_init_136 (fun H locs hO => ?_)
  refine g_aload_n hC hl dX4_init_139 rfl rfl ?_
  refine lv_ldc2 hC.1 hC.2.1 hC.2.2.2.1 (hC.2.2.2.2.1 _ q_kl_RX4_60) dX4_init_140 ?_
  refine r_put (co := 6) (ci := 4) (k := 20) (fs := [.int 0, .ref q7, .ref q8, .ref q9, .int 0, .int 0, .ref q10, .ref q11, .ref q12, .ref q13, .ref q14, .ref q15, .ref q16, .ref q17, .ref q18, .ref q19, .ref q20, .ref q21, .ref q22, .long 0, .long 0, .int 0, .null]) (((((((((((((((((hC).kup 7 q7).kup 8 q8).kup 9 q9).kup 10 q10).kup 11 q11).kup 12 q12).kup 13 q13).kup 14 q14).kup 15 q15).kup 16 q16).kup 17 q17).kup 18 q18).kup 19 q19).kup 20 q20).kup 21 q21).kup 22 q22) hO rfl rfl inX4 tyX4_ok nmX4 (by decide) q_fl_RX4_62 rfl (by decide) rfl (Nat.le_of_ble_eq_true rfl) rfl rfl dX4_init_143 (fun H locs hO => ?_)
  refine g_aload_n hC hl dX4_init_146 rfl rfl ?_
  refine lv_sipush (v := 2000) hC.1 hC.2.1 dX4_init_147 (by decide) ?_
  refine r_newL 2000 (((((((((((((((((hC).kup 7 q7).kup 8 q8).kup 9 q9).kup 10 q10).kup 11 q11).kup 12 q12).kup 13 q13).kup 14 q14).kup 15 q15).kup 16 q16).kup 17 q17).kup 18 q18).kup 19 q19).kup 20 q20).kup 21 q21).kup 22 q22) hO (by decide) (by decide) (by decide) (Nat.le_of_ble_eq_true rfl) (Nat.le_of_ble_eq_true rfl) dX4_init_150 (fun q23 H hO => ?_)
  refine r_putF (co := 6) (ci := 4) (k := 22) (fs := [.int 0, .ref q7, .ref q8, .ref q9, .int 0, .int 0, .ref q10, .ref q11, .ref q12, .ref q13, .ref q14, .ref q15, .ref q16, .ref q17, .ref q18, .ref q19, .ref q20, .ref q21, .ref q22, .long 0, .long (-1), .int 0, .null]) ((((((((((((((((((hC).kup 7 q7).kup 8 q8).kup 9 q9).kup 10 q10).kup 11 q11).kup 12 q12).kup 13 q13).kup 14 q14).kup 15 q15).kup 16 q16).kup 17 q17).kup 18 q18).kup 19 q19).kup 20 q20).kup 21 q21).kup 22 q22).kup 23 q23) hni hO rfl rfl inX4 tyX4_ok nmX4 (by decide) q_fl_RX4_66 rfl rfl (by decide) rfl (Nat.le_of_ble_eq_true rfl) rfl rfl dX4_init_152 (fun H locs hO => ?_)
  exact r_vret ((kup (kup (kup (kup (kup (kup (kup (kup (kup (kup (kup (kup (kup (kup (kup (kup (kup κ 7 q7) 8 q8) 9 q9) 10 q10) 11 q11) 12 q12) 13 q13) 14 q14) 15 q15) 16 q16) 17 q17) 18 q18) 19 q19) 20 q20) 21 q21) 22 q22) 23 q23), _) hC hO rfl dX4_init_155 ⟨⟨rfl, rfl, rfl, fun c hc => by rcases (show c = 0 ∨ c = 1 ∨ c = 2 ∨ c = 3 ∨ c = 4 ∨ c = 5 ∨ c = 6 by omega) with rfl | rfl | rfl | rfl | rfl | rfl | rfl <;> rfl⟩, fun c hc => by rcases (show c = 0 ∨ c = 1 ∨ c = 2 ∨ c = 3 ∨ c = 4 ∨ c = 5 by omega) with rfl | rfl | rfl | rfl | rfl | rfl <;> rfl, fun c hc hc2 => by rcases (show c = 6 ∨ c = 7 ∨ c = 8 ∨ c = 9 ∨ c = 10 ∨ c = 11 ∨ c = 12 ∨ c = 13 ∨ c = 14 ∨ c = 15 ∨ c = 16 ∨ c = 17 ∨ c = 18 ∨ c = 19 ∨ c = 20 ∨ c = 21 ∨ c = 22 ∨ c = 23 by omega) with rfl | rfl | rfl | rfl | rfl | rfl | rfl | rfl | rfl | rfl | rfl | rfl | rfl | rfl | rfl | rfl | rfl | rfl <;> rfl⟩ (fun t ht hK => hO.wr ht hK)
