def kSame (κ κ2 : KK) (n : Nat) : Prop := κ2.1 = κ.1 ∧ κ2.2.1 = κ.2.1 ∧ κ2.2.2.1 = κ.2.2.1 ∧ ∀ c, c < n → kad κ2 c = kad κ c
def st0 : ST := (0, fun _ _ => 0, fun c => if c = 6 then (fun i => if i = 20 then -1 else 0) else fun _ => 0, fun _ => [])
set_option maxHeartbeats 4000000 in
set_option maxRecDepth 100000 in
theorem k_X2_init (l : Launch) (κ : KK) (C : Nat → va_E) (n o a cap : Nat) (ho : o < n) (ha : kad κ o = a) (he : C o = .inr (2, [.null, .int 0])) (hcap : cap ≤ 12) : Met l yX2_init (wA yX2_init cX2_init 2 none) ({ frames := 1, cells := 1, slots := cap, locals := 12 }) (va_Pc [.ref a, .int (nI cap)] (fun U => WR κ C n U ∧ True)) (va_Qv (fun _ : Nat => True) (fun q t => WR (kup κ n q) (va_up (va_up C n (.inl (kcI κ, cap, .inl (fun _ => 0)))) o (.inr (2, [.ref q, .int 0]))) (n + 1) t) (FA κ)) 1 cap (FA κ) := by
  refine r_met 0 (by decide) rfl (Nat.le_of_ble_eq_true rfl) ?_
  intro p e s m args below meth c hC hni hX hO ls hl
  have hl : LL ls 2 [some (.ref a), some (.int (nI cap))] := hl
  refine g_aload_n hC hl dX2_init_0 rfl rfl ?_
  refine W.objInit hC.1 hC.2.1 hC.2.2.2.1 (hC.2.2.2.2.1 _ q_ml_RX2_1) (hC.2.2.2.2.1 _ q_im_objectInit) (hC.2.2.2.2.1 _ q_co_objectInit) rfl (by rw [hC.2.2.1]; exact hl.1) rfl dX2_init_1 (Nat.le_of_ble_eq_true rfl) (Nat.le_of_ble_eq_true rfl) ?_
  refine W.eq (g2 := F0 m 4 ls []) rfl ?_
  refine g_aload_n hC hl dX2_init_4 rfl rfl ?_
  refine g_iload_n hC hl dX2_init_5 rfl rfl ?_
  refine lv_if_ge (tgt := 13) hC.1 hC.2.1 dX2_init_6 (by decide) (fun _ => ?_) (fun c1 => absurd (nI_pos' (by omega)) c1)
  refine g_iload_n hC hl dX2_init_13 rfl rfl ?_
  refine r_newI cap hC hO (nI_pos (by omega)) (nI_clamp (by omega)) (by omega) (Nat.le_of_ble_eq_true rfl) (by show 0 + cap ≤ cap; omega) dX2_init_14 (fun q H hO => ?_)
  refine r_putF (co := o) (ci := 2) (k := 0) (fs := [.null, .int 0]) (hC.kup n q) hni hO (by rw [kad_kup, if_neg (by omega)]; exact ha) rfl inX2 tyX2_ok nmX2 (by decide) q_fl_RX2_7 rfl rfl (by omega) (by rw [va_up_ne _ _ (by omega)]; exact he) (Nat.le_of_ble_eq_true rfl) rfl rfl dX2_init_16 (fun H locs hO => ?_)
  refine W.widen (k := 1) (n := cap) (by omega) (by omega) ?_
  exact r_vret q hC hO rfl dX2_init_19 trivial (fun t ht hK => hO.wr ht hK)
set_option maxHeartbeats 4000000 in
set_option maxRecDepth 100000 in
theorem k_X0_init (l : Launch) (κ : KK) (C : Nat → va_E) (n o a : Nat) (ho : o < n) (ha : kad κ o = a) (he : C o = .inr (0, [.null, .int 0, .int 0])) : Met l yX0_init (wA yX0_init cX0_init 1 none) ({ frames := 1, cells := 1, slots := 512, locals := 12 }) (va_Pc [.ref a] (fun U => WR κ C n U ∧ True)) (va_Qv (fun _ : Nat => True) (fun q t => WR (kup κ n q) (va_up (va_up C n (.inl (kcL κ, 512, .inr (.inl (fun _ => 0))))) o (.inr (0, [.ref q, .int 0, .int 0]))) (n + 1) t) (FA κ)) 1 512 (FA κ) := by
  refine r_met 0 (by decide) rfl (Nat.le_of_ble_eq_true rfl) ?_
  intro p e s m args below meth c hC hni hX hO ls hl
  have hl : LL ls 1 [some (.ref a)] := hl
  refine g_aload_n hC hl dX0_init_0 rfl rfl ?_
  refine W.objInit hC.1 hC.2.1 hC.2.2.2.1 (hC.2.2.2.2.1 _ q_ml_RX0_3) (hC.2.2.2.2.1 _ q_im_objectInit) (hC.2.2.2.2.1 _ q_co_objectInit) rfl (by rw [hC.2.2.1]; exact hl.1) rfl dX0_init_1 (Nat.le_of_ble_eq_true rfl) (Nat.le_of_ble_eq_true rfl) ?_
  refine W.eq (g2 := F0 m 4 ls []) rfl ?_
  refine g_aload_n hC hl dX0_init_4 rfl rfl ?_
  refine lv_sipush (v := 512) hC.1 hC.2.1 dX0_init_5 (by decide) ?_
  refine r_newL 512 hC hO (by decide) (by decide) (by decide) (Nat.le_of_ble_eq_true rfl) (Nat.le_of_ble_eq_true rfl) dX0_init_8 (fun q H hO => ?_)
  refine r_putF (co := o) (ci := 0) (k := 0) (fs := [.null, .int 0, .int 0]) (hC.kup n q) hni hO (by rw [kad_kup, if_neg (by omega)]; exact ha) rfl inX0 tyX0_ok nmX0 (by decide) q_fl_RX0_9 rfl rfl (by omega) (by rw [va_up_ne _ _ (by omega)]; exact he) (Nat.le_of_ble_eq_true rfl) rfl rfl dX0_init_10 (fun H locs hO => ?_)
  refine W.widen (k := 1) (n := 512) (by omega) (by omega) ?_
  exact r_vret q hC hO rfl dX0_init_13 trivial (fun t ht hK => hO.wr ht hK)
theorem kSame.refl (κ : KK) (n : Nat) : kSame κ κ n := ⟨rfl, rfl, rfl, fun _ _ => rfl⟩
theorem CX.same {p : Program} {s : State} {m : MethodId} {args : Array Value} {meth : Method} {c : Code} {cc : ByteArray} {nL : Nat} {own : String} {rt : Option FieldType} {κ κ2 : KK} {n : Nat} (hC : CX p s m args meth c cc nL own rt κ) (h : kSame κ κ2 n) : CX p s m args meth c cc nL own rt κ2 := by
  obtain ⟨h1, h2, h3, h4⟩ := h
  unfold CX kD kT kcI kcL kcZ kcR at *
  rw [h2, h3]
  exact hC
def PD (κ : KK) (C : Nat → va_E) (κi : KK) (Ci : Nat → va_E) (n o i : Nat) : Prop := kSame κ κi n ∧ (∀ c, c < n → c ≠ o → Ci c = C c) ∧ ∀ j, j < i → Ci (n + 2 * j) = .inr (2, [.ref (kad κi (n + 2 * j + 1)), .int 0]) ∧ Ci (n + 2 * j + 1) = .inl (kcI κ, capj j, .inl (fun _ => 0))
theorem PD.zero {κ : KK} {C C2 : Nat → va_E} {n o : Nat} {e : va_E} (h : C2 = va_up C o e) : PD κ C κ C2 n o 0 := ⟨kSame.refl κ n, fun c _ hc => by rw [h, va_up_ne _ _ hc], fun j hj => absurd hj (Nat.not_lt_zero j)⟩
theorem pstep {κ κi : KK} {C Ci : Nat → va_E} {n o i N q w cap : Nat} {fs : List Value} {H0 H : Heap} {locs : List Loc} (ho : o < n) (hN : N = n + 2 * i) (hcap : cap = capj i) (hP : PD κ C κi Ci n o i) (h : OR (kup (kup κi N q) (N + 1) w) H0 (va_up (va_up (va_up (va_up Ci N (.inr (2, [.null, .int 0]))) (N + 1) (.inl (kcI (kup κi N q), cap, .inl (fun _ => 0)))) N (.inr (2, [.ref w, .int 0]))) o (.inr (1, fs))) (N + 1 + 1) H locs) : ∃ (κ2 : KK) (C2 : Nat → va_E), OR κ2 H0 C2 (N + 1 + 1) H locs ∧ PD κ C κ2 C2 n o (i + 1) ∧ kad κ2 N = q ∧ (∀ c, c < N → kad κ2 c = kad κi c) ∧ C2 o = .inr (1, fs) := by
  have hk : ∀ c, c < N → kad (kup (kup κi N q) (N + 1) w) c = kad κi c := fun c hc => by rw [kad_kup, if_neg (by omega), kad_kup, if_neg (by omega)]
  refine ⟨_, _, h, ⟨⟨hP.1.1, hP.1.2.1, hP.1.2.2.1, fun c hc => by rw [hk c (by omega)]; exact hP.1.2.2.2 c hc⟩, fun c hc hco => ?_, fun j hj => ?_⟩, by rw [kad_kup, if_neg (by omega), kad_kup, if_pos rfl], hk, va_up_self _ _ _⟩
  · rw [va_up_ne _ _ hco, va_up_ne _ _ (by omega), va_up_ne _ _ (by omega), va_up_ne _ _ (by omega)]; exact hP.2.1 c hc hco
  · by_cases hji : j = i
    · subst hji
      rw [← hN]
      refine ⟨?_, ?_⟩
      · rw [va_up_ne _ _ (by omega), va_up_self, kad_kup, if_pos rfl]
      · rw [va_up_ne _ _ (by omega), va_up_ne _ _ (by omega), va_up_self, ← hcap]
        have e9 : kcI (kup κi N q) = kcI κ := by show kcI κi = kcI κ; unfold kcI; rw [hP.1.2.2.1]
        rw [e9]
    · have h9 := hP.2.2 j (by omega)
      refine ⟨?_, ?_⟩
      · rw [va_up_ne _ _ (by omega), va_up_ne _ _ (by omega), va_up_ne _ _ (by omega), va_up_ne _ _ (by omega), hk _ (by omega)]; exact h9.1
      · rw [va_up_ne _ _ (by omega), va_up_ne _ _ (by omega), va_up_ne _ _ (by omega), va_up_ne _ _ (by omega)]; exact h9.2
set_option maxHeartbeats 4000000 in
set_option maxRecDepth 100000 in
theorem k_X1_init (l : Launch) (κ : KK) (C : Nat → va_E) (n o a : Nat) (kd : Int32) (ho : o < n) (ha : kad κ o = a) (he : C o = .inr (1, [.int 0, .int 0, .int 0, .long 0, .int 0, .null, .null, .null, .null, .null, .null])) : Met l yX1_init (wA yX1_init cX1_init 2 none) ({ frames := 2, cells := 12, slots := 67, locals := 33 }) (va_Pc [.ref a, .int kd] (fun U => WR κ C n U ∧ True)) (va_Qv (fun u : KK × (Nat → va_E) => kSame κ u.1 n ∧ (∀ c, c < n → c ≠ o → u.2 c = C c) ∧ u.2 o = .inr (1, [.int kd, .int 0, .int 0, .long 0, .int 0, .ref (kad u.1 (n + 0)), .ref (kad u.1 (n + 2)), .ref (kad u.1 (n + 4)), .ref (kad u.1 (n + 6)), .ref (kad u.1 (n + 8)), .ref (kad u.1 (n + 10))]) ∧ ∀ j, j < 6 → u.2 (n + 2 * j) = .inr (2, [.ref (kad u.1 (n + 2 * j + 1)), .int 0]) ∧ u.2 (n + 2 * j + 1) = .inl (kcI κ, capj j, .inl (fun _ => 0))) (fun u t => WR u.1 u.2 (n + 1 + 1 + 1 + 1 + 1 + 1 + 1 + 1 + 1 + 1 + 1 + 1) t) (FA κ)) 12 67 (FA κ) := by
  refine r_met 0 (by decide) rfl (Nat.le_of_ble_eq_true rfl) ?_
  intro p e s m args below meth c hC hni hX hO ls hl
  have hl : LL ls 2 [some (.ref a), some (.int kd)] := hl
  refine g_aload_n hC hl dX1_init_0 rfl rfl ?_
  refine W.objInit hC.1 hC.2.1 hC.2.2.2.1 (hC.2.2.2.2.1 _ q_ml_RX1_3) (hC.2.2.2.2.1 _ q_im_objectInit) (hC.2.2.2.2.1 _ q_co_objectInit) rfl (by rw [hC.2.2.1]; exact hl.1) rfl dX1_init_1 (Nat.le_of_ble_eq_true rfl) (Nat.le_of_ble_eq_true rfl) ?_
  refine W.eq (g2 := F0 m 4 ls []) rfl ?_
  refine g_aload_n hC hl dX1_init_4 rfl rfl ?_
  refine g_iload_n hC hl dX1_init_5 rfl rfl ?_
  refine r_putF (co := o) (ci := 1) (k := 0) (fs := [.int 0, .int 0, .int 0, .long 0, .int 0, .null, .null, .null, .null, .null, .null]) (hC) hni hO ha rfl inX1 tyX1_ok nmX1 (by decide) q_fl_RX1_9 rfl rfl (by omega) he (Nat.le_of_ble_eq_true rfl) rfl rfl dX1_init_6 (fun H locs hO => ?_)
  obtain ⟨C0, hC0⟩ : ∃ C0, C0 = va_up C o (.inr (1, [.int kd, .int 0, .int 0, .long 0, .int 0, .null, .null, .null, .null, .null, .null])) := ⟨_, rfl⟩
  replace hO : OR κ s.heap C0 n H locs := by rw [hC0]; exact hO
  have P0 : PD κ C κ C0 n o 0 := PD.zero hC0
  have he0 : C0 o = .inr (1, [.int kd, .int 0, .int 0, .long 0, .int 0, .null, .null, .null, .null, .null, .null]) := by rw [hC0, va_up_self]
  have K0 := hC
  refine g_aload_n hC hl dX1_init_9 rfl rfl ?_
  refine r_new (ci := 2) (fs := [.null, .int 0]) K0 hO rfl inX2 tyX2_ok q_cl_RX1_15 q_in_RX2 q_ini_RX2 (fun j hj => by rcases (show j = 0 ∨ j = 1 by omega) with rfl | rfl <;> rfl) (Nat.le_of_ble_eq_true rfl) (Nat.le_of_ble_eq_true rfl) dX1_init_10 (fun q0 H hO => ?_)
  refine lv_dup hC.1 hC.2.1 dX1_init_13 rfl ?_
  refine lv_bipush (v := nI 12) hC.1 hC.2.1 dX1_init_14 (by decide) ?_
  refine r_cI (As := [.int (nI 12)]) (K0.kup (n) q0) hO hl (k_X2_init l _ _ (n + 1) (n) q0 12 (by omega) (by rw [kad_kup, if_pos rfl]) (by rw [va_up_self]) (by omega)) mi_X2_init rfl q_ml_RX1_17 (fun U g mk a h => ⟨h.1.blind g mk a, trivial⟩) (fun U hU _ hK => ⟨hO.wr hU hK, trivial⟩) rfl rfl rfl ⟨Nat.le_of_ble_eq_true rfl, Nat.le_of_ble_eq_true rfl⟩ (Nat.le_of_ble_eq_true rfl) ⟨Nat.le_of_ble_eq_true rfl, Nat.le_of_ble_eq_true rfl⟩ dX1_init_16 (fun w0 t H locs ht _ hB hS => ?_)
  have hO := OR.back (κ2 := kup (kup κ (n) q0) (n + 1) w0) hO rfl ht hB hS
  refine r_putF (co := o) (ci := 1) (k := 5) (fs := [.int kd, .int 0, .int 0, .long 0, .int 0, .null, .null, .null, .null, .null, .null]) ((K0.kup (n) q0).kup (n + 1) w0) hni hO (by rw [kad_kup, if_neg (by omega), kad_kup, if_neg (by omega), P0.1.2.2.2 o ho]; exact ha) rfl inX1 tyX1_ok nmX1 (by decide) q_fl_RX1_20 rfl rfl (by omega) (by rw [va_up_ne _ _ (by omega), va_up_ne _ _ (by omega), va_up_ne _ _ (by omega)]; exact he0) (Nat.le_of_ble_eq_true rfl) rfl rfl dX1_init_19 (fun H locs hO => ?_)
  obtain ⟨κ1, C1, hO, P1, hq0_1, hk1, he1⟩ := pstep (i := 0) ho (by omega) rfl P0 hO
  have K1 := hC.same P1.1
  replace he1 : C1 o = .inr (1, [.int kd, .int 0, .int 0, .long 0, .int 0, .ref q0, .null, .null, .null, .null, .null]) := he1
  refine g_aload_n hC hl dX1_init_22 rfl rfl ?_
  refine r_new (ci := 2) (fs := [.null, .int 0]) K1 hO rfl inX2 tyX2_ok q_cl_RX1_15 q_in_RX2 q_ini_RX2 (fun j hj => by rcases (show j = 0 ∨ j = 1 by omega) with rfl | rfl <;> rfl) (Nat.le_of_ble_eq_true rfl) (Nat.le_of_ble_eq_true rfl) dX1_init_23 (fun q1 H hO => ?_)
  refine lv_dup hC.1 hC.2.1 dX1_init_26 rfl ?_
  refine lv_bipush (v := nI 12) hC.1 hC.2.1 dX1_init_27 (by decide) ?_
  refine r_cI (As := [.int (nI 12)]) (K1.kup (n + 1 + 1) q1) hO hl (k_X2_init l _ _ (n + 1 + 1 + 1) (n + 1 + 1) q1 12 (by omega) (by rw [kad_kup, if_pos rfl]) (by rw [va_up_self]) (by omega)) mi_X2_init rfl q_ml_RX1_17 (fun U g mk a h => ⟨h.1.blind g mk a, trivial⟩) (fun U hU _ hK => ⟨hO.wr hU hK, trivial⟩) rfl rfl rfl ⟨Nat.le_of_ble_eq_true rfl, Nat.le_of_ble_eq_true rfl⟩ (Nat.le_of_ble_eq_true rfl) ⟨Nat.le_of_ble_eq_true rfl, Nat.le_of_ble_eq_true rfl⟩ dX1_init_29 (fun w1 t H locs ht _ hB hS => ?_)
  have hO := OR.back (κ2 := kup (kup κ1 (n + 1 + 1) q1) (n + 1 + 1 + 1) w1) hO rfl ht hB hS
  refine r_putF (co := o) (ci := 1) (k := 6) (fs := [.int kd, .int 0, .int 0, .long 0, .int 0, .ref q0, .null, .null, .null, .null, .null]) ((K1.kup (n + 1 + 1) q1).kup (n + 1 + 1 + 1) w1) hni hO (by rw [kad_kup, if_neg (by omega), kad_kup, if_neg (by omega), P1.1.2.2.2 o ho]; exact ha) rfl inX1 tyX1_ok nmX1 (by decide) q_fl_RX1_24 rfl rfl (by omega) (by rw [va_up_ne _ _ (by omega), va_up_ne _ _ (by omega), va_up_ne _ _ (by omega)]; exact he1) (Nat.le_of_ble_eq_true rfl) rfl rfl dX1_init_32 (fun H locs hO => ?_)
  obtain ⟨κ2, C2, hO, P2, hq1_2, hk2, he2⟩ := pstep (i := 1) ho (by omega) rfl P1 hO
  have hq0_2 : kad κ2 (n + 0) = q0 := by rw [← hq0_1]; exact hk2 _ (by omega)
  have K2 := hC.same P2.1
  replace he2 : C2 o = .inr (1, [.int kd, .int 0, .int 0, .long 0, .int 0, .ref q0, .ref q1, .null, .null, .null, .null]) := he2
  refine g_aload_n hC hl dX1_init_35 rfl rfl ?_
  refine r_new (ci := 2) (fs := [.null, .int 0]) K2 hO rfl inX2 tyX2_ok q_cl_RX1_15 q_in_RX2 q_ini_RX2 (fun j hj => by rcases (show j = 0 ∨ j = 1 by omega) with rfl | rfl <;> rfl) (Nat.le_of_ble_eq_true rfl) (Nat.le_of_ble_eq_true rfl) dX1_init_36 (fun q2 H hO => ?_)
  refine lv_dup hC.1 hC.2.1 dX1_init_39 rfl ?_
  refine lv_iconst (v := nI 1) hC.1 hC.2.1 dX1_init_40 (by decide) ?_
  refine r_cI (As := [.int (nI 1)]) (K2.kup (n + 1 + 1 + 1 + 1) q2) hO hl (k_X2_init l _ _ (n + 1 + 1 + 1 + 1 + 1) (n + 1 + 1 + 1 + 1) q2 1 (by omega) (by rw [kad_kup, if_pos rfl]) (by rw [va_up_self]) (by omega)) mi_X2_init rfl q_ml_RX1_17 (fun U g mk a h => ⟨h.1.blind g mk a, trivial⟩) (fun U hU _ hK => ⟨hO.wr hU hK, trivial⟩) rfl rfl rfl ⟨Nat.le_of_ble_eq_true rfl, Nat.le_of_ble_eq_true rfl⟩ (Nat.le_of_ble_eq_true rfl) ⟨Nat.le_of_ble_eq_true rfl, Nat.le_of_ble_eq_true rfl⟩ dX1_init_41 (fun w2 t H locs ht _ hB hS => ?_)
  have hO := OR.back (κ2 := kup (kup κ2 (n + 1 + 1 + 1 + 1) q2) (n + 1 + 1 + 1 + 1 + 1) w2) hO rfl ht hB hS
  refine r_putF (co := o) (ci := 1) (k := 7) (fs := [.int kd, .int 0, .int 0, .long 0, .int 0, .ref q0, .ref q1, .null, .null, .null, .null]) ((K2.kup (n + 1 + 1 + 1 + 1) q2).kup (n + 1 + 1 + 1 + 1 + 1) w2) hni hO (by rw [kad_kup, if_neg (by omega), kad_kup, if_neg (by omega), P2.1.2.2.2 o ho]; exact ha) rfl inX1 tyX1_ok nmX1 (by decide) q_fl_RX1_27 rfl rfl (by omega) (by rw [va_up_ne _ _ (by omega), va_up_ne _ _ (by omega), va_up_ne _ _ (by omega)]; exact he2) (Nat.le_of_ble_eq_true rfl) rfl rfl dX1_init_44 (fun H locs hO => ?_)
  obtain ⟨κ3, C3, hO, P3, hq2_3, hk3, he3⟩ := pstep (i := 2) ho (by omega) rfl P2 hO
  have hq0_3 : kad κ3 (n + 0) = q0 := by rw [← hq0_2]; exact hk3 _ (by omega)
  have hq1_3 : kad κ3 (n + 2) = q1 := by rw [← hq1_2]; exact hk3 _ (by omega)
  have K3 := hC.same P3.1
  replace he3 : C3 o = .inr (1, [.int kd, .int 0, .int 0, .long 0, .int 0, .ref q0, .ref q1, .ref q2, .null, .null, .null]) := he3
  refine g_aload_n hC hl dX1_init_47 rfl rfl ?_
  refine r_new (ci := 2) (fs := [.null, .int 0]) K3 hO rfl inX2 tyX2_ok q_cl_RX1_15 q_in_RX2 q_ini_RX2 (fun j hj => by rcases (show j = 0 ∨ j = 1 by omega) with rfl | rfl <;> rfl) (Nat.le_of_ble_eq_true rfl) (Nat.le_of_ble_eq_true rfl) dX1_init_48 (fun q3 H hO => ?_)
  refine lv_dup hC.1 hC.2.1 dX1_init_51 rfl ?_
  refine lv_bipush (v := nI 6) hC.1 hC.2.1 dX1_init_52 (by decide) ?_
  refine r_cI (As := [.int (nI 6)]) (K3.kup (n + 1 + 1 + 1 + 1 + 1 + 1) q3) hO hl (k_X2_init l _ _ (n + 1 + 1 + 1 + 1 + 1 + 1 + 1) (n + 1 + 1 + 1 + 1 + 1 + 1) q3 6 (by omega) (by rw [kad_kup, if_pos rfl]) (by rw [va_up_self]) (by omega)) mi_X2_init rfl q_ml_RX1_17 (fun U g mk a h => ⟨h.1.blind g mk a, trivial⟩) (fun U hU _ hK => ⟨hO.wr hU hK, trivial⟩) rfl rfl rfl ⟨Nat.le_of_ble_eq_true rfl, Nat.le_of_ble_eq_true rfl⟩ (Nat.le_of_ble_eq_true rfl) ⟨Nat.le_of_ble_eq_true rfl, Nat.le_of_ble_eq_true rfl⟩ dX1_init_54 (fun w3 t H locs ht _ hB hS => ?_)
  have hO := OR.back (κ2 := kup (kup κ3 (n + 1 + 1 + 1 + 1 + 1 + 1) q3) (n + 1 + 1 + 1 + 1 + 1 + 1 + 1) w3) hO rfl ht hB hS
  refine r_putF (co := o) (ci := 1) (k := 8) (fs := [.int kd, .int 0, .int 0, .long 0, .int 0, .ref q0, .ref q1, .ref q2, .null, .null, .null]) ((K3.kup (n + 1 + 1 + 1 + 1 + 1 + 1) q3).kup (n + 1 + 1 + 1 + 1 + 1 + 1 + 1) w3) hni hO (by rw [kad_kup, if_neg (by omega), kad_kup, if_neg (by omega), P3.1.2.2.2 o ho]; exact ha) rfl inX1 tyX1_ok nmX1 (by decide) q_fl_RX1_30 rfl rfl (by omega) (by rw [va_up_ne _ _ (by omega), va_up_ne _ _ (by omega), va_up_ne _ _ (by omega)]; exact he3) (Nat.le_of_ble_eq_true rfl) rfl rfl dX1_init_57 (fun H locs hO => ?_)
  obtain ⟨κ4, C4, hO, P4, hq3_4, hk4, he4⟩ := pstep (i := 3) ho (by omega) rfl P3 hO
  have hq0_4 : kad κ4 (n + 0) = q0 := by rw [← hq0_3]; exact hk4 _ (by omega)
  have hq1_4 : kad κ4 (n + 2) = q1 := by rw [← hq1_3]; exact hk4 _ (by omega)
  have hq2_4 : kad κ4 (n + 4) = q2 := by rw [← hq2_3]; exact hk4 _ (by omega)
  have K4 := hC.same P4.1
  replace he4 : C4 o = .inr (1, [.int kd, .int 0, .int 0, .long 0, .int 0, .ref q0, .ref q1, .ref q2, .ref q3, .null, .null]) := he4
  refine g_aload_n hC hl dX1_init_60 rfl rfl ?_
  refine r_new (ci := 2) (fs := [.null, .int 0]) K4 hO rfl inX2 tyX2_ok q_cl_RX1_15 q_in_RX2 q_ini_RX2 (fun j hj => by rcases (show j = 0 ∨ j = 1 by omega) with rfl | rfl <;> rfl) (Nat.le_of_ble_eq_true rfl) (Nat.le_of_ble_eq_true rfl) dX1_init_61 (fun q4 H hO => ?_)
  refine lv_dup hC.1 hC.2.1 dX1_init_64 rfl ?_
  refine lv_bipush (v := nI 12) hC.1 hC.2.1 dX1_init_65 (by decide) ?_
  refine r_cI (As := [.int (nI 12)]) (K4.kup (n + 1 + 1 + 1 + 1 + 1 + 1 + 1 + 1) q4) hO hl (k_X2_init l _ _ (n + 1 + 1 + 1 + 1 + 1 + 1 + 1 + 1 + 1) (n + 1 + 1 + 1 + 1 + 1 + 1 + 1 + 1) q4 12 (by omega) (by rw [kad_kup, if_pos rfl]) (by rw [va_up_self]) (by omega)) mi_X2_init rfl q_ml_RX1_17 (fun U g mk a h => ⟨h.1.blind g mk a, trivial⟩) (fun U hU _ hK => ⟨hO.wr hU hK, trivial⟩) rfl rfl rfl ⟨Nat.le_of_ble_eq_true rfl, Nat.le_of_ble_eq_true rfl⟩ (Nat.le_of_ble_eq_true rfl) ⟨Nat.le_of_ble_eq_true rfl, Nat.le_of_ble_eq_true rfl⟩ dX1_init_67 (fun w4 t H locs ht _ hB hS => ?_)
  have hO := OR.back (κ2 := kup (kup κ4 (n + 1 + 1 + 1 + 1 + 1 + 1 + 1 + 1) q4) (n + 1 + 1 + 1 + 1 + 1 + 1 + 1 + 1 + 1) w4) hO rfl ht hB hS
  refine r_putF (co := o) (ci := 1) (k := 9) (fs := [.int kd, .int 0, .int 0, .long 0, .int 0, .ref q0, .ref q1, .ref q2, .ref q3, .null, .null]) ((K4.kup (n + 1 + 1 + 1 + 1 + 1 + 1 + 1 + 1) q4).kup (n + 1 + 1 + 1 + 1 + 1 + 1 + 1 + 1 + 1) w4) hni hO (by rw [kad_kup, if_neg (by omega), kad_kup, if_neg (by omega), P4.1.2.2.2 o ho]; exact ha) rfl inX1 tyX1_ok nmX1 (by decide) q_fl_RX1_33 rfl rfl (by omega) (by rw [va_up_ne _ _ (by omega), va_up_ne _ _ (by omega), va_up_ne _ _ (by omega)]; exact he4) (Nat.le_of_ble_eq_true rfl) rfl rfl dX1_init_70 (fun H locs hO => ?_)
  obtain ⟨κ5, C5, hO, P5, hq4_5, hk5, he5⟩ := pstep (i := 4) ho (by omega) rfl P4 hO
  have hq0_5 : kad κ5 (n + 0) = q0 := by rw [← hq0_4]; exact hk5 _ (by omega)
  have hq1_5 : kad κ5 (n + 2) = q1 := by rw [← hq1_4]; exact hk5 _ (by omega)
  have hq2_5 : kad κ5 (n + 4) = q2 := by rw [← hq2_4]; exact hk5 _ (by omega)
  have hq3_5 : kad κ5 (n + 6) = q3 := by rw [← hq3_4]; exact hk5 _ (by omega)
  have K5 := hC.same P5.1
  replace he5 : C5 o = .inr (1, [.int kd, .int 0, .int 0, .long 0, .int 0, .ref q0, .ref q1, .ref q2, .ref q3, .ref q4, .null]) := he5
  refine g_aload_n hC hl dX1_init_73 rfl rfl ?_
  refine r_new (ci := 2) (fs := [.null, .int 0]) K5 hO rfl inX2 tyX2_ok q_cl_RX1_15 q_in_RX2 q_ini_RX2 (fun j hj => by rcases (show j = 0 ∨ j = 1 by omega) with rfl | rfl <;> rfl) (Nat.le_of_ble_eq_true rfl) (Nat.le_of_ble_eq_true rfl) dX1_init_74 (fun q5 H hO => ?_)
  refine lv_dup hC.1 hC.2.1 dX1_init_77 rfl ?_
  refine lv_bipush (v := nI 12) hC.1 hC.2.1 dX1_init_78 (by decide) ?_
  refine r_cI (As := [.int (nI 12)]) (K5.kup (n + 1 + 1 + 1 + 1 + 1 + 1 + 1 + 1 + 1 + 1) q5) hO hl (k_X2_init l _ _ (n + 1 + 1 + 1 + 1 + 1 + 1 + 1 + 1 + 1 + 1 + 1) (n + 1 + 1 + 1 + 1 + 1 + 1 + 1 + 1 + 1 + 1) q5 12 (by omega) (by rw [kad_kup, if_pos rfl]) (by rw [va_up_self]) (by omega)) mi_X2_init rfl q_ml_RX1_17 (fun U g mk a h => ⟨h.1.blind g mk a, trivial⟩) (fun U hU _ hK => ⟨hO.wr hU hK, trivial⟩) rfl rfl rfl ⟨Nat.le_of_ble_eq_true rfl, Nat.le_of_ble_eq_true rfl⟩ (Nat.le_of_ble_eq_true rfl) ⟨Nat.le_of_ble_eq_true rfl, Nat.le_of_ble_eq_true rfl⟩ dX1_init_80 (fun w5 t H locs ht _ hB hS => ?_)
  have hO := OR.back (κ2 := kup (kup κ5 (n + 1 + 1 + 1 + 1 + 1 + 1 + 1 + 1 + 1 + 1) q5) (n + 1 + 1 + 1 + 1 + 1 + 1 + 1 + 1 + 1 + 1 + 1) w5) hO rfl ht hB hS
  refine r_putF (co := o) (ci := 1) (k := 10) (fs := [.int kd, .int 0, .int 0, .long 0, .int 0, .ref q0, .ref q1, .ref q2, .ref q3, .ref q4, .null]) ((K5.kup (n + 1 + 1 + 1 + 1 + 1 + 1 + 1 + 1 + 1 + 1) q5).kup (n + 1 + 1 + 1 + 1 + 1 + 1 + 1 + 1 + 1 + 1 + 1) w5) hni hO (by rw [kad_kup, if_neg (by omega), kad_kup, if_neg (by omega), P5.1.2.2.2 o ho]; exact ha) rfl inX1 tyX1_ok nmX1 (by decide) q_fl_RX1_36 rfl rfl (by omega) (by rw [va_up_ne _ _ (by omega), va_up_ne _ _ (by omega), va_up_ne _ _ (by omega)]; exact he5) (Nat.le_of_ble_eq_true rfl) rfl rfl dX1_init_83 (fun H locs hO => ?_)
  obtain ⟨κ6, C6, hO, P6, hq5_6, hk6, he6⟩ := pstep (i := 5) ho (by omega) rfl P5 hO
  have hq0_6 : kad κ6 (n + 0) = q0 := by rw [← hq0_5]; exact hk6 _ (by omega)
  have hq1_6 : kad κ6 (n + 2) = q1 := by rw [← hq1_5]; exact hk6 _ (by omega)
  have hq2_6 : kad κ6 (n + 4) = q2 := by rw [← hq2_5]; exact hk6 _ (by omega)
  have hq3_6 : kad κ6 (n + 6) = q3 := by rw [← hq3_5]; exact hk6 _ (by omega)
  have hq4_6 : kad κ6 (n + 8) = q4 := by rw [← hq4_5]; exact hk6 _ (by omega)
  have K6 := hC.same P6.1
  replace he6 : C6 o = .inr (1, [.int kd, .int 0, .int 0, .long 0, .int 0, .ref q0, .ref q1, .ref q2, .ref q3, .ref q4, .ref q5]) := he6
  refine W.widen (k := 12) (n := 67) (by omega) (by omega) ?_
  refine r_vret (κ6, C6) hC hO P6.1.1 dX1_init_86 ⟨P6.1, P6.2.1, ?_, P6.2.2⟩ (fun t ht hK => hO.wr ht (by unfold kD kT kcI kcL kcZ kcR; rw [P6.1.2.1, P6.1.2.2.1]; exact hK))
  show C6 o = .inr (1, [.int kd, .int 0, .int 0, .long 0, .int 0, .ref (kad κ6 (n + 0)), .ref (kad κ6 (n + 2)), .ref (kad κ6 (n + 4)), .ref (kad κ6 (n + 6)), .ref (kad κ6 (n + 8)), .ref (kad κ6 (n + 10))])
  rw [he6, show kad κ6 (n + 0) = q0 from hq0_6, show kad κ6 (n + 2) = q1 from hq1_6, show kad κ6 (n + 4) = q2 from hq2_6, show kad κ6 (n + 6) = q3 from hq3_6, show kad κ6 (n + 8) = q4 from hq4_6, show kad κ6 (n + 10) = q5 from hq5_6]
set_option maxHeartbeats 4000000 in
set_option maxRecDepth 100000 in
theorem k_X3_init (l : Launch) (κ : KK) (C : Nat → va_E) (he : C 0 = .inr (3, [.null, .int 0, .null, .null, .null, .long 0])) : Met l yX3_init (wA yX3_init cX3_init 1 none) ({ frames := 2, cells := 5, slots := 2697, locals := 32 }) (va_Pc [.ref (kad κ 0)] (fun U => WR κ C 1 U ∧ va_AO RX1 U)) (va_Qv (fun u : KK × (Nat → va_E) => kSame κ u.1 1 ∧ ∀ c, c < 6 → u.2 c = sh u.1 st0 (fun _ _ => 0) 0 c) (fun u t => WR u.1 u.2 6 t) (FA κ)) 5 2697 (FA κ) := by
  refine r_met 0 (by decide) rfl (Nat.le_of_ble_eq_true rfl) ?_
  intro p e s m args below meth c hC hni hX hO ls hl
  have hl : LL ls 1 [some (.ref (kad κ 0))] := hl
  refine g_aload_n hC hl dX3_init_0 rfl rfl ?_
  refine W.objInit hC.1 hC.2.1 hC.2.2.2.1 (hC.2.2.2.2.1 _ q_ml_RX3_3) (hC.2.2.2.2.1 _ q_im_objectInit) (hC.2.2.2.2.1 _ q_co_objectInit) rfl (by rw [hC.2.2.1]; exact hl.1) rfl dX3_init_1 (Nat.le_of_ble_eq_true rfl) (Nat.le_of_ble_eq_true rfl) ?_
  refine W.eq (g2 := F0 m 4 ls []) rfl ?_
  refine g_aload_n hC hl dX3_init_4 rfl rfl ?_
  refine lv_bipush (v := 60) hC.1 hC.2.1 dX3_init_5 (by decide) ?_
  refine r_newR 60 hC hX hO q_cl_RX3_9 (by decide) (by decide) (by decide) (Nat.le_of_ble_eq_true rfl) (Nat.le_of_ble_eq_true rfl) dX3_init_7 (fun q1 H hO => ?_)
  refine r_putF (co := 0) (ci := 3) (k := 0) (fs := [.null, .int 0, .null, .null, .null, .long 0]) ((hC).kup 1 q1) hni hO rfl rfl inX3 tyX3_ok nmX3 (by decide) q_fl_RX3_11 rfl rfl (by decide) he (Nat.le_of_ble_eq_true rfl) rfl rfl dX3_init_10 (fun H locs hO => ?_)
  refine g_aload_n hC hl dX3_init_13 rfl rfl ?_
  refine lv_sipush (v := 1061) hC.1 hC.2.1 dX3_init_14 (by decide) ?_
  refine r_newI 1061 ((hC).kup 1 q1) hO (by decide) (by decide) (by decide) (Nat.le_of_ble_eq_true rfl) (Nat.le_of_ble_eq_true rfl) dX3_init_17 (fun q2 H hO => ?_)
  refine r_putF (co := 0) (ci := 3) (k := 2) (fs := [.ref q1, .int 0, .null, .null, .null, .long 0]) (((hC).kup 1 q1).kup 2 q2) hni hO rfl rfl inX3 tyX3_ok nmX3 (by decide) q_fl_RX3_15 rfl rfl (by decide) rfl (Nat.le_of_ble_eq_true rfl) rfl rfl dX3_init_19 (fun H locs hO => ?_)
  refine g_aload_n hC hl dX3_init_22 rfl rfl ?_
  refine lv_sipush (v := 1061) hC.1 hC.2.1 dX3_init_23 (by decide) ?_
  refine r_newI 1061 (((hC).kup 1 q1).kup 2 q2) hO (by decide) (by decide) (by decide) (Nat.le_of_ble_eq_true rfl) (Nat.le_of_ble_eq_true rfl) dX3_init_26 (fun q3 H hO => ?_)
  refine r_putF (co := 0) (ci := 3) (k := 3) (fs := [.ref q1, .int 0, .ref q2, .null, .null, .long 0]) ((((hC).kup 1 q1).kup 2 q2).kup 3 q3) hni hO rfl rfl inX3 tyX3_ok nmX3 (by decide) q_fl_RX3_19 rfl rfl (by decide) rfl (Nat.le_of_ble_eq_true rfl) rfl rfl dX3_init_28 (fun H locs hO => ?_)
  refine g_aload_n hC hl dX3_init_31 rfl rfl ?_
  refine r_new (ci := 0) (fs := [.null, .int 0, .int 0]) ((((hC).kup 1 q1).kup 2 q2).kup 3 q3) hO rfl inX0 tyX0_ok q_cl_RX3_22 q_in_RX0 q_ini_RX0 (fun j hj => by rcases (show j = 0 ∨ j = 1 ∨ j = 2 by omega) with rfl | rfl | rfl <;> rfl) (Nat.le_of_ble_eq_true rfl) (Nat.le_of_ble_eq_true rfl) dX3_init_32 (fun q4 H hO => ?_)
  refine lv_dup hC.1 hC.2.1 dX3_init_35 rfl ?_
  refine r_cI (As := []) (((((hC).kup 1 q1).kup 2 q2).kup 3 q3).kup 4 q4) hO hl (k_X0_init l _ _ 5 4 q4 (by omega) rfl rfl) mi_X0_init rfl q_ml_RX3_24 (fun U g mk a h => ⟨h.1.blind g mk a, trivial⟩) (fun U hU _ hK => ⟨hO.wr hU hK, trivial⟩) rfl rfl rfl ⟨Nat.le_of_ble_eq_true rfl, Nat.le_of_ble_eq_true rfl⟩ (Nat.le_of_ble_eq_true rfl) ⟨Nat.le_of_ble_eq_true rfl, Nat.le_of_ble_eq_true rfl⟩ dX3_init_36 (fun q5 t H locs ht _ hB hS => ?_)
  have hO := OR.back (κ2 := kup (kup (kup (kup (kup κ 1 q1) 2 q2) 3 q3) 4 q4) 5 q5) hO rfl ht hB hS
  refine r_putF (co := 0) (ci := 3) (k := 4) (fs := [.ref q1, .int 0, .ref q2, .ref q3, .null, .long 0]) ((((((hC).kup 1 q1).kup 2 q2).kup 3 q3).kup 4 q4).kup 5 q5) hni hO rfl rfl inX3 tyX3_ok nmX3 (by decide) q_fl_RX3_25 rfl rfl (by decide) rfl (Nat.le_of_ble_eq_true rfl) rfl rfl dX3_init_39 (fun H locs hO => ?_)
  exact r_vret (kup (kup (kup (kup (kup κ 1 q1) 2 q2) 3 q3) 4 q4) 5 q5, _) hC hO rfl dX3_init_42 ⟨⟨rfl, rfl, rfl, fun c hc => by rcases (show c = 0 by omega) with rfl; rfl⟩, fun c hc => by rcases (show c = 0 ∨ c = 1 ∨ c = 2 ∨ c = 3 ∨ c = 4 ∨ c = 5 by omega) with rfl | rfl | rfl | rfl | rfl | rfl <;> rfl⟩ (fun t ht hK => hO.wr ht hK)
