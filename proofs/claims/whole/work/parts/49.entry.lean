/-! THE LAW, from its entry -/
set_option maxHeartbeats 4000000 in
set_option maxRecDepth 100000 in
theorem whole_start {p : Program} {e : Env} {s : State} {m : MethodId} {below : List Frame} {meth : Method} {c : Code} (l : Launch) (_hflags : l.flags = flags0) {b L : Nat} {xs : Nat → Int32} (hL : L ≤ 3072) (C0 : lw_At p s m meth c b L xs) : W p l e room_1 s m #[Value.ref b] below meth c s.heap [] 0 0 (lw_Z below #[Value.ref b] s) (entryFrame m ([Value.ref b] : List Value).toArray 4) := by
  obtain ⟨hx, hb, hr, hml, hown, hts, hX, hbl, hlocks, -⟩ := id C0
  have hao : va_AO RX1 s := va_AO.of (hts _ q_ao)
  obtain ⟨cR, hR⟩ := ar_obj (hts _ q_ao)
  have htg : ∀ w ∈ lw_g, w.before #[Value.ref b] s = true := fun w hw => hts w (List.mem_filter.mp hw).1
  obtain ⟨D, hD⟩ := cl_known htg
  obtain ⟨cI, hI⟩ := ar_known (ty := .int) (fun C h => by cases h) (htg _ q_ac_int)
  obtain ⟨cL, hJ⟩ := ar_known (ty := .long) (fun C h => by cases h) (htg _ q_ac_long)
  obtain ⟨cZ, hZ⟩ := ar_known (ty := .boolean) (fun C h => by cases h) (htg _ q_ac_boolean)
  obtain ⟨κ, hκ⟩ : ∃ κ : KK, κ = (s.heap.size, D, (cI, cL, cZ, cR), fun _ => 0) := ⟨_, rfl⟩
  have hkS : kS κ = s.heap.size := by rw [hκ]; rfl
  have hK : va_K (kD κ) vwCl (kT κ) s := by
    rw [hκ]
    refine ⟨hD, fun k q hq => ?_⟩
    match k, hq with
    | 0, hq => cases hq; exact hI
    | 1, hq => cases hq; exact hJ
    | 2, hq => cases hq; exact hZ
    | 3, hq => cases hq; exact hR
    | k + 4, hq => simp [kT] at hq
  have hW : LW p s m meth c b L xs κ := ⟨⟨hx, hb, hml, hown, htg, hK, hlocks, hr⟩, hX, hbl, hkS, hL⟩
  have hC := hW.1
  have hl := lv_entry ([.ref b]) (n := 4) (Nat.le_of_ble_eq_true rfl)
  rw [lg_entry_eq]
  generalize (lg_sl ([.ref b]) ++ List.replicate (4 - (lg_sl ([.ref b])).length) Slot.unset).toArray = ls at hl ⊢
  have hl : LL ls 4 [some (.ref b), none, none, none] := hl
  have hO : OR κ s.heap (fun _ => .inr (0, [])) 0 s.heap [] := ⟨fun k q h => by simp [wz] at h, ⟨fun i j h => absurd h (Nat.not_lt_zero i), fun i h => absurd h (Nat.not_lt_zero i)⟩, va_S.rf, Nat.le_of_eq hkS⟩
  refine r_new (ci := 3) (fs := [.null, .int 0, .null, .null, .null, .long 0]) hC hO rfl inX3 tyX3_ok q_cl_RL_7 q_in_RX3 q_ini_RX3 (fun j hj => by rcases (show j = 0 ∨ j = 1 ∨ j = 2 ∨ j = 3 ∨ j = 4 ∨ j = 5 by omega) with rfl | rfl | rfl | rfl | rfl | rfl <;> rfl) (Nat.le_of_ble_eq_true rfl) (Nat.le_of_ble_eq_true rfl) dL_law_0 (fun q H hO => ?_)
  refine lv_dup hC.1 hC.2.1 dL_law_3 rfl ?_
  have hq : kad (kup κ 0 q) 0 = q := by rw [kad_kup, if_pos rfl]
  have hM := k_X3_init l (kup κ 0 q) (va_up (fun _ => .inr (0, [])) 0 (.inr (3, [.null, .int 0, .null, .null, .null, .long 0]))) (by rw [va_up_self])
  rw [hq] at hM
  refine r_cI (As := []) (hC.kup 0 q) hO hl hM mi_X3_init rfl q_ml_RL_9 (fun U g mk a h => ⟨h.1.blind g mk a, va_AO.moved (u := U) (U := U.calling g mk a) (Vm.Alike.refl U.vm) h.2⟩) (fun U hU hW2 hK2 => ⟨hO.wr hU hK2, va_AO.moved hW2.alike hao⟩) rfl rfl rfl ⟨Nat.le_of_ble_eq_true rfl, Nat.le_of_ble_eq_true rfl⟩ (Nat.le_of_ble_eq_true rfl) ⟨Nat.le_of_ble_eq_true rfl, Nat.le_of_ble_eq_true rfl⟩ dL_law_4 (fun u t H locs ht hp hB hS => ?_)
  obtain ⟨κ2, C2⟩ := u
  obtain ⟨hs2, hlo⟩ := hp
  have hs2 : kSame (kup κ 0 q) κ2 1 := hs2
  have hlo : ∀ c, c < 6 → C2 c = sh κ2 st0 (fun _ _ => 0) 0 c := hlo
  have hO := OR.back (κ2 := κ2) hO hs2.1 ht hB hS
  have hs02 : kSame κ κ2 0 := (kSame_kup κ 0 q).trans hs2 (by omega)
  have hW2 := hW.same hs02
  have hC2 := hW2.1
  have hq2 : kad κ2 0 = q := by rw [hs2.2.2.2 0 (by omega), hq]
  refine g_astore_n hC2 hl dL_law_7 rfl (Nat.le_of_ble_eq_true rfl) rfl (fun ls hl => ?_)
  have hl : LL ls 4 [some (.ref b), some (.ref q), none, none] := hl
  refine r_new (ci := 4) (fs := [.int 0, .null, .null, .null, .int 0, .int 0, .null, .null, .null, .null, .null, .null, .null, .null, .null, .null, .null, .null, .null, .long 0, .long 0, .int 0, .null]) hC2 hO rfl inX4 tyX4_ok q_cl_RL_10 q_in_RX4 q_ini_RX4 (fun j hj => by rcases (show j = 0 ∨ j = 1 ∨ j = 2 ∨ j = 3 ∨ j = 4 ∨ j = 5 ∨ j = 6 ∨ j = 7 ∨ j = 8 ∨ j = 9 ∨ j = 10 ∨ j = 11 ∨ j = 12 ∨ j = 13 ∨ j = 14 ∨ j = 15 ∨ j = 16 ∨ j = 17 ∨ j = 18 ∨ j = 19 ∨ j = 20 ∨ j = 21 ∨ j = 22 by omega) with rfl | rfl | rfl | rfl | rfl | rfl | rfl | rfl | rfl | rfl | rfl | rfl | rfl | rfl | rfl | rfl | rfl | rfl | rfl | rfl | rfl | rfl | rfl <;> rfl) (Nat.le_of_ble_eq_true rfl) (Nat.le_of_ble_eq_true rfl) dL_law_8 (fun q6 H hO => ?_)
  refine lv_dup hC2.1 hC2.2.1 dL_law_11 rfl ?_
  have hq6 : kad (kup κ2 6 q6) 6 = q6 := by rw [kad_kup, if_pos rfl]
  obtain ⟨C3, hC3⟩ : ∃ C3, C3 = va_up C2 6 (.inr (4, [.int 0, .null, .null, .null, .int 0, .int 0, .null, .null, .null, .null, .null, .null, .null, .null, .null, .null, .null, .null, .null, .long 0, .long 0, .int 0, .null])) := ⟨_, rfl⟩
  rw [← hC3] at hO
  have hM := k_X4_init l (kup κ2 6 q6) C3 (by rw [hC3, va_up_self])
  rw [hq6] at hM
  refine r_cI (As := []) (hC2.kup 6 q6) hO hl hM mi_X4_init rfl q_ml_RL_12 (fun U g mk a h => ⟨h.1.blind g mk a, trivial⟩) (fun U hU _ hK2 => ⟨hO.wr hU hK2, trivial⟩) rfl rfl rfl ⟨Nat.le_of_ble_eq_true rfl, Nat.le_of_ble_eq_true rfl⟩ (Nat.le_of_ble_eq_true rfl) ⟨Nat.le_of_ble_eq_true rfl, Nat.le_of_ble_eq_true rfl⟩ dL_law_12 (fun u t H locs ht hp hB hS => ?_)
  obtain ⟨κ3, C4⟩ := u
  obtain ⟨hs3, hlo3, hhi3⟩ := hp
  have hs3 : kSame (kup κ2 6 q6) κ3 7 := hs3
  have hlo3 : ∀ c, c < 6 → C4 c = C3 c := hlo3
  have hhi3 : ∀ c, c < 24 → 6 ≤ c → C4 c = sh κ3 st0 (fun _ _ => 0) 0 c := hhi3
  have hs23 : kSame κ2 κ3 6 := (kSame_kup κ2 6 q6).trans hs3 (by omega)
  have hW3 := hW2.same hs23
  have hC3' := hW3.1
  have hB : WR κ3 C4 24 t := hB
  have hWX := start_wx (κ := κ2) (κ2 := κ3) (C2 := C4) hs23 (fun c hc => by rw [hlo3 c hc, hC3, va_up_ne _ _ (by omega), hlo c hc]) hhi3 hB
  obtain ⟨-, ⟨F, th, w1, w2⟩, w3, -⟩ := hWX
  have hOS : OS κ3 s.heap st0 F th H locs := by
    refine ⟨w1, by rw [← ht]; exact w2, w3, ?_, Nat.le_of_eq hW3.2.2.2.1⟩
    have hS2 := hS
    unfold FA at hS2 ⊢
    rw [show kS κ3 = kS (kup κ2 6 q6) from hs3.1]
    exact hS2
  have e0 : kad κ3 0 = q := by rw [hs23.2.2.2 0 (by omega), hq2]
  have e6 : kad κ3 6 = q6 := by rw [hs3.2.2.2 6 (by omega), hq6]
  refine g_astore_n hC3' hl dL_law_15 rfl (Nat.le_of_ble_eq_true rfl) rfl (fun ls hl => ?_)
  have hl : LL ls 4 [some (.ref b), some (.ref q), some (.ref q6), none] := hl
  refine lv_iconst (v := 0) hC3'.1 hC3'.2.1 dL_law_16 (by decide) ?_
  refine g_istore_n hC3' hl dL_law_17 rfl (Nat.le_of_ble_eq_true rfl) rfl (fun ls hl => ?_)
  have hl : LL ls 4 (LV b (kad κ3 0) (kad κ3 6) 0) := by rw [e0, e6]; exact hl
  exact W.widen (k := 24 + 13 * 0) (n := 10969 + 78 * 0) (Nat.le_of_ble_eq_true rfl) (Nat.le_of_ble_eq_true rfl) (law_loop 513 0 κ3 st0 F th H locs ls (by omega) (by omega) hW3 hl hOS inv0 fr0)
