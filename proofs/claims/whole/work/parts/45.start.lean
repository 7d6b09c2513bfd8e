/-! the world at the start of the loop -/
theorem sh_low {κ κ2 : KK} (h : kSame κ κ2 6) {c : Nat} (hc : c < 6) : sh κ2 st0 (fun _ _ => 0) 0 c = sh κ st0 (fun _ _ => 0) 0 c := by
  have k1 := h.2.2.2 1 (by decide)
  have k2 := h.2.2.2 2 (by decide)
  have k3 := h.2.2.2 3 (by decide)
  have k4 := h.2.2.2 4 (by decide)
  have k5 := h.2.2.2 5 (by decide)
  have e0 : st0.1 = 0 := rfl
  unfold sh
  rw [e0]
  rcases (show c = 0 ∨ c = 1 ∨ c = 2 ∨ c = 3 ∨ c = 4 ∨ c = 5 by omega) with rfl | rfl | rfl | rfl | rfl | rfl <;> simp [shc, kcI_same h, kcL_same h, kcR_same h, k1, k2, k3, k4, k5]
theorem start_wx {κ κ2 : KK} {C2 : Nat → va_E} {U : State} (hs : kSame κ κ2 6) (h1 : ∀ c, c < 6 → C2 c = sh κ st0 (fun _ _ => 0) 0 c) (h2 : ∀ c, c < 24 → 6 ≤ c → C2 c = sh κ2 st0 (fun _ _ => 0) 0 c) (hW : WR κ2 C2 24 U) : WX κ2 st0 U := by
  obtain ⟨w1, w2, w3, w4⟩ := hW
  refine ⟨w1, ⟨fun _ _ => 0, 0, ⟨Nat.zero_le _, fun k j hk => absurd hk (Nat.not_lt_zero k)⟩, ?_⟩, w3, w4⟩
  rw [wz_congr (ad := kad κ2) (C := C2) (C2 := sh κ2 st0 (fun _ _ => 0) 0) (n := 24) (fun c hc => ?_)] at w2
  · exact w2
  · by_cases c6 : c < 6
    · rw [h1 c c6, sh_low hs c6]
    · exact h2 c hc (by omega)
