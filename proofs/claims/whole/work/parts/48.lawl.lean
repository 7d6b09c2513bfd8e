/-! the law's loop -/
section LOOPL
variable {p : Program} {l : Launch} {e : Env} {s : State} {m : MethodId} {b : Nat} {below : List Frame} {meth : Method} {c : Code}
variable {L : Nat} {xs : Nat → Int32}
set_option maxHeartbeats 4000000 in
set_option maxRecDepth 100000 in
theorem law_turn {H : Heap} {locs : List Loc} {cells slots : Nat} {Q : State → Prop} {κ : KK} {j : Nat} {ls : Array Slot} {σ : ST} {F : Nat → Nat → Int32} {th : Int32} (hW : LW p s m meth c b L xs κ) (hj : 6 * j + 6 ≤ L) (hl : LL ls 4 (LV b (kad κ 0) (kad κ 6) j)) (hO : OS κ s.heap σ F th H locs) (hI : Inv j σ) (hF : IFr σ) (hf : cells + 13 ≤ 600000 ∧ slots + 78 ≤ 7302250) (kk : LK p l e s m b below meth c Q L xs κ j cells slots ls) : W p l e room_1 s m #[Value.ref b] below meth c H locs cells slots Q (F0 m 27 ls []) := by
  have hC := hW.1
  refine law_l0 hW hO.2.2.2.1 hl hj dL_law_27 dL_law_28 dL_law_29 ?_
  refine lv_bipush (v := 15) hC.1 hC.2.1 dL_law_30 (by decide) ?_
  refine lv_iand hC.1 hC.2.1 dL_law_32 ?_
  obtain ⟨k, hk, ek⟩ := la_and15 (xs (6 * j))
  rw [ek]
  have hn : W p l e room_1 s m #[Value.ref b] below meth c H locs cells slots Q (F0 m 639 ls []) := by
    refine W.widen (k := cells + 13) (n := slots + 78) (by omega) (by omega) ?_
    exact kk κ _ _ _ _ _ hW rfl rfl hO (hI.mono (Nat.le_succ j)) hF
  rcases (show k = 0 ∨ k = 1 ∨ k = 2 ∨ k = 3 ∨ k = 4 ∨ k = 5 ∨ k = 6 ∨ k = 7 ∨ k = 8 ∨ k = 9 ∨ k = 10 ∨ k = 11 ∨ k = 12 ∨ k = 13 ∨ k = 14 ∨ k = 15 by omega) with rfl | rfl | rfl | rfl | rfl | rfl | rfl | rfl | rfl | rfl | rfl | rfl | rfl | rfl | rfl | rfl
  · exact lv_tableIn (tgt := 100) hC.1 hC.2.1 dL_law_33 (by decide) (by decide) (off := 67) (by decide) (by decide) (arm_bag hW hj hl hO hI hF hf kk)
  · exact lv_tableIn (tgt := 123) hC.1 hC.2.1 dL_law_33 (by decide) (by decide) (off := 90) (by decide) (by decide) (arm_into hW hj hl hO hI hF hf kk)
  · exact lv_tableIn (tgt := 156) hC.1 hC.2.1 dL_law_33 (by decide) (by decide) (off := 123) (by decide) (by decide) (arm_take hW hj hl hO hI hF hf kk)
  · exact lv_tableIn (tgt := 179) hC.1 hC.2.1 dL_law_33 (by decide) (by decide) (off := 146) (by decide) (by decide) (arm_close hW hj hl hO hI hF hf kk)
  · exact lv_tableIn (tgt := 252) hC.1 hC.2.1 dL_law_33 (by decide) (by decide) (off := 219) (by decide) (by decide) (arm_open hW hj hl hO hI hF hf kk)
  · exact lv_tableIn (tgt := 335) hC.1 hC.2.1 dL_law_33 (by decide) (by decide) (off := 302) (by decide) (by decide) (arm_found hW hj hl hO hI hF hf kk)
  · exact lv_tableIn (tgt := 368) hC.1 hC.2.1 dL_law_33 (by decide) (by decide) (off := 335) (by decide) (by decide) (arm_differ hW hj hl hO hI hF hf kk)
  · exact lv_tableIn (tgt := 411) hC.1 hC.2.1 dL_law_33 (by decide) (by decide) (off := 378) (by decide) (by decide) (arm_inside hW hj hl hO hI hF hf kk)
  · exact lv_tableIn (tgt := 434) hC.1 hC.2.1 dL_law_33 (by decide) (by decide) (off := 401) (by decide) (by decide) (arm_weight hW hj hl hO hI hF hf kk)
  · exact lv_tableIn (tgt := 497) hC.1 hC.2.1 dL_law_33 (by decide) (by decide) (off := 464) (by decide) (by decide) (arm_document hW hj hl hO hI hF hf kk)
  · exact lv_tableIn (tgt := 530) hC.1 hC.2.1 dL_law_33 (by decide) (by decide) (off := 497) (by decide) (by decide) (arm_move hW hj hl hO hI hF hf kk)
  · exact lv_tableIn (tgt := 563) hC.1 hC.2.1 dL_law_33 (by decide) (by decide) (off := 530) (by decide) (by decide) (arm_place hW hj hl hO hI hF hf kk)
  · exact lv_tableIn (tgt := 586) hC.1 hC.2.1 dL_law_33 (by decide) (by decide) (off := 553) (by decide) (by decide) (arm_tick hW hj hl hO hI hF hf kk)
  · exact lv_tableOut (tgt := 639) hC.1 hC.2.1 dL_law_33 (by decide) (by decide) hn
  · exact lv_tableOut (tgt := 639) hC.1 hC.2.1 dL_law_33 (by decide) (by decide) hn
  · exact lv_tableOut (tgt := 639) hC.1 hC.2.1 dL_law_33 (by decide) (by decide) hn
set_option maxHeartbeats 4000000 in
set_option maxRecDepth 100000 in
theorem law_loop : ∀ (n j : Nat) (κ : KK) (σ : ST) (F : Nat → Nat → Int32) (th : Int32) (H : Heap) (locs : List Loc) (ls : Array Slot), 513 ≤ j + n → 6 * j ≤ L → LW p s m meth c b L xs κ → LL ls 4 (LV b (kad κ 0) (kad κ 6) j) → OS κ s.heap σ F th H locs → Inv j σ → IFr σ → W p l e room_1 s m #[Value.ref b] below meth c H locs (24 + 13 * j) (10969 + 78 * j) (lw_Z below #[Value.ref b] s) (F0 m 18 ls []) := by
  intro n
  induction n with
  | zero =>
    intro j κ σ F th H locs ls hn hj hW
    have := hW.2.2.2.2
    omega
  | succ n ih =>
    intro j κ σ F th H locs ls hn hj hW hl hO hI hF
    have hC := hW.1
    have hL := hW.2.2.2.2
    refine g_iload_n hC hl dL_law_18 rfl rfl ?_
    refine g_aload_n hC hl dL_law_19 rfl rfl ?_
    refine va_slen hC.1 hC.2.1 hW.2.1 hW.2.2.1 hW.nb hO.2.2.2.1 dL_law_20 ?_
    refine lv_bipush (v := 6) hC.1 hC.2.1 dL_law_21 (by decide) ?_
    refine lv_isub hC.1 hC.2.1 dL_law_23 ?_
    refine lv_icmp_gt (tgt := 645) hC.1 hC.2.1 dL_law_24 (by decide) (fun hgt => ?_) (fun hgt => ?_)
    · refine lv_iconst (v := 1) hC.1 hC.2.1 dL_law_645 (by decide) ?_
      refine va_forget (fun q hq => ?_) ?_
      · have h9 : kS κ ≤ q.base := hO.2.2.2.1.2.2 q hq
        rw [hW.2.2.2.1] at h9
        exact h9
      · refine W.widen (k := 600000) (n := 7302250) (by omega) (by omega) ?_
        exact lw_ret hC.1 hC.2.1 hC.2.2.2.2.2.2.2 hC.2.2.2.2.2.2.1 dL_law_646
    · have hj6 : 6 * j + 6 ≤ L := Nat.not_lt.mp (fun q => hgt ((la_gt hL (by omega)).mpr q))
      refine law_turn hW hj6 hl hO hI hF ⟨by omega, by omega⟩ ?_
      intro κ2 σ2 F2 th2 H2 locs2 hW2 e0 e6 hO2 hI2 hF2
      have hC2 := hW2.1
      have hl2 : LL ls 4 (LV b (kad κ2 0) (kad κ2 6) j) := by rw [e0, e6]; exact hl
      refine g_iinc (v := nI (6 * (j + 1))) hC2 hl2 dL_law_639 rfl (by rw [show Int32.ofInt 6 = nI 6 from rfl, nI_add]; exact congrArg nI (by omega)) (by decide) rfl (fun ls3 hl3 => ?_)
      have hl3 : LL ls3 4 (LV b (kad κ2 0) (kad κ2 6) (j + 1)) := hl3
      refine lv_goto (tgt := 18) hC2.1 hC2.2.1 dL_law_642 (by decide) ?_
      exact ih (j + 1) κ2 σ2 F2 th2 H2 locs2 ls3 (by omega) (by omega) hW2 hl3 hO2 hI2 hF2
end LOOPL
