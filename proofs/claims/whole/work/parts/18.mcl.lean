set_option maxHeartbeats 4000000 in
set_option maxRecDepth 100000 in
/-- BagRowsModel.close -/
theorem c_X4_close (l : Launch) (κ : KK) (σ : ST) (hM : MB σ) (l2 : List Int32) (p0 : Int32) (p1 : Int64) (p2 : Int32) (hrow : ∀ k, recOf σ p0 = some k → RowM σ (nI (1001 + k)) l2) : Met l yX4_close (wA yX4_close cX4_close 12 (some .int)) ({ frames := 2, cells := 0, slots := 0, locals := 44 }) (va_Pc [.ref (kad κ 6), .int p0, .long p1, .int p2] (WX κ σ)) (va_Qi (fun r σ' => (r, σ') = mClose σ l2 p0 p1 p2) (WX κ) (FA κ)) 0 0 (FA κ) := by
  refine g_met 7 (by decide) rfl (Nat.le_of_ble_eq_true rfl) ?_
  intro p e s m args below meth c hC F th hO ls hl
  have hl : LL ls 12 [some _, some _, some _, none, some _, none, none, none, none, none, none, none] := hl
  have h60 := hM.2.1
  have loop134 : ∀ (k : Nat), k < 60 → ∀ (S : ST), (∀ t, sI S 7 t = sI σ 7 t) → (∀ t, sI S 8 t = sI σ 8 t) → ∀ (v6 a v8 : Int32), (∀ (F : Nat → Nat → Int32) (th : Int32) (H : Heap) (locs : List Loc), OS κ s.heap S F th H locs → ∀ ls : Array Slot, LL ls 12 [some (.ref (kad κ 6)), some (.int (nI (1001 + k))), some (.long p1), none, some (.int p2), some (.int (nI k)), some (.int v6), some (.int a), some (.int v8), some (.int (nxF σ (nI (1001 + k)) a 1061)), none, none] → W p l e ({ frames := 2, cells := 0, slots := 0, locals := 44 } : Room) s m args below meth c H locs 0 0 (MQ below (va_Qi (fun r σ' => (r, σ') = mClose σ l2 p0 p1 p2) (WX κ) (FA κ)) args s 0 0 (FA κ)) (F0 m 214 ls [])) → ∀ (n2 i : Nat), 1062 ≤ i + n2 → i ≤ 1061 → 1 ≤ i → ∀ (F : Nat → Nat → Int32) (th : Int32) (H : Heap) (locs : List Loc), OS κ s.heap S F th H locs → ∀ ls : Array Slot, LL ls 12 [some (.ref (kad κ 6)), some (.int (nI (1001 + k))), some (.long p1), none, some (.int p2), some (.int (nI k)), some (.int v6), some (.int a), some (.int v8), some (.int (nxF σ (nI (1001 + k)) a i)), some (.int (nI i)), none] → W p l e ({ frames := 2, cells := 0, slots := 0, locals := 44 } : Room) s m args below meth c H locs 0 0 (MQ below (va_Qi (fun r σ' => (r, σ') = mClose σ l2 p0 p1 p2) (WX κ) (FA κ)) args s 0 0 (FA κ)) (F0 m 134 ls []) := by
    intro k hk S h7 h8 v6 a v8 K n2
    induction n2 with
    | zero => intro i h1 h2; exact absurd h1 (by omega)
    | succ n2 ih =>
      intro i h1 h2 h3 F th H locs hO ls hl
      refine g_iload hC hl dX4_close_134 rfl ?_
      refine lv_sipush (v := 1061) hC.1 hC.2.1 dX4_close_136 (by decide) ?_
      refine lv_icmp_ge (tgt := 214) hC.1 hC.2.1 dX4_close_139 (by decide) (fun c_1 => ?_) (fun c_1 => ?_)
      · skip
        rw [show (1061 : Int32) = nI 1061 from rfl, nI_leI (by omega) (by omega)] at c_1
        have ei : i = 1061 := by omega
        subst ei
        exact K _ _ _ _ hO ls (LL.drop hl 10)
      · skip
        rw [show (1061 : Int32) = nI 1061 from rfl, nI_leI (by omega) (by omega)] at c_1
        refine g_aload_n hC hl dX4_close_142 rfl rfl ?_
        refine g_get (ci := 4) (k := 1) hC hO rfl inX4 (by decide) q_fl_RX4_7 (nn_lt (Nat.le_of_ble_eq_true rfl)) rfl rfl dX4_close_143 ?_
        refine g_iload hC hl dX4_close_146 rfl ?_
        refine g_iald hC hO (nn_lt (Nat.le_of_ble_eq_true rfl)) rfl (vp_in_nI (by omega) (by omega)) dX4_close_148 ?_
        refine g_iload_n hC hl dX4_close_149 rfl rfl ?_
        refine lv_icmp_ne (tgt := 169) hC.1 hC.2.1 dX4_close_150 (by decide) (fun c_2 => ?_) (fun c_2 => ?_)
        · skip
          rw [nI_clamp (n := i) (by omega), h7] at c_2
          have hw : nxF σ (nI (1001 + k)) a (i + 1) = nxF σ (nI (1001 + k)) a i := by rw [nxF, if_neg (fun q => c_2 q.2.1)]
          refine lv_iconst (v := 0) hC.1 hC.2.1 dX4_close_169 (by decide) ?_
          refine g_istore hC hl dX4_close_170 (Nat.le_of_ble_eq_true rfl) rfl (fun ls hl => ?_)
          have hl : LL ls 12 [some _, some _, some _, none, some _, some _, some _, some _, some _, some _, some _, some _] := hl
          refine g_iload hC hl dX4_close_172 rfl ?_
          refine lv_if_eq (tgt := 204) hC.1 hC.2.1 dX4_close_174 (by decide) (fun c_3 => ?_) (fun c_3 => ?_)
          · skip
            refine g_iload hC hl dX4_close_204 rfl ?_
            refine g_istore hC hl dX4_close_206 (Nat.le_of_ble_eq_true rfl) rfl (fun ls hl => ?_)
            have hl : LL ls 12 [some _, some _, some _, none, some _, some _, some _, some _, some _, some _, some _, some _] := hl
            refine g_iinc (v := nI (i + 1)) hC hl dX4_close_208 rfl (nI_i1 i) (Nat.le_of_ble_eq_true rfl) rfl (fun ls hl => ?_)
            have hl : LL ls 12 [some _, some _, some _, none, some _, some _, some _, some _, some _, some _, some _, some _] := hl
            refine lv_goto (tgt := 134) hC.1 hC.2.1 dX4_close_211 (by decide) ?_
            have hl := LL.drop hl 11
            exact ih (i + 1) (by omega) (by omega) (by omega) _ _ _ _ hO ls (by rw [hw]; exact hl)
          · skip
            exact absurd c_3 (by decide)
        · skip
          rw [nI_clamp (n := i) (by omega), h7] at c_2
          have h150 := c_2
          refine g_aload_n hC hl dX4_close_153 rfl rfl ?_
          refine g_get (ci := 4) (k := 2) hC hO rfl inX4 (by decide) q_fl_RX4_13 (nn_lt (Nat.le_of_ble_eq_true rfl)) rfl rfl dX4_close_154 ?_
          refine g_iload hC hl dX4_close_157 rfl ?_
          refine g_iald hC hO (nn_lt (Nat.le_of_ble_eq_true rfl)) rfl (vp_in_nI (by omega) (by omega)) dX4_close_159 ?_
          refine g_iload hC hl dX4_close_160 rfl ?_
          refine lv_icmp_le (tgt := 169) hC.1 hC.2.1 dX4_close_162 (by decide) (fun c_4 => ?_) (fun c_4 => ?_)
          · skip
            rw [nI_clamp (n := i) (by omega), h8] at c_4
            have hw : nxF σ (nI (1001 + k)) a (i + 1) = nxF σ (nI (1001 + k)) a i := by rw [nxF, if_neg (fun q => absurd q.2.2.1 (Int32.not_lt.mpr c_4))]
            refine lv_iconst (v := 0) hC.1 hC.2.1 dX4_close_169 (by decide) ?_
            refine g_istore hC hl dX4_close_170 (Nat.le_of_ble_eq_true rfl) rfl (fun ls hl => ?_)
            have hl : LL ls 12 [some _, some _, some _, none, some _, some _, some _, some _, some _, some _, some _, some _] := hl
            refine g_iload hC hl dX4_close_172 rfl ?_
            refine lv_if_eq (tgt := 204) hC.1 hC.2.1 dX4_close_174 (by decide) (fun c_5 => ?_) (fun c_5 => ?_)
            · skip
              refine g_iload hC hl dX4_close_204 rfl ?_
              refine g_istore hC hl dX4_close_206 (Nat.le_of_ble_eq_true rfl) rfl (fun ls hl => ?_)
              have hl : LL ls 12 [some _, some _, some _, none, some _, some _, some _, some _, some _, some _, some _, some _] := hl
              refine g_iinc (v := nI (i + 1)) hC hl dX4_close_208 rfl (nI_i1 i) (Nat.le_of_ble_eq_true rfl) rfl (fun ls hl => ?_)
              have hl : LL ls 12 [some _, some _, some _, none, some _, some _, some _, some _, some _, some _, some _, some _] := hl
              refine lv_goto (tgt := 134) hC.1 hC.2.1 dX4_close_211 (by decide) ?_
              have hl := LL.drop hl 11
              exact ih (i + 1) (by omega) (by omega) (by omega) _ _ _ _ hO ls (by rw [hw]; exact hl)
            · skip
              exact absurd c_5 (by decide)
          · skip
            rw [nI_clamp (n := i) (by omega), h8] at c_4
            have h162 : a < sI σ 8 i := Int32.not_le.mp c_4
            refine lv_iconst (v := 1) hC.1 hC.2.1 dX4_close_165 (by decide) ?_
            refine lv_goto (tgt := 170) hC.1 hC.2.1 dX4_close_166 (by decide) ?_
            refine g_istore hC hl dX4_close_170 (Nat.le_of_ble_eq_true rfl) rfl (fun ls hl => ?_)
            have hl : LL ls 12 [some _, some _, some _, none, some _, some _, some _, some _, some _, some _, some _, some _] := hl
            refine g_iload hC hl dX4_close_172 rfl ?_
            refine lv_if_eq (tgt := 204) hC.1 hC.2.1 dX4_close_174 (by decide) (fun c_6 => ?_) (fun c_6 => ?_)
            · skip
              exact absurd c_6 (by decide)
            · skip
              refine g_iload hC hl dX4_close_177 rfl ?_
              refine lv_if_eq (tgt := 199) hC.1 hC.2.1 dX4_close_179 (by decide) (fun c_7 => ?_) (fun c_7 => ?_)
              · skip
                have hw : nxF σ (nI (1001 + k)) a (i + 1) = nI i := by rw [nxF, if_pos ⟨h3, h150, h162, Or.inl c_7⟩]
                refine g_iload hC hl dX4_close_199 rfl ?_
                refine lv_goto (tgt := 206) hC.1 hC.2.1 dX4_close_201 (by decide) ?_
                refine g_istore hC hl dX4_close_206 (Nat.le_of_ble_eq_true rfl) rfl (fun ls hl => ?_)
                have hl : LL ls 12 [some _, some _, some _, none, some _, some _, some _, some _, some _, some _, some _, some _] := hl
                refine g_iinc (v := nI (i + 1)) hC hl dX4_close_208 rfl (nI_i1 i) (Nat.le_of_ble_eq_true rfl) rfl (fun ls hl => ?_)
                have hl : LL ls 12 [some _, some _, some _, none, some _, some _, some _, some _, some _, some _, some _, some _] := hl
                refine lv_goto (tgt := 134) hC.1 hC.2.1 dX4_close_211 (by decide) ?_
                have hl := LL.drop hl 11
                exact ih (i + 1) (by omega) (by omega) (by omega) _ _ _ _ hO ls (by rw [hw]; exact hl)
              · skip
                have h179 := c_7
                obtain ⟨j9, hj9, ej9⟩ := (nxF_in σ (nI (1001 + k)) a i).resolve_left c_7
                refine g_aload_n hC hl dX4_close_182 rfl rfl ?_
                refine g_get (ci := 4) (k := 2) hC hO rfl inX4 (by decide) q_fl_RX4_13 (nn_lt (Nat.le_of_ble_eq_true rfl)) rfl rfl dX4_close_183 ?_
                refine g_iload hC hl dX4_close_186 rfl ?_
                refine g_iald hC hO (nn_lt (Nat.le_of_ble_eq_true rfl)) rfl (vp_in_nI (by omega) (by omega)) dX4_close_188 ?_
                refine g_aload_n hC hl dX4_close_189 rfl rfl ?_
                refine g_get (ci := 4) (k := 2) hC hO rfl inX4 (by decide) q_fl_RX4_13 (nn_lt (Nat.le_of_ble_eq_true rfl)) rfl rfl dX4_close_190 ?_
                refine g_iload hC hl dX4_close_193 rfl ?_
                refine g_iald hC hO (nn_lt (Nat.le_of_ble_eq_true rfl)) rfl (by rw [ej9]; exact vp_in_nI (by omega) (by omega)) dX4_close_195 ?_
                refine lv_icmp_ge (tgt := 204) hC.1 hC.2.1 dX4_close_196 (by decide) (fun c_8 => ?_) (fun c_8 => ?_)
                · skip
                  rw [nI_clamp (n := i) (by omega), h8, h8] at c_8
                  have hw : nxF σ (nI (1001 + k)) a (i + 1) = nxF σ (nI (1001 + k)) a i := by rw [nxF, if_neg (fun q => q.2.2.2.elim h179 (fun z => absurd z (Int32.not_lt.mpr c_8)))]
                  refine g_iload hC hl dX4_close_204 rfl ?_
                  refine g_istore hC hl dX4_close_206 (Nat.le_of_ble_eq_true rfl) rfl (fun ls hl => ?_)
                  have hl : LL ls 12 [some _, some _, some _, none, some _, some _, some _, some _, some _, some _, some _, some _] := hl
                  refine g_iinc (v := nI (i + 1)) hC hl dX4_close_208 rfl (nI_i1 i) (Nat.le_of_ble_eq_true rfl) rfl (fun ls hl => ?_)
                  have hl : LL ls 12 [some _, some _, some _, none, some _, some _, some _, some _, some _, some _, some _, some _] := hl
                  refine lv_goto (tgt := 134) hC.1 hC.2.1 dX4_close_211 (by decide) ?_
                  have hl := LL.drop hl 11
                  exact ih (i + 1) (by omega) (by omega) (by omega) _ _ _ _ hO ls (by rw [hw]; exact hl)
                · skip
                  rw [nI_clamp (n := i) (by omega), h8, h8] at c_8
                  have hw : nxF σ (nI (1001 + k)) a (i + 1) = nI i := by rw [nxF, if_pos ⟨h3, h150, h162, Or.inr (Int32.not_le.mp c_8)⟩]
                  refine g_iload hC hl dX4_close_199 rfl ?_
                  refine lv_goto (tgt := 206) hC.1 hC.2.1 dX4_close_201 (by decide) ?_
                  refine g_istore hC hl dX4_close_206 (Nat.le_of_ble_eq_true rfl) rfl (fun ls hl => ?_)
                  have hl : LL ls 12 [some _, some _, some _, none, some _, some _, some _, some _, some _, some _, some _, some _] := hl
                  refine g_iinc (v := nI (i + 1)) hC hl dX4_close_208 rfl (nI_i1 i) (Nat.le_of_ble_eq_true rfl) rfl (fun ls hl => ?_)
                  have hl : LL ls 12 [some _, some _, some _, none, some _, some _, some _, some _, some _, some _, some _, some _] := hl
                  refine lv_goto (tgt := 134) hC.1 hC.2.1 dX4_close_211 (by decide) ?_
                  have hl := LL.drop hl 11
                  exact ih (i + 1) (by omega) (by omega) (by omega) _ _ _ _ hO ls (by rw [hw]; exact hl)
  have loop123 : ∀ (k : Nat), k < 60 → ∀ (l9 : List Int32), RowM σ (nI (1001 + k)) l9 → (∀ (F : Nat → Nat → Int32) (th : Int32) (H : Heap) (locs : List Loc), OS κ s.heap (upA (mShut σ k p1 p2) 17 (lstP σ k l9)) F th H locs → ∀ ls : Array Slot, LL ls 12 [some (.ref (kad κ 6)), some (.int (nI (1001 + k))), some (.long p1), none, some (.int p2), some (.int (nI k)), some (.int (nI l9.length)), none, none, none, none, none] → W p l e ({ frames := 2, cells := 0, slots := 0, locals := 44 } : Room) s m args below meth c H locs 0 0 (MQ below (va_Qi (fun r σ' => (r, σ') = mClose σ l2 p0 p1 p2) (WX κ) (FA κ)) args s 0 0 (FA κ)) (F0 m 261 ls [])) → ∀ (n2 n : Nat) (mr : Bool), (mr = true → l9.length + 2 ≤ n + n2) → 1 ≤ n2 → n ≤ l9.length → (mr = false → n = l9.length) → ∀ (F : Nat → Nat → Int32) (th : Int32) (H : Heap) (locs : List Loc), OS κ s.heap (upA (mShut σ k p1 p2) 17 (lstP σ k (l9.take n))) F th H locs → ∀ ls : Array Slot, LL ls 12 [some (.ref (kad κ 6)), some (.int (nI (1001 + k))), some (.long p1), none, some (.int p2), some (.int (nI k)), some (.int (nI n)), some (.int (aft σ l9 n)), some (.int (bI mr)), none, none, none] → W p l e ({ frames := 2, cells := 0, slots := 0, locals := 44 } : Room) s m args below meth c H locs 0 0 (MQ below (va_Qi (fun r σ' => (r, σ') = mClose σ l2 p0 p1 p2) (WX κ) (FA κ)) args s 0 0 (FA κ)) (F0 m 123 ls []) := by
    intro k hk l9 hRM K n2
    induction n2 with
    | zero => intro n mr h1 h1b; exact absurd h1b (by omega)
    | succ n2 ih =>
      intro n mr h1 h1b h2 h3 F th H locs hO ls hl
      refine g_iload hC hl dX4_close_123 rfl ?_
      refine lv_if_eq (tgt := 261) hC.1 hC.2.1 dX4_close_125 (by decide) (fun c_9 => ?_) (fun c_9 => ?_)
      · skip
        have c_9 := bI_z c_9
        have hnl := h3 c_9
        subst hnl
        rw [List.take_of_length_le (Nat.le_refl _)] at hO
        exact K _ _ _ _ hO ls (LL.drop (LL.drop hl 7) 8)
      · skip
        have c_9 := bI_nz c_9
        have hmr := c_9
        refine lv_iconst (v := 0) hC.1 hC.2.1 dX4_close_128 (by decide) ?_
        refine g_istore hC hl dX4_close_129 (Nat.le_of_ble_eq_true rfl) rfl (fun ls hl => ?_)
        have hl : LL ls 12 [some _, some _, some _, none, some _, some _, some _, some _, some _, some _, none, none] := hl
        refine lv_iconst (v := 1) hC.1 hC.2.1 dX4_close_131 (by decide) ?_
        refine g_istore hC hl dX4_close_132 (Nat.le_of_ble_eq_true rfl) rfl (fun ls hl => ?_)
        have hl : LL ls 12 [some _, some _, some _, none, some _, some _, some _, some _, some _, some _, some _, none] := hl
        refine loop134 k hk (upA (mShut σ k p1 p2) 17 (lstP σ k (l9.take n))) (fun t => rfl) (fun t => rfl) _ _ _ ?_ 1061 1 (by omega) (by omega) (by omega) _ _ _ _ hO ls (by rw [show nxF σ (nI (1001 + k)) (aft σ l9 n) 1 = 0 from rfl]; exact hl)
        intro F th H locs hO ls hl
        rw [nx_row hRM h2] at hl
        refine g_iload hC hl dX4_close_214 rfl ?_
        refine lv_if_eq (tgt := 223) hC.1 hC.2.1 dX4_close_216 (by decide) (fun c_10 => ?_) (fun c_10 => ?_)
        · skip
          have hn9 : n = l9.length := hRM.zero h2 c_10
          refine lv_iconst (v := 0) hC.1 hC.2.1 dX4_close_223 (by decide) ?_
          refine g_istore hC hl dX4_close_224 (Nat.le_of_ble_eq_true rfl) rfl (fun ls hl => ?_)
          have hl : LL ls 12 [some _, some _, some _, none, some _, some _, some _, some _, some _, some _, none, none] := hl
          refine g_iload hC hl dX4_close_226 rfl ?_
          refine lv_if_eq (tgt := 258) hC.1 hC.2.1 dX4_close_228 (by decide) (fun c_11 => ?_) (fun c_11 => ?_)
          · skip
            refine lv_goto (tgt := 123) hC.1 hC.2.1 dX4_close_258 (by decide) ?_
            have hl := LL.drop hl 9
            have h1c := h1 hmr
            first
              | exact ih (n + 1) true (fun _ => by omega) (by omega) (by omega) (fun h => by cases h) _ _ _ _ hO ls hl
              | exact ih n false (fun h => by cases h) (by omega) h2 (fun _ => hn9) _ _ _ _ hO ls hl
          · skip
            exact absurd c_11 (by decide)
        · skip
          have hn9 : n < l9.length := by
            rcases Nat.lt_or_ge n l9.length with z | z
            · exact z
            · exact absurd (by rw [List.getD_eq_getElem?_getD, List.getElem?_eq_none z]; rfl) c_10
          obtain ⟨t9, ht91, ht92, et9, -, -⟩ := hRM.mem hn9
          have hl12 := hRM.1
          refine lv_iconst (v := 1) hC.1 hC.2.1 dX4_close_219 (by decide) ?_
          refine lv_goto (tgt := 224) hC.1 hC.2.1 dX4_close_220 (by decide) ?_
          refine g_istore hC hl dX4_close_224 (Nat.le_of_ble_eq_true rfl) rfl (fun ls hl => ?_)
          have hl : LL ls 12 [some _, some _, some _, none, some _, some _, some _, some _, some _, some _, none, none] := hl
          refine g_iload hC hl dX4_close_226 rfl ?_
          refine lv_if_eq (tgt := 258) hC.1 hC.2.1 dX4_close_228 (by decide) (fun c_12 => ?_) (fun c_12 => ?_)
          · skip
            exact absurd c_12 (by decide)
          · skip
            refine g_aload_n hC hl dX4_close_231 rfl rfl ?_
            refine g_get (ci := 4) (k := 13) hC hO rfl inX4 (by decide) q_fl_RX4_42 (nn_lt (Nat.le_of_ble_eq_true rfl)) rfl rfl dX4_close_232 ?_
            refine lv_bipush (v := 12) hC.1 hC.2.1 dX4_close_235 (by decide) ?_
            refine g_iload hC hl dX4_close_237 rfl ?_
            refine lv_imul hC.1 hC.2.1 dX4_close_239 ?_
            refine g_iload hC hl dX4_close_240 rfl ?_
            refine lv_iadd hC.1 hC.2.1 dX4_close_242 ?_
            rw [ix12]
            refine g_iload hC hl dX4_close_243 rfl ?_
            refine g_iast hC hO (nn_lt (Nat.le_of_ble_eq_true rfl)) (fun _ _ => rfl) (vp_in_nI (by omega) (by omega)) dX4_close_245 (fun H locs hO => ?_)
            rw [nI_clamp (n := 12 * k + n) (by omega), upI_upA, lstP_s σ k hn9] at hO
            refine g_aload_n hC hl dX4_close_246 rfl rfl ?_
            refine g_get (ci := 4) (k := 2) hC hO rfl inX4 (by decide) q_fl_RX4_13 (nn_lt (Nat.le_of_ble_eq_true rfl)) rfl rfl dX4_close_247 ?_
            refine g_iload hC hl dX4_close_250 rfl ?_
            refine g_iald hC hO (nn_lt (Nat.le_of_ble_eq_true rfl)) rfl (by rw [et9]; exact vp_in_nI (by omega) (by omega)) dX4_close_252 ?_
            refine g_istore hC hl dX4_close_253 (Nat.le_of_ble_eq_true rfl) rfl (fun ls hl => ?_)
            have hl : LL ls 12 [some _, some _, some _, none, some _, some _, some _, some _, some _, some _, none, none] := hl
            refine g_iinc (v := nI (n + 1)) hC hl dX4_close_255 rfl (nI_i1 n) (Nat.le_of_ble_eq_true rfl) rfl (fun ls hl => ?_)
            have hl : LL ls 12 [some _, some _, some _, none, some _, some _, some _, some _, some _, some _, none, none] := hl
            refine lv_goto (tgt := 123) hC.1 hC.2.1 dX4_close_258 (by decide) ?_
            have hl := LL.drop hl 9
            have h1c := h1 hmr
            first
              | exact ih (n + 1) true (fun _ => by omega) (by omega) (by omega) (fun h => by cases h) _ _ _ _ hO ls hl
              | exact ih n false (fun h => by cases h) (by omega) h2 (fun _ => hn9) _ _ _ _ hO ls hl
  refine g_aload_n hC hl dX4_close_0 rfl rfl ?_
  refine lv_iconst (v := 0) hC.1 hC.2.1 dX4_close_1 (by decide) ?_
  refine g_putT hC hO q_fl_RX4_69 dX4_close_2 (fun H locs hO => ?_)
  refine g_aload_n hC hl dX4_close_5 rfl rfl ?_
  refine g_iload_n hC hl dX4_close_6 rfl rfl ?_
  refine g_cVi1 hC hO hl (ci := 4) rfl (nn_lt (Nat.le_of_ble_eq_true rfl)) rfl (c_X4_isBag l κ _ (by first | exact hM | exact hM.upA 9 _ (by decide) (by decide) (by decide)) _) mi_X4_isBag q_ml_RX4_76 rfl rfl ⟨Nat.le_of_ble_eq_true rfl, Nat.le_of_ble_eq_true rfl⟩ (Nat.le_of_ble_eq_true rfl) ⟨Nat.zero_le _, Nat.zero_le _⟩ dX4_close_7 (fun r σ1 F th H locs hr hO => ?_)
  obtain ⟨rfl, rfl⟩ := hr
  refine lv_if_ne (tgt := 16) hC.1 hC.2.1 dX4_close_10 (by decide) (fun c_13 => ?_) (fun c_13 => ?_)
  · skip
    have c_13 := bI_nz c_13
    obtain ⟨k, hq, hk, rfl⟩ := recOf_isSome c_13
    have hbt := thing_bag hq
    have ck : (nI k).toNatClampNeg = k := nI_clamp (by omega)
    have cb : (nI (1001 + k)).toNatClampNeg = 1001 + k := nI_clamp (by omega)
    refine g_lload_n hC hl dX4_close_16 rfl rfl ?_
    refine lv_lconst (v := 1) hC.1 hC.2.1 dX4_close_17 (by decide) ?_
    refine W.lcmp hC.1 hC.2.1 dX4_close_18 ?_
    refine lv_if_lt (tgt := 42) hC.1 hC.2.1 dX4_close_19 (by decide) (fun c_14 => ?_) (fun c_14 => ?_)
    · skip
      rw [lg_cmp_lt] at c_14
      have hs := sealB_f1 c_14
      refine lv_bipush (v := (-12)) hC.1 hC.2.1 dX4_close_42 (by decide) ?_
      exact g_iret hC hO dX4_close_44 (by unfold mClose; simp [hq, hs])
    · skip
      rw [lg_cmp_lt] at c_14
      have hs1 := c_14
      refine g_lload_n hC hl dX4_close_22 rfl rfl ?_
      refine lv_ldc2 hC.1 hC.2.1 hC.2.2.2.1 (hC.2.2.2.2.1 _ q_kl_RX4_111) dX4_close_23 ?_
      refine W.lcmp hC.1 hC.2.1 dX4_close_26 ?_
      refine lv_if_gt (tgt := 42) hC.1 hC.2.1 dX4_close_27 (by decide) (fun c_15 => ?_) (fun c_15 => ?_)
      · skip
        rw [lg_cmp_gt] at c_15
        have hs := sealB_f2 c_15
        refine lv_bipush (v := (-12)) hC.1 hC.2.1 dX4_close_42 (by decide) ?_
        exact g_iret hC hO dX4_close_44 (by unfold mClose; simp [hq, hs])
      · skip
        rw [lg_cmp_gt] at c_15
        have hs := sealB_t hs1 c_15
        refine g_iload hC hl dX4_close_30 rfl ?_
        refine lv_if_lt (tgt := 42) hC.1 hC.2.1 dX4_close_32 (by decide) (fun c_16 => ?_) (fun c_16 => ?_)
        · skip
          have hpp := personB_f1 c_16
          refine lv_bipush (v := (-12)) hC.1 hC.2.1 dX4_close_42 (by decide) ?_
          exact g_iret hC hO dX4_close_44 (by unfold mClose; simp [hq, hs, hpp])
        · skip
          have hp1 := c_16
          refine g_iload hC hl dX4_close_35 rfl ?_
          refine lv_bipush (v := 49) hC.1 hC.2.1 dX4_close_37 (by decide) ?_
          refine lv_icmp_le (tgt := 45) hC.1 hC.2.1 dX4_close_39 (by decide) (fun c_17 => ?_) (fun c_17 => ?_)
          · skip
            have hpp := personB_t hp1 c_17
            refine g_iload_n hC hl dX4_close_45 rfl rfl ?_
            refine lv_sipush (v := 1001) hC.1 hC.2.1 dX4_close_46 (by decide) ?_
            refine lv_isub hC.1 hC.2.1 dX4_close_49 ?_
            rw [sub1001 (by omega)]
            refine g_istore hC hl dX4_close_50 (Nat.le_of_ble_eq_true rfl) rfl (fun ls hl => ?_)
            have hl : LL ls 12 [some _, some _, some _, none, some _, some _, none, none, none, none, none, none] := hl
            refine g_aload_n hC hl dX4_close_52 rfl rfl ?_
            refine g_get (ci := 4) (k := 7) hC hO rfl inX4 (by decide) q_fl_RX4_22 (nn_lt (Nat.le_of_ble_eq_true rfl)) rfl rfl dX4_close_53 ?_
            refine g_iload hC hl dX4_close_56 rfl ?_
            refine g_zald hC hO (nn_lt (Nat.le_of_ble_eq_true rfl)) rfl (vp_in_nI (by omega) (by omega)) dX4_close_58 ?_
            refine lv_if_ne (tgt := 70) hC.1 hC.2.1 dX4_close_59 (by decide) (fun c_18 => ?_) (fun c_18 => ?_)
            · skip
              rw [ck] at c_18
              refine lv_bipush (v := (-13)) hC.1 hC.2.1 dX4_close_70 (by decide) ?_
              exact g_iret hC hO dX4_close_72 (by unfold mClose; simp [hq, hs, hpp, c_18])
            · skip
              rw [ck] at c_18
              refine g_aload_n hC hl dX4_close_62 rfl rfl ?_
              refine g_iload_n hC hl dX4_close_63 rfl rfl ?_
              refine g_cVi1 hC hO hl (ci := 4) rfl (nn_lt (Nat.le_of_ble_eq_true rfl)) rfl (c_X4_isShutIn l κ _ (by first | exact hM | exact hM.upA 9 _ (by decide) (by decide) (by decide)) (1001 + k) (by omega)) mi_X4_isShutIn q_ml_RX4_98 rfl rfl ⟨Nat.le_of_ble_eq_true rfl, Nat.le_of_ble_eq_true rfl⟩ (Nat.le_of_ble_eq_true rfl) ⟨Nat.zero_le _, Nat.zero_le _⟩ dX4_close_64 (fun r σ1 F th H locs hr hO => ?_)
              obtain ⟨rfl, rfl⟩ := hr
              refine lv_if_eq (tgt := 73) hC.1 hC.2.1 dX4_close_67 (by decide) (fun c_19 => ?_) (fun c_19 => ?_)
              · skip
                have c_19 := bI_z c_19
                refine g_aload_n hC hl dX4_close_73 rfl rfl ?_
                refine g_get (ci := 4) (k := 7) hC hO rfl inX4 (by decide) q_fl_RX4_22 (nn_lt (Nat.le_of_ble_eq_true rfl)) rfl rfl dX4_close_74 ?_
                refine g_iload hC hl dX4_close_77 rfl ?_
                refine lv_iconst (v := 1) hC.1 hC.2.1 dX4_close_79 (by decide) ?_
                refine g_zast hC hO (nn_lt (Nat.le_of_ble_eq_true rfl)) (fun _ _ => rfl) (vp_in_nI (by omega) (by omega)) (by decide) dX4_close_80 (fun H locs hO => ?_)
                rw [ck] at hO
                refine g_aload_n hC hl dX4_close_81 rfl rfl ?_
                refine g_get (ci := 4) (k := 8) hC hO rfl inX4 (by decide) q_fl_RX4_26 (nn_lt (Nat.le_of_ble_eq_true rfl)) rfl rfl dX4_close_82 ?_
                refine g_iload hC hl dX4_close_85 rfl ?_
                refine lv_iconst (v := 0) hC.1 hC.2.1 dX4_close_87 (by decide) ?_
                refine g_zast hC hO (nn_lt (Nat.le_of_ble_eq_true rfl)) (fun _ _ => rfl) (vp_in_nI (by omega) (by omega)) (by decide) dX4_close_88 (fun H locs hO => ?_)
                rw [ck] at hO
                refine g_aload_n hC hl dX4_close_89 rfl rfl ?_
                refine g_get (ci := 4) (k := 9) hC hO rfl inX4 (by decide) q_fl_RX4_29 (nn_lt (Nat.le_of_ble_eq_true rfl)) rfl rfl dX4_close_90 ?_
                refine g_iload hC hl dX4_close_93 rfl ?_
                refine g_lload_n hC hl dX4_close_95 rfl rfl ?_
                refine g_last hC hO (nn_lt (Nat.le_of_ble_eq_true rfl)) (fun _ _ => rfl) (vp_in_nI (by omega) (by omega)) dX4_close_96 (fun H locs hO => ?_)
                rw [ck] at hO
                refine g_aload_n hC hl dX4_close_97 rfl rfl ?_
                refine g_get (ci := 4) (k := 10) hC hO rfl inX4 (by decide) q_fl_RX4_33 (nn_lt (Nat.le_of_ble_eq_true rfl)) rfl rfl dX4_close_98 ?_
                refine g_iload hC hl dX4_close_101 rfl ?_
                refine g_iload hC hl dX4_close_103 rfl ?_
                refine g_iast hC hO (nn_lt (Nat.le_of_ble_eq_true rfl)) (fun _ _ => rfl) (vp_in_nI (by omega) (by omega)) dX4_close_105 (fun H locs hO => ?_)
                rw [ck] at hO
                refine g_aload_n hC hl dX4_close_106 rfl rfl ?_
                refine g_get (ci := 4) (k := 17) hC hO rfl inX4 (by decide) q_fl_RX4_54 (nn_lt (Nat.le_of_ble_eq_true rfl)) rfl rfl dX4_close_107 ?_
                refine g_iload hC hl dX4_close_110 rfl ?_
                refine lv_iconst (v := 0) hC.1 hC.2.1 dX4_close_112 (by decide) ?_
                refine g_iast hC hO (nn_lt (Nat.le_of_ble_eq_true rfl)) (fun _ _ => rfl) (vp_in_nI (by omega) (by omega)) dX4_close_113 (fun H locs hO => ?_)
                rw [ck] at hO
                refine lv_iconst (v := 0) hC.1 hC.2.1 dX4_close_114 (by decide) ?_
                refine g_istore hC hl dX4_close_115 (Nat.le_of_ble_eq_true rfl) rfl (fun ls hl => ?_)
                have hl : LL ls 12 [some _, some _, some _, none, some _, some _, some _, none, none, none, none, none] := hl
                refine lv_iconst (v := 0) hC.1 hC.2.1 dX4_close_117 (by decide) ?_
                refine g_istore hC hl dX4_close_118 (Nat.le_of_ble_eq_true rfl) rfl (fun ls hl => ?_)
                have hl : LL ls 12 [some _, some _, some _, none, some _, some _, some _, some _, none, none, none, none] := hl
                refine lv_iconst (v := 1) hC.1 hC.2.1 dX4_close_120 (by decide) ?_
                refine g_istore hC hl dX4_close_121 (Nat.le_of_ble_eq_true rfl) rfl (fun ls hl => ?_)
                have hl : LL ls 12 [some _, some _, some _, none, some _, some _, some _, some _, some _, none, none, none] := hl
                have hRM := hrow k hq
                refine loop123 k (by omega) l2 hRM ?_ (l2.length + 2) 0 true (fun _ => by omega) (by omega) (by omega) (fun h => by cases h) _ _ _ _ (by rw [show lstP σ k (l2.take 0) = sI (mShut σ k p1 p2) 17 from lstP_nil _ _, upA_self]; exact hO) ls hl
                intro F th H locs hO ls hl
                refine g_aload_n hC hl dX4_close_261 rfl rfl ?_
                refine g_get (ci := 4) (k := 12) hC hO rfl inX4 (by decide) q_fl_RX4_39 (nn_lt (Nat.le_of_ble_eq_true rfl)) rfl rfl dX4_close_262 ?_
                refine g_iload hC hl dX4_close_265 rfl ?_
                refine g_iload hC hl dX4_close_267 rfl ?_
                refine g_iast hC hO (nn_lt (Nat.le_of_ble_eq_true rfl)) (fun _ _ => rfl) (vp_in_nI (by omega) (by omega)) dX4_close_269 (fun H locs hO => ?_)
                rw [ck] at hO
                refine g_iload hC hl dX4_close_270 rfl ?_
                exact g_iret hC hO dX4_close_272 (by unfold mClose; simp [hq, hs, hpp, c_18, c_19])
              · skip
                have c_19 := bI_nz c_19
                refine lv_bipush (v := (-13)) hC.1 hC.2.1 dX4_close_70 (by decide) ?_
                exact g_iret hC hO dX4_close_72 (by unfold mClose; simp [hq, hs, hpp, c_18, c_19])
          · skip
            have hpp := personB_f2 c_17
            refine lv_bipush (v := (-12)) hC.1 hC.2.1 dX4_close_42 (by decide) ?_
            exact g_iret hC hO dX4_close_44 (by unfold mClose; simp [hq, hs, hpp])
  · skip
    have c_13 := bI_z c_13
    have hq := recOf_no c_13
    refine lv_bipush (v := (-11)) hC.1 hC.2.1 dX4_close_13 (by decide) ?_
    exact g_iret hC hO dX4_close_15 (by unfold mClose; simp [hq])
