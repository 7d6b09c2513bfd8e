/-! the law's turn: a call of the class, the same call of the model, and the two answers are one -/
section ARMS
variable {p : Program} {l : Launch} {e : Env} {s : State} {m : MethodId} {b : Nat} {below : List Frame} {meth : Method} {c : Code} {H : Heap} {locs : List Loc} {cells slots : Nat} {Q : State → Prop}
variable {L : Nat} {xs : Nat → Int32} {κ : KK} {j : Nat} {ls : Array Slot} {σ : ST} {F : Nat → Nat → Int32} {th : Int32}
theorem pa_fst {x : Int32} {y : ST} {q : Int32 × ST} (h : (x, y) = q) : x = q.1 := by rw [← h]
theorem pa_snd {x : Int32} {y : ST} {q : Int32 × ST} (h : (x, y) = q) : y = q.2 := by rw [← h]
set_option maxHeartbeats 4000000 in
set_option maxRecDepth 100000 in
theorem arm_bag (hW : LW p s m meth c b L xs κ) (hj : 6 * j + 6 ≤ L) (hl : LL ls 4 (LV b (kad κ 0) (kad κ 6) j)) (hO : OS κ s.heap σ F th H locs) (hI : Inv j σ) (hF : IFr σ) (hf : cells + 13 ≤ 600000 ∧ slots + 78 ≤ 7302250) (kk : LK p l e s m b below meth c Q L xs κ j cells slots ls) : W p l e room_1 s m #[Value.ref b] below meth c H locs cells slots Q (F0 m 100 ls []) := by
  have hC := hW.1
  have hj5 : j < 512 := by have := hW.2.2.2.2; omega
  refine g_aload_n hC hl dL_law_100 rfl rfl ?_
  refine law_ld hW hO.2.2.2.1 hl hj 1 (by decide) dL_law_101 dL_law_102 dL_law_103 (by decide) dL_law_104 dL_law_105 ?_
  refine va_calli (va_runV (As := [.int (xs (6 * j + 1))]) (rest := []) ⟨hC.1, hC.2.1, hC.2.2.1, hC.2.2.2.1, hC.2.2.2.2.1⟩ (c_X3_bag l κ σ (xs (6 * j + 1))) (cwV 1 hC.2.2.2.2.1 (gV q_ml_RL_13 mi_X3_bag.1 mi_X3_bag.2.1 mi_X3_bag.2.2.1 mi_X3_bag.2.2.2.1) rfl rfl rfl mi_X3_bag.2.2.2.2 ⟨Nat.le_of_ble_eq_true rfl, Nat.le_of_ble_eq_true rfl⟩) ⟨fun a U g mk q => ⟨q.1, q.2.blind g mk a⟩, g_recv hC hO (ci := 3) (co := 0) rfl (nn_lt (by decide)) rfl, fun U hU hW2 => ⟨rfl, hO.wx hU (va_K.moved hW2.alike hC.2.2.2.2.2.1)⟩⟩ rfl rfl hl.1 rfl (lv_room (Nat.le_of_ble_eq_true rfl)) dL_law_106 hf) hO.2.2.2.1 (fun _ _ h => h) (fun _ h => h) (fun r1 u t H1 locs1 ht _ hp1 hB _ _ hS => ?_)
  obtain ⟨κ2, σ1⟩ := u
  obtain ⟨hs, hp1⟩ := hp1
  have hs : kSame κ κ2 (nn σ) := hs
  have hW2 := hW.same hs
  have hC2 := hW2.1
  have hO1 : ∃ F1 th1, OS κ2 s.heap σ1 F1 th1 H1 locs1 := by
    obtain ⟨-, ⟨F1, th1, w1, w2⟩, w3, -⟩ := hB
    refine ⟨F1, th1, w1, by rw [← ht]; exact w2, w3, ?_, Nat.le_of_eq hW2.2.2.2.1⟩
    have hS2 := hS
    unfold FA at hS2 ⊢
    rw [show kS κ2 = kS κ from hs.1]
    exact hS2
  obtain ⟨F1, th1, hO1⟩ := hO1
  have e0 : kad κ2 0 = kad κ 0 := hs.2.2.2 0 (nn_lt (by decide))
  have e6 : kad κ2 6 = kad κ 6 := hs.2.2.2 6 (nn_lt (by decide))
  have hl : LL ls 4 (LV b (kad κ2 0) (kad κ2 6) j) := by rw [e0, e6]; exact hl
  obtain rfl := pa_fst hp1
  obtain rfl := pa_snd hp1
  obtain ⟨hr, hc2, hI1, hF1⟩ := bag_ag hI hF (xs (6 * j + 1))
  refine g_aload_n hC2 hl dL_law_109 rfl rfl ?_
  refine law_ld hW2 hO1.2.2.2.1 hl hj 1 (by decide) dL_law_110 dL_law_111 dL_law_112 (by decide) dL_law_113 dL_law_114 ?_
  refine g_cVi1 hC2 hO1 hl (ci := 4) (co := 6) rfl (nn_lt (by decide)) rfl (c_X4_bag l κ2 _ σ.1 hc2 hI.1.2.1 _) mi_X4_bag q_ml_RL_17 rfl rfl ⟨Nat.le_of_ble_eq_true rfl, Nat.le_of_ble_eq_true rfl⟩ (Nat.le_of_ble_eq_true rfl) hf dL_law_115 (fun r2 σ2 F2 th2 H2 locs2 hp2 hO2 => ?_)
  obtain rfl := pa_fst hp2
  obtain rfl := pa_snd hp2
  refine lv_icmp_eq (tgt := 639) hC2.1 hC2.2.1 dL_law_118 (by decide) (fun _ => ?_) (fun hne => absurd hr hne)
  exact kk κ2 _ _ _ _ _ hW2 e0 e6 hO2 hI1 hF1
set_option maxHeartbeats 4000000 in
set_option maxRecDepth 100000 in
theorem arm_into (hW : LW p s m meth c b L xs κ) (hj : 6 * j + 6 ≤ L) (hl : LL ls 4 (LV b (kad κ 0) (kad κ 6) j)) (hO : OS κ s.heap σ F th H locs) (hI : Inv j σ) (hF : IFr σ) (hf : cells + 13 ≤ 600000 ∧ slots + 78 ≤ 7302250) (kk : LK p l e s m b below meth c Q L xs κ j cells slots ls) : W p l e room_1 s m #[Value.ref b] below meth c H locs cells slots Q (F0 m 123 ls []) := by
  have hC := hW.1
  have hj5 : j < 512 := by have := hW.2.2.2.2; omega
  refine W.widen (k := cells + 13) (n := slots + 78) (by omega) (by omega) ?_
  refine g_aload_n hC hl dL_law_123 rfl rfl ?_
  refine law_ld hW hO.2.2.2.1 hl hj 1 (by decide) dL_law_124 dL_law_125 dL_law_126 (by decide) dL_law_127 dL_law_128 ?_
  refine law_ld hW hO.2.2.2.1 hl hj 2 (by decide) dL_law_129 dL_law_130 dL_law_131 (by decide) dL_law_132 dL_law_133 ?_
  refine g_cVi2 hC hO hl (ci := 3) (co := 0) rfl (nn_lt (by decide)) rfl (c_X3_into l κ σ _ _) mi_X3_into q_ml_RL_18 rfl rfl ⟨Nat.le_of_ble_eq_true rfl, Nat.le_of_ble_eq_true rfl⟩ (Nat.le_of_ble_eq_true rfl) hf dL_law_134 (fun r1 σ1 F1 th1 H1 locs1 hp1 hO1 => ?_)
  obtain rfl := pa_fst hp1
  obtain rfl := pa_snd hp1
  obtain ⟨hm, hr, hI1⟩ := into_ag hI hj5 (xs (6 * j + 1)) (xs (6 * j + 2))
  refine g_aload_n hC hl dL_law_137 rfl rfl ?_
  refine law_ld hW hO1.2.2.2.1 hl hj 1 (by decide) dL_law_138 dL_law_139 dL_law_140 (by decide) dL_law_141 dL_law_142 ?_
  refine law_ld hW hO1.2.2.2.1 hl hj 2 (by decide) dL_law_143 dL_law_144 dL_law_145 (by decide) dL_law_146 dL_law_147 ?_
  refine g_cVi2 hC hO1 hl (ci := 4) (co := 6) rfl (nn_lt (by decide)) rfl (c_X4_into l κ _ (hm.mb hI.1) _ _) mi_X4_into q_ml_RL_22 rfl rfl ⟨Nat.le_of_ble_eq_true rfl, Nat.le_of_ble_eq_true rfl⟩ (Nat.le_of_ble_eq_true rfl) hf dL_law_148 (fun r2 σ2 F2 th2 H2 locs2 hp2 hO2 => ?_)
  obtain rfl := pa_fst hp2
  obtain rfl := pa_snd hp2
  refine lv_icmp_eq (tgt := 639) hC.1 hC.2.1 dL_law_151 (by decide) (fun _ => ?_) (fun hne => absurd hr hne)
  exact kk κ _ _ _ _ _ hW rfl rfl hO2 hI1 (fr_into (hm.fr hF) _ _)
set_option maxHeartbeats 4000000 in
set_option maxRecDepth 100000 in
theorem arm_take (hW : LW p s m meth c b L xs κ) (hj : 6 * j + 6 ≤ L) (hl : LL ls 4 (LV b (kad κ 0) (kad κ 6) j)) (hO : OS κ s.heap σ F th H locs) (hI : Inv j σ) (hF : IFr σ) (hf : cells + 13 ≤ 600000 ∧ slots + 78 ≤ 7302250) (kk : LK p l e s m b below meth c Q L xs κ j cells slots ls) : W p l e room_1 s m #[Value.ref b] below meth c H locs cells slots Q (F0 m 156 ls []) := by
  have hC := hW.1
  have hj5 : j < 512 := by have := hW.2.2.2.2; omega
  refine W.widen (k := cells + 13) (n := slots + 78) (by omega) (by omega) ?_
  refine g_aload_n hC hl dL_law_156 rfl rfl ?_
  refine law_ld hW hO.2.2.2.1 hl hj 1 (by decide) dL_law_157 dL_law_158 dL_law_159 (by decide) dL_law_160 dL_law_161 ?_
  refine g_cVi1 hC hO hl (ci := 3) (co := 0) rfl (nn_lt (by decide)) rfl (c_X3_take l κ σ _) mi_X3_take q_ml_RL_23 rfl rfl ⟨Nat.le_of_ble_eq_true rfl, Nat.le_of_ble_eq_true rfl⟩ (Nat.le_of_ble_eq_true rfl) hf dL_law_162 (fun r1 σ1 F1 th1 H1 locs1 hp1 hO1 => ?_)
  obtain rfl := pa_fst hp1
  obtain rfl := pa_snd hp1
  obtain ⟨hm, hr, hI1⟩ := take_ag hI (xs (6 * j + 1))
  refine g_aload_n hC hl dL_law_165 rfl rfl ?_
  refine law_ld hW hO1.2.2.2.1 hl hj 1 (by decide) dL_law_166 dL_law_167 dL_law_168 (by decide) dL_law_169 dL_law_170 ?_
  refine g_cVi1 hC hO1 hl (ci := 4) (co := 6) rfl (nn_lt (by decide)) rfl (c_X4_take l κ _ (hm.mb hI.1) _) mi_X4_take q_ml_RL_26 rfl rfl ⟨Nat.le_of_ble_eq_true rfl, Nat.le_of_ble_eq_true rfl⟩ (Nat.le_of_ble_eq_true rfl) hf dL_law_171 (fun r2 σ2 F2 th2 H2 locs2 hp2 hO2 => ?_)
  obtain rfl := pa_fst hp2
  obtain rfl := pa_snd hp2
  refine lv_icmp_eq (tgt := 639) hC.1 hC.2.1 dL_law_174 (by decide) (fun _ => ?_) (fun hne => absurd hr hne)
  exact kk κ _ _ _ _ _ hW rfl rfl hO2 hI1 (fr_take (hm.fr hF) _)
set_option maxHeartbeats 4000000 in
set_option maxRecDepth 100000 in
theorem arm_close (hW : LW p s m meth c b L xs κ) (hj : 6 * j + 6 ≤ L) (hl : LL ls 4 (LV b (kad κ 0) (kad κ 6) j)) (hO : OS κ s.heap σ F th H locs) (hI : Inv j σ) (hF : IFr σ) (hf : cells + 13 ≤ 600000 ∧ slots + 78 ≤ 7302250) (kk : LK p l e s m b below meth c Q L xs κ j cells slots ls) : W p l e room_1 s m #[Value.ref b] below meth c H locs cells slots Q (F0 m 179 ls []) := by
  have hC := hW.1
  have hj5 : j < 512 := by have := hW.2.2.2.2; omega
  refine W.widen (k := cells + 13) (n := slots + 78) (by omega) (by omega) ?_
  have hrw : ∃ l2 : List Int32, ∀ k, recOf σ (xs (6 * j + 1)) = some k → l2 = sR σ (rc k 0) := by
    cases e9 : recOf σ (xs (6 * j + 1)) with
    | none => exact ⟨[], fun k h => by cases h⟩
    | some k => exact ⟨sR σ (rc k 0), fun k2 h => by cases h; rfl⟩
  obtain ⟨l2, hl2⟩ := hrw
  refine g_aload_n hC hl dL_law_179 rfl rfl ?_
  refine law_ld hW hO.2.2.2.1 hl hj 1 (by decide) dL_law_180 dL_law_181 dL_law_182 (by decide) dL_law_183 dL_law_184 ?_
  refine law_lj hW hO.2.2.2.1 hl hj 2 (by decide) dL_law_185 dL_law_186 dL_law_187 (by decide) dL_law_188 dL_law_189 dL_law_190 dL_law_191 dL_law_193 dL_law_194 dL_law_195 dL_law_196 (by decide) dL_law_197 dL_law_198 dL_law_199 dL_law_200 dL_law_203 dL_law_204 ?_
  refine law_ld hW hO.2.2.2.1 hl hj 4 (by decide) dL_law_205 dL_law_206 dL_law_207 (by decide) dL_law_208 dL_law_209 ?_
  refine g_cVi3 hC hO hl (ci := 3) (co := 0) rfl (nn_lt (by decide)) rfl (c_X3_close l κ σ _ _ _) mi_X3_close q_ml_RL_29 rfl rfl ⟨Nat.le_of_ble_eq_true rfl, Nat.le_of_ble_eq_true rfl⟩ (Nat.le_of_ble_eq_true rfl) hf dL_law_210 (fun r1 σ1 F1 th1 H1 locs1 hp1 hO1 => ?_)
  obtain rfl := pa_fst hp1
  obtain rfl := pa_snd hp1
  obtain ⟨hm, hr, hI1⟩ := close_ag hI (xs (6 * j + 1)) (lJ (xs (6 * j + 2)) (xs (6 * j + (2 + 1)))) (xs (6 * j + 4)) l2 hl2
  refine g_aload_n hC hl dL_law_213 rfl rfl ?_
  refine law_ld hW hO1.2.2.2.1 hl hj 1 (by decide) dL_law_214 dL_law_215 dL_law_216 (by decide) dL_law_217 dL_law_218 ?_
  refine law_lj hW hO1.2.2.2.1 hl hj 2 (by decide) dL_law_219 dL_law_220 dL_law_221 (by decide) dL_law_222 dL_law_223 dL_law_224 dL_law_225 dL_law_227 dL_law_228 dL_law_229 dL_law_230 (by decide) dL_law_231 dL_law_232 dL_law_233 dL_law_234 dL_law_237 dL_law_238 ?_
  refine law_ld hW hO1.2.2.2.1 hl hj 4 (by decide) dL_law_239 dL_law_240 dL_law_241 (by decide) dL_law_242 dL_law_243 ?_
  refine g_cVi3 hC hO1 hl (ci := 4) (co := 6) rfl (nn_lt (by decide)) rfl (c_X4_close l κ _ (hm.mb hI.1) l2 _ _ _ (fun k hk => by rw [hm.rec] at hk; rw [hl2 k hk]; exact hm.row (hI.2.2.1.2 k (recOf_lt hk)))) mi_X4_close q_ml_RL_33 rfl rfl ⟨Nat.le_of_ble_eq_true rfl, Nat.le_of_ble_eq_true rfl⟩ (Nat.le_of_ble_eq_true rfl) hf dL_law_244 (fun r2 σ2 F2 th2 H2 locs2 hp2 hO2 => ?_)
  obtain rfl := pa_fst hp2
  obtain rfl := pa_snd hp2
  refine lv_icmp_eq (tgt := 639) hC.1 hC.2.1 dL_law_247 (by decide) (fun _ => ?_) (fun hne => absurd hr hne)
  exact kk κ _ _ _ _ _ hW rfl rfl hO2 hI1 (fr_close (hm.fr hF) _ _ _ _)
set_option maxHeartbeats 4000000 in
set_option maxRecDepth 100000 in
theorem arm_open (hW : LW p s m meth c b L xs κ) (hj : 6 * j + 6 ≤ L) (hl : LL ls 4 (LV b (kad κ 0) (kad κ 6) j)) (hO : OS κ s.heap σ F th H locs) (hI : Inv j σ) (hF : IFr σ) (hf : cells + 13 ≤ 600000 ∧ slots + 78 ≤ 7302250) (kk : LK p l e s m b below meth c Q L xs κ j cells slots ls) : W p l e room_1 s m #[Value.ref b] below meth c H locs cells slots Q (F0 m 252 ls []) := by
  have hC := hW.1
  have hj5 : j < 512 := by have := hW.2.2.2.2; omega
  refine W.widen (k := cells + 13) (n := slots + 78) (by omega) (by omega) ?_
  obtain ⟨n, n0, hn1, hn2, hn3, hn4, -⟩ := id hI.2.2.2.2.2.2.2.2.2.2
  refine g_aload_n hC hl dL_law_252 rfl rfl ?_
  refine law_ld hW hO.2.2.2.1 hl hj 1 (by decide) dL_law_253 dL_law_254 dL_law_255 (by decide) dL_law_256 dL_law_257 ?_
  refine law_lj hW hO.2.2.2.1 hl hj 2 (by decide) dL_law_258 dL_law_259 dL_law_260 (by decide) dL_law_261 dL_law_262 dL_law_263 dL_law_264 dL_law_266 dL_law_267 dL_law_268 dL_law_269 (by decide) dL_law_270 dL_law_271 dL_law_272 dL_law_273 dL_law_276 dL_law_277 ?_
  refine law_ld hW hO.2.2.2.1 hl hj 4 (by decide) dL_law_278 dL_law_279 dL_law_280 (by decide) dL_law_281 dL_law_282 ?_
  refine law_ld hW hO.2.2.2.1 hl hj 5 (by decide) dL_law_283 dL_law_284 dL_law_285 (by decide) dL_law_286 dL_law_287 ?_
  refine g_cVi4 hC hO hl (ci := 3) (co := 0) rfl (nn_lt (by decide)) rfl (c_X3_open l κ σ n hn3 (by omega) _ _ _ _) mi_X3_open q_ml_RL_34 rfl rfl ⟨Nat.le_of_ble_eq_true rfl, Nat.le_of_ble_eq_true rfl⟩ (Nat.le_of_ble_eq_true rfl) hf dL_law_288 (fun r1 σ1 F1 th1 H1 locs1 hp1 hO1 => ?_)
  obtain rfl := pa_fst hp1
  obtain rfl := pa_snd hp1
  obtain ⟨hm, hr, hI1⟩ := open_ag hI hj5 (xs (6 * j + 1)) (lJ (xs (6 * j + 2)) (xs (6 * j + (2 + 1)))) (xs (6 * j + 4)) (xs (6 * j + 5))
  refine g_aload_n hC hl dL_law_291 rfl rfl ?_
  refine law_ld hW hO1.2.2.2.1 hl hj 1 (by decide) dL_law_292 dL_law_293 dL_law_294 (by decide) dL_law_295 dL_law_296 ?_
  refine law_lj hW hO1.2.2.2.1 hl hj 2 (by decide) dL_law_297 dL_law_298 dL_law_299 (by decide) dL_law_300 dL_law_301 dL_law_302 dL_law_303 dL_law_305 dL_law_306 dL_law_307 dL_law_308 (by decide) dL_law_309 dL_law_310 dL_law_311 dL_law_312 dL_law_315 dL_law_316 ?_
  refine law_ld hW hO1.2.2.2.1 hl hj 4 (by decide) dL_law_317 dL_law_318 dL_law_319 (by decide) dL_law_320 dL_law_321 ?_
  refine law_ld hW hO1.2.2.2.1 hl hj 5 (by decide) dL_law_322 dL_law_323 dL_law_324 (by decide) dL_law_325 dL_law_326 ?_
  refine g_cVi4 hC hO1 hl (ci := 4) (co := 6) rfl (nn_lt (by decide)) rfl (c_X4_open l κ _ (hm.mb hI.1) n (by rw [hm.I 6]; exact hn4) (by omega) _ _ _ _) mi_X4_open q_ml_RL_38 rfl rfl ⟨Nat.le_of_ble_eq_true rfl, Nat.le_of_ble_eq_true rfl⟩ (Nat.le_of_ble_eq_true rfl) hf dL_law_327 (fun r2 σ2 F2 th2 H2 locs2 hp2 hO2 => ?_)
  obtain rfl := pa_fst hp2
  obtain rfl := pa_snd hp2
  refine lv_icmp_eq (tgt := 639) hC.1 hC.2.1 dL_law_330 (by decide) (fun _ => ?_) (fun hne => absurd hr hne)
  exact kk κ _ _ _ _ _ hW rfl rfl hO2 hI1 (fr_open (hm.fr hF) _ _ _ _)
set_option maxHeartbeats 4000000 in
set_option maxRecDepth 100000 in
theorem arm_found (hW : LW p s m meth c b L xs κ) (hj : 6 * j + 6 ≤ L) (hl : LL ls 4 (LV b (kad κ 0) (kad κ 6) j)) (hO : OS κ s.heap σ F th H locs) (hI : Inv j σ) (hF : IFr σ) (hf : cells + 13 ≤ 600000 ∧ slots + 78 ≤ 7302250) (kk : LK p l e s m b below meth c Q L xs κ j cells slots ls) : W p l e room_1 s m #[Value.ref b] below meth c H locs cells slots Q (F0 m 335 ls []) := by
  have hC := hW.1
  have hj5 : j < 512 := by have := hW.2.2.2.2; omega
  refine W.widen (k := cells + 13) (n := slots + 78) (by omega) (by omega) ?_
  obtain ⟨n, n0, hn1, hn2, hn3, hn4, -⟩ := id hI.2.2.2.2.2.2.2.2.2.2
  refine g_aload_n hC hl dL_law_335 rfl rfl ?_
  refine law_ld hW hO.2.2.2.1 hl hj 1 (by decide) dL_law_336 dL_law_337 dL_law_338 (by decide) dL_law_339 dL_law_340 ?_
  refine law_ld hW hO.2.2.2.1 hl hj 2 (by decide) dL_law_341 dL_law_342 dL_law_343 (by decide) dL_law_344 dL_law_345 ?_
  refine g_cVi2 hC hO hl (ci := 3) (co := 0) rfl (nn_lt (by decide)) rfl (c_X3_found l κ σ n hn3 (by omega) _ _) mi_X3_found q_ml_RL_39 rfl rfl ⟨Nat.le_of_ble_eq_true rfl, Nat.le_of_ble_eq_true rfl⟩ (Nat.le_of_ble_eq_true rfl) hf dL_law_346 (fun r1 σ1 F1 th1 H1 locs1 hp1 hO1 => ?_)
  obtain rfl := pa_fst hp1
  obtain rfl := pa_snd hp1
  obtain ⟨hm, hr, hI1⟩ := found_ag hI hj5 (xs (6 * j + 1)) (xs (6 * j + 2))
  refine g_aload_n hC hl dL_law_349 rfl rfl ?_
  refine law_ld hW hO1.2.2.2.1 hl hj 1 (by decide) dL_law_350 dL_law_351 dL_law_352 (by decide) dL_law_353 dL_law_354 ?_
  refine law_ld hW hO1.2.2.2.1 hl hj 2 (by decide) dL_law_355 dL_law_356 dL_law_357 (by decide) dL_law_358 dL_law_359 ?_
  refine g_cVi2 hC hO1 hl (ci := 4) (co := 6) rfl (nn_lt (by decide)) rfl (c_X4_found l κ _ (hm.mb hI.1) (hm.ml hI.ml) n (by rw [hm.I 6]; exact hn4) (by omega) _ _) mi_X4_found q_ml_RL_42 rfl rfl ⟨Nat.le_of_ble_eq_true rfl, Nat.le_of_ble_eq_true rfl⟩ (Nat.le_of_ble_eq_true rfl) hf dL_law_360 (fun r2 σ2 F2 th2 H2 locs2 hp2 hO2 => ?_)
  obtain rfl := pa_fst hp2
  obtain rfl := pa_snd hp2
  refine lv_icmp_eq (tgt := 639) hC.1 hC.2.1 dL_law_363 (by decide) (fun _ => ?_) (fun hne => absurd hr hne)
  exact kk κ _ _ _ _ _ hW rfl rfl hO2 hI1 (fr_found (hm.fr hF) _ _)
set_option maxHeartbeats 4000000 in
set_option maxRecDepth 100000 in
theorem arm_differ (hW : LW p s m meth c b L xs κ) (hj : 6 * j + 6 ≤ L) (hl : LL ls 4 (LV b (kad κ 0) (kad κ 6) j)) (hO : OS κ s.heap σ F th H locs) (hI : Inv j σ) (hF : IFr σ) (hf : cells + 13 ≤ 600000 ∧ slots + 78 ≤ 7302250) (kk : LK p l e s m b below meth c Q L xs κ j cells slots ls) : W p l e room_1 s m #[Value.ref b] below meth c H locs cells slots Q (F0 m 368 ls []) := by
  have hC := hW.1
  have hj5 : j < 512 := by have := hW.2.2.2.2; omega
  refine W.widen (k := cells + 13) (n := slots + 78) (by omega) (by omega) ?_
  refine g_aload_n hC hl dL_law_368 rfl rfl ?_
  refine law_ld hW hO.2.2.2.1 hl hj 1 (by decide) dL_law_369 dL_law_370 dL_law_371 (by decide) dL_law_372 dL_law_373 ?_
  refine law_ld hW hO.2.2.2.1 hl hj 2 (by decide) dL_law_374 dL_law_375 dL_law_376 (by decide) dL_law_377 dL_law_378 ?_
  refine law_ld hW hO.2.2.2.1 hl hj 3 (by decide) dL_law_379 dL_law_380 dL_law_381 (by decide) dL_law_382 dL_law_383 ?_
  refine g_cVi3 hC hO hl (ci := 3) (co := 0) rfl (nn_lt (by decide)) rfl (c_X3_differ l κ σ _ _ _) mi_X3_differ q_ml_RL_43 rfl rfl ⟨Nat.le_of_ble_eq_true rfl, Nat.le_of_ble_eq_true rfl⟩ (Nat.le_of_ble_eq_true rfl) hf dL_law_384 (fun r1 σ1 F1 th1 H1 locs1 hp1 hO1 => ?_)
  obtain ⟨rfl, rfl⟩ := hp1
  have hr := differ_eq hI (xs (6 * j + 1)) (xs (6 * j + 2)) (xs (6 * j + 3))
  refine g_aload_n hC hl dL_law_387 rfl rfl ?_
  refine law_ld hW hO1.2.2.2.1 hl hj 1 (by decide) dL_law_388 dL_law_389 dL_law_390 (by decide) dL_law_391 dL_law_392 ?_
  refine law_ld hW hO1.2.2.2.1 hl hj 2 (by decide) dL_law_393 dL_law_394 dL_law_395 (by decide) dL_law_396 dL_law_397 ?_
  refine law_ld hW hO1.2.2.2.1 hl hj 3 (by decide) dL_law_398 dL_law_399 dL_law_400 (by decide) dL_law_401 dL_law_402 ?_
  refine g_cVi3 hC hO1 hl (ci := 4) (co := 6) rfl (nn_lt (by decide)) rfl (c_X4_differ l κ _ (hI.1) (hI.ml) _ _ _) mi_X4_differ q_ml_RL_47 rfl rfl ⟨Nat.le_of_ble_eq_true rfl, Nat.le_of_ble_eq_true rfl⟩ (Nat.le_of_ble_eq_true rfl) hf dL_law_403 (fun r2 σ2 F2 th2 H2 locs2 hp2 hO2 => ?_)
  obtain ⟨rfl, rfl⟩ := hp2
  refine lv_icmp_eq (tgt := 639) hC.1 hC.2.1 dL_law_406 (by decide) (fun _ => ?_) (fun hne => absurd hr hne)
  exact kk κ _ _ _ _ _ hW rfl rfl hO2 (hI.mono (Nat.le_succ j)) hF
set_option maxHeartbeats 4000000 in
set_option maxRecDepth 100000 in
theorem arm_inside (hW : LW p s m meth c b L xs κ) (hj : 6 * j + 6 ≤ L) (hl : LL ls 4 (LV b (kad κ 0) (kad κ 6) j)) (hO : OS κ s.heap σ F th H locs) (hI : Inv j σ) (hF : IFr σ) (hf : cells + 13 ≤ 600000 ∧ slots + 78 ≤ 7302250) (kk : LK p l e s m b below meth c Q L xs κ j cells slots ls) : W p l e room_1 s m #[Value.ref b] below meth c H locs cells slots Q (F0 m 411 ls []) := by
  have hC := hW.1
  have hj5 : j < 512 := by have := hW.2.2.2.2; omega
  refine W.widen (k := cells + 13) (n := slots + 78) (by omega) (by omega) ?_
  refine g_aload_n hC hl dL_law_411 rfl rfl ?_
  refine law_ld hW hO.2.2.2.1 hl hj 1 (by decide) dL_law_412 dL_law_413 dL_law_414 (by decide) dL_law_415 dL_law_416 ?_
  refine g_cVi1 hC hO hl (ci := 3) (co := 0) rfl (nn_lt (by decide)) rfl (c_X3_inside l κ σ _) mi_X3_inside q_ml_RL_48 rfl rfl ⟨Nat.le_of_ble_eq_true rfl, Nat.le_of_ble_eq_true rfl⟩ (Nat.le_of_ble_eq_true rfl) hf dL_law_417 (fun r1 σ1 F1 th1 H1 locs1 hp1 hO1 => ?_)
  obtain ⟨rfl, rfl⟩ := hp1
  have hr := inside_eq hI (xs (6 * j + 1))
  refine g_aload_n hC hl dL_law_420 rfl rfl ?_
  refine law_ld hW hO1.2.2.2.1 hl hj 1 (by decide) dL_law_421 dL_law_422 dL_law_423 (by decide) dL_law_424 dL_law_425 ?_
  refine g_cVi1 hC hO1 hl (ci := 4) (co := 6) rfl (nn_lt (by decide)) rfl (c_X4_inside l κ _ (hI.1) _) mi_X4_inside q_ml_RL_51 rfl rfl ⟨Nat.le_of_ble_eq_true rfl, Nat.le_of_ble_eq_true rfl⟩ (Nat.le_of_ble_eq_true rfl) hf dL_law_426 (fun r2 σ2 F2 th2 H2 locs2 hp2 hO2 => ?_)
  obtain ⟨rfl, rfl⟩ := hp2
  refine lv_icmp_eq (tgt := 639) hC.1 hC.2.1 dL_law_429 (by decide) (fun _ => ?_) (fun hne => absurd hr hne)
  exact kk κ _ _ _ _ _ hW rfl rfl hO2 (hI.mono (Nat.le_succ j)) hF
set_option maxHeartbeats 4000000 in
set_option maxRecDepth 100000 in
theorem arm_weight (hW : LW p s m meth c b L xs κ) (hj : 6 * j + 6 ≤ L) (hl : LL ls 4 (LV b (kad κ 0) (kad κ 6) j)) (hO : OS κ s.heap σ F th H locs) (hI : Inv j σ) (hF : IFr σ) (hf : cells + 13 ≤ 600000 ∧ slots + 78 ≤ 7302250) (kk : LK p l e s m b below meth c Q L xs κ j cells slots ls) : W p l e room_1 s m #[Value.ref b] below meth c H locs cells slots Q (F0 m 434 ls []) := by
  have hC := hW.1
  have hj5 : j < 512 := by have := hW.2.2.2.2; omega
  refine W.widen (k := cells + 13) (n := slots + 78) (by omega) (by omega) ?_
  obtain ⟨n, n0, hn1, hn2, hn3, hn4, -⟩ := id hI.2.2.2.2.2.2.2.2.2.2
  refine g_aload_n hC hl dL_law_434 rfl rfl ?_
  refine law_ld hW hO.2.2.2.1 hl hj 1 (by decide) dL_law_435 dL_law_436 dL_law_437 (by decide) dL_law_438 dL_law_439 ?_
  refine law_lj hW hO.2.2.2.1 hl hj 2 (by decide) dL_law_440 dL_law_441 dL_law_442 (by decide) dL_law_443 dL_law_444 dL_law_445 dL_law_446 dL_law_448 dL_law_449 dL_law_450 dL_law_451 (by decide) dL_law_452 dL_law_453 dL_law_454 dL_law_455 dL_law_458 dL_law_459 ?_
  refine g_cVi2 hC hO hl (ci := 3) (co := 0) rfl (nn_lt (by decide)) rfl (c_X3_weight l κ σ n hn3 (by omega) _ _) mi_X3_weight q_ml_RL_52 rfl rfl ⟨Nat.le_of_ble_eq_true rfl, Nat.le_of_ble_eq_true rfl⟩ (Nat.le_of_ble_eq_true rfl) hf dL_law_460 (fun r1 σ1 F1 th1 H1 locs1 hp1 hO1 => ?_)
  obtain rfl := pa_fst hp1
  obtain rfl := pa_snd hp1
  obtain ⟨hm, hr, hI1⟩ := weight_ag hI hj5 (xs (6 * j + 1)) (lJ (xs (6 * j + 2)) (xs (6 * j + (2 + 1))))
  refine g_aload_n hC hl dL_law_463 rfl rfl ?_
  refine law_ld hW hO1.2.2.2.1 hl hj 1 (by decide) dL_law_464 dL_law_465 dL_law_466 (by decide) dL_law_467 dL_law_468 ?_
  refine law_lj hW hO1.2.2.2.1 hl hj 2 (by decide) dL_law_469 dL_law_470 dL_law_471 (by decide) dL_law_472 dL_law_473 dL_law_474 dL_law_475 dL_law_477 dL_law_478 dL_law_479 dL_law_480 (by decide) dL_law_481 dL_law_482 dL_law_483 dL_law_484 dL_law_487 dL_law_488 ?_
  refine g_cVi2 hC hO1 hl (ci := 4) (co := 6) rfl (nn_lt (by decide)) rfl (c_X4_weight l κ _ (hm.mb hI.1) (hm.ml hI.ml) n (by rw [hm.I 6]; exact hn4) (by omega) _ _) mi_X4_weight q_ml_RL_56 rfl rfl ⟨Nat.le_of_ble_eq_true rfl, Nat.le_of_ble_eq_true rfl⟩ (Nat.le_of_ble_eq_true rfl) hf dL_law_489 (fun r2 σ2 F2 th2 H2 locs2 hp2 hO2 => ?_)
  obtain rfl := pa_fst hp2
  obtain rfl := pa_snd hp2
  refine lv_icmp_eq (tgt := 639) hC.1 hC.2.1 dL_law_492 (by decide) (fun _ => ?_) (fun hne => absurd hr hne)
  exact kk κ _ _ _ _ _ hW rfl rfl hO2 hI1 (fr_weight (hm.fr hF) _ _)
set_option maxHeartbeats 4000000 in
set_option maxRecDepth 100000 in
theorem arm_document (hW : LW p s m meth c b L xs κ) (hj : 6 * j + 6 ≤ L) (hl : LL ls 4 (LV b (kad κ 0) (kad κ 6) j)) (hO : OS κ s.heap σ F th H locs) (hI : Inv j σ) (hF : IFr σ) (hf : cells + 13 ≤ 600000 ∧ slots + 78 ≤ 7302250) (kk : LK p l e s m b below meth c Q L xs κ j cells slots ls) : W p l e room_1 s m #[Value.ref b] below meth c H locs cells slots Q (F0 m 497 ls []) := by
  have hC := hW.1
  have hj5 : j < 512 := by have := hW.2.2.2.2; omega
  refine W.widen (k := cells + 13) (n := slots + 78) (by omega) (by omega) ?_
  refine g_aload_n hC hl dL_law_497 rfl rfl ?_
  refine law_ld hW hO.2.2.2.1 hl hj 1 (by decide) dL_law_498 dL_law_499 dL_law_500 (by decide) dL_law_501 dL_law_502 ?_
  refine law_ld hW hO.2.2.2.1 hl hj 2 (by decide) dL_law_503 dL_law_504 dL_law_505 (by decide) dL_law_506 dL_law_507 ?_
  refine g_cVi2 hC hO hl (ci := 3) (co := 0) rfl (nn_lt (by decide)) rfl (c_X3_document l κ σ _ _) mi_X3_document q_ml_RL_57 rfl rfl ⟨Nat.le_of_ble_eq_true rfl, Nat.le_of_ble_eq_true rfl⟩ (Nat.le_of_ble_eq_true rfl) hf dL_law_508 (fun r1 σ1 F1 th1 H1 locs1 hp1 hO1 => ?_)
  obtain ⟨rfl, rfl⟩ := hp1
  have hr := document_eq hI (xs (6 * j + 1)) (xs (6 * j + 2))
  refine g_aload_n hC hl dL_law_511 rfl rfl ?_
  refine law_ld hW hO1.2.2.2.1 hl hj 1 (by decide) dL_law_512 dL_law_513 dL_law_514 (by decide) dL_law_515 dL_law_516 ?_
  refine law_ld hW hO1.2.2.2.1 hl hj 2 (by decide) dL_law_517 dL_law_518 dL_law_519 (by decide) dL_law_520 dL_law_521 ?_
  refine g_cVi2 hC hO1 hl (ci := 4) (co := 6) rfl (nn_lt (by decide)) rfl (c_X4_document l κ _ (hI.1) (hI.ml) _ _) mi_X4_document q_ml_RL_60 rfl rfl ⟨Nat.le_of_ble_eq_true rfl, Nat.le_of_ble_eq_true rfl⟩ (Nat.le_of_ble_eq_true rfl) hf dL_law_522 (fun r2 σ2 F2 th2 H2 locs2 hp2 hO2 => ?_)
  obtain ⟨rfl, rfl⟩ := hp2
  refine lv_icmp_eq (tgt := 639) hC.1 hC.2.1 dL_law_525 (by decide) (fun _ => ?_) (fun hne => absurd hr hne)
  exact kk κ _ _ _ _ _ hW rfl rfl hO2 (hI.mono (Nat.le_succ j)) hF
set_option maxHeartbeats 4000000 in
set_option maxRecDepth 100000 in
theorem arm_move (hW : LW p s m meth c b L xs κ) (hj : 6 * j + 6 ≤ L) (hl : LL ls 4 (LV b (kad κ 0) (kad κ 6) j)) (hO : OS κ s.heap σ F th H locs) (hI : Inv j σ) (hF : IFr σ) (hf : cells + 13 ≤ 600000 ∧ slots + 78 ≤ 7302250) (kk : LK p l e s m b below meth c Q L xs κ j cells slots ls) : W p l e room_1 s m #[Value.ref b] below meth c H locs cells slots Q (F0 m 530 ls []) := by
  have hC := hW.1
  have hj5 : j < 512 := by have := hW.2.2.2.2; omega
  refine W.widen (k := cells + 13) (n := slots + 78) (by omega) (by omega) ?_
  refine g_aload_n hC hl dL_law_530 rfl rfl ?_
  refine law_ld hW hO.2.2.2.1 hl hj 1 (by decide) dL_law_531 dL_law_532 dL_law_533 (by decide) dL_law_534 dL_law_535 ?_
  refine law_ld hW hO.2.2.2.1 hl hj 2 (by decide) dL_law_536 dL_law_537 dL_law_538 (by decide) dL_law_539 dL_law_540 ?_
  refine g_cVi2 hC hO hl (ci := 3) (co := 0) rfl (nn_lt (by decide)) rfl (c_X3_move l κ σ _ _) mi_X3_move q_ml_RL_61 rfl rfl ⟨Nat.le_of_ble_eq_true rfl, Nat.le_of_ble_eq_true rfl⟩ (Nat.le_of_ble_eq_true rfl) hf dL_law_541 (fun r1 σ1 F1 th1 H1 locs1 hp1 hO1 => ?_)
  obtain rfl := pa_fst hp1
  obtain rfl := pa_snd hp1
  obtain ⟨hm, hr, hI1⟩ := move_ag hI (xs (6 * j + 1)) (xs (6 * j + 2))
  refine g_aload_n hC hl dL_law_544 rfl rfl ?_
  refine law_ld hW hO1.2.2.2.1 hl hj 1 (by decide) dL_law_545 dL_law_546 dL_law_547 (by decide) dL_law_548 dL_law_549 ?_
  refine law_ld hW hO1.2.2.2.1 hl hj 2 (by decide) dL_law_550 dL_law_551 dL_law_552 (by decide) dL_law_553 dL_law_554 ?_
  refine g_cVi2 hC hO1 hl (ci := 4) (co := 6) rfl (nn_lt (by decide)) rfl (c_X4_move l κ _ (hm.mb hI.1) _ _) mi_X4_move q_ml_RL_64 rfl rfl ⟨Nat.le_of_ble_eq_true rfl, Nat.le_of_ble_eq_true rfl⟩ (Nat.le_of_ble_eq_true rfl) hf dL_law_555 (fun r2 σ2 F2 th2 H2 locs2 hp2 hO2 => ?_)
  obtain rfl := pa_fst hp2
  obtain rfl := pa_snd hp2
  refine lv_icmp_eq (tgt := 639) hC.1 hC.2.1 dL_law_558 (by decide) (fun _ => ?_) (fun hne => absurd hr hne)
  exact kk κ _ _ _ _ _ hW rfl rfl hO2 hI1 (fr_move (hm.fr hF) _ _)
set_option maxHeartbeats 4000000 in
set_option maxRecDepth 100000 in
theorem arm_place (hW : LW p s m meth c b L xs κ) (hj : 6 * j + 6 ≤ L) (hl : LL ls 4 (LV b (kad κ 0) (kad κ 6) j)) (hO : OS κ s.heap σ F th H locs) (hI : Inv j σ) (hF : IFr σ) (hf : cells + 13 ≤ 600000 ∧ slots + 78 ≤ 7302250) (kk : LK p l e s m b below meth c Q L xs κ j cells slots ls) : W p l e room_1 s m #[Value.ref b] below meth c H locs cells slots Q (F0 m 563 ls []) := by
  have hC := hW.1
  have hj5 : j < 512 := by have := hW.2.2.2.2; omega
  refine W.widen (k := cells + 13) (n := slots + 78) (by omega) (by omega) ?_
  refine g_aload_n hC hl dL_law_563 rfl rfl ?_
  refine law_ld hW hO.2.2.2.1 hl hj 1 (by decide) dL_law_564 dL_law_565 dL_law_566 (by decide) dL_law_567 dL_law_568 ?_
  refine g_cVi1 hC hO hl (ci := 3) (co := 0) rfl (nn_lt (by decide)) rfl (c_X3_place l κ σ _) mi_X3_place q_ml_RL_65 rfl rfl ⟨Nat.le_of_ble_eq_true rfl, Nat.le_of_ble_eq_true rfl⟩ (Nat.le_of_ble_eq_true rfl) hf dL_law_569 (fun r1 σ1 F1 th1 H1 locs1 hp1 hO1 => ?_)
  obtain ⟨rfl, rfl⟩ := hp1
  have hr := place_eq hI (xs (6 * j + 1))
  refine g_aload_n hC hl dL_law_572 rfl rfl ?_
  refine law_ld hW hO1.2.2.2.1 hl hj 1 (by decide) dL_law_573 dL_law_574 dL_law_575 (by decide) dL_law_576 dL_law_577 ?_
  refine g_cVi1 hC hO1 hl (ci := 4) (co := 6) rfl (nn_lt (by decide)) rfl (c_X4_place l κ _ (hI.1) _) mi_X4_place q_ml_RL_68 rfl rfl ⟨Nat.le_of_ble_eq_true rfl, Nat.le_of_ble_eq_true rfl⟩ (Nat.le_of_ble_eq_true rfl) hf dL_law_578 (fun r2 σ2 F2 th2 H2 locs2 hp2 hO2 => ?_)
  obtain ⟨rfl, rfl⟩ := hp2
  refine lv_icmp_eq (tgt := 639) hC.1 hC.2.1 dL_law_581 (by decide) (fun _ => ?_) (fun hne => absurd hr hne)
  exact kk κ _ _ _ _ _ hW rfl rfl hO2 (hI.mono (Nat.le_succ j)) hF
set_option maxHeartbeats 4000000 in
set_option maxRecDepth 100000 in
theorem arm_tick (hW : LW p s m meth c b L xs κ) (hj : 6 * j + 6 ≤ L) (hl : LL ls 4 (LV b (kad κ 0) (kad κ 6) j)) (hO : OS κ s.heap σ F th H locs) (hI : Inv j σ) (hF : IFr σ) (hf : cells + 13 ≤ 600000 ∧ slots + 78 ≤ 7302250) (kk : LK p l e s m b below meth c Q L xs κ j cells slots ls) : W p l e room_1 s m #[Value.ref b] below meth c H locs cells slots Q (F0 m 586 ls []) := by
  have hC := hW.1
  have hj5 : j < 512 := by have := hW.2.2.2.2; omega
  refine W.widen (k := cells + 13) (n := slots + 78) (by omega) (by omega) ?_
  obtain ⟨n, n0, hn1, hn2, hn3, hn5, hn4, hA⟩ := tick_ag hI (lJ (xs (6 * j + 1)) (xs (6 * j + (1 + 1))))
  refine g_aload_n hC hl dL_law_586 rfl rfl ?_
  refine law_lj hW hO.2.2.2.1 hl hj 1 (by decide) dL_law_587 dL_law_588 dL_law_589 (by decide) dL_law_590 dL_law_591 dL_law_592 dL_law_593 dL_law_595 dL_law_596 dL_law_597 dL_law_598 (by decide) dL_law_599 dL_law_600 dL_law_601 dL_law_602 dL_law_605 dL_law_606 ?_
  refine g_cVi1 hC hO hl (ci := 3) (co := 0) rfl (nn_lt (by decide)) rfl (c_X3_tick l κ σ n hn3 (by omega) n0 hn5 hn2 _) mi_X3_tick q_ml_RL_69 rfl rfl ⟨Nat.le_of_ble_eq_true rfl, Nat.le_of_ble_eq_true rfl⟩ (Nat.le_of_ble_eq_true rfl) hf dL_law_607 (fun r1 σ1 F1 th1 H1 locs1 hp1 hO1 => ?_)
  obtain rfl := pa_fst hp1
  obtain rfl := pa_snd hp1
  obtain ⟨hm, hr, hI1⟩ := hA
  refine g_aload_n hC hl dL_law_610 rfl rfl ?_
  refine law_lj hW hO1.2.2.2.1 hl hj 1 (by decide) dL_law_611 dL_law_612 dL_law_613 (by decide) dL_law_614 dL_law_615 dL_law_616 dL_law_617 dL_law_619 dL_law_620 dL_law_621 dL_law_622 (by decide) dL_law_623 dL_law_624 dL_law_625 dL_law_626 dL_law_629 dL_law_630 ?_
  refine g_cVi1 hC hO1 hl (ci := 4) (co := 6) rfl (nn_lt (by decide)) rfl (c_X4_tick l κ _ n (by rw [hm.I 6]; exact hn4) (by omega) _) mi_X4_tick q_ml_RL_73 rfl rfl ⟨Nat.le_of_ble_eq_true rfl, Nat.le_of_ble_eq_true rfl⟩ (Nat.le_of_ble_eq_true rfl) hf dL_law_631 (fun r2 σ2 F2 th2 H2 locs2 hp2 hO2 => ?_)
  obtain rfl := pa_fst hp2
  obtain rfl := pa_snd hp2
  refine lv_icmp_eq (tgt := 639) hC.1 hC.2.1 dL_law_634 (by decide) (fun _ => ?_) (fun hne => absurd hr hne)
  exact kk κ _ _ _ _ _ hW rfl rfl hO2 hI1 (fr_tick (hm.fr hF) _ _)
end ARMS
