/-! found: the order of the two sides' writes -/
section FZ
variable {P : ST}
theorem fe_I (σ : ST) (k : Nat) (t : Int32) (c : Nat) : sI (feS σ k t) c = if c = 4 then upd (sI σ 4) 1 (sI σ 4 1 + 1) else sI σ c := by
  unfold feS
  rw [noteS_I]
  exact id rfl
theorem fe_J (σ : ST) (k : Nat) (t : Int32) (c : Nat) : sJ (feS σ k t) c = if c = 5 then vp_updL (sJ σ 5) (sI σ 4 1).toNatClampNeg (timeS σ) else sJ σ c := by
  unfold feS
  rw [noteS_J]
  exact id rfl
theorem fe_R (σ : ST) (k : Nat) (t : Int32) : sR (feS σ k t) = sR (appR σ k 5 t) := id rfl
theorem put_I (σ : ST) (b : Int32) (t c : Nat) : sI (mPut σ b t) c = if c = 8 then upd (sI σ 8) t (sI σ 6 4 + 1) else if c = 6 then upd (sI σ 6) 4 (sI σ 6 4 + 1) else if c = 7 then upd (sI σ 7) t b else sI σ c := by
  unfold mPut
  rw [ev1, ev1, ev1, ev1, ev1, ev1, ev1]
  simp
theorem bring_I (σ : ST) (t : Nat) (w : Int32) (c : Nat) : sI (mBring σ t w) c = if c = 9 then brP σ t w 1061 else sI σ c := ev10 _ _ _ _
theorem put_mEq (σ σ2 : ST) (h : mEq σ σ2) (b : Int32) (t : Nat) : mEq (mPut σ b t) (mPut σ2 b t) := by
  refine ⟨h.1, fun c h1 h2 => ?_, fun c h1 h2 => h.2.2 c h1 h2⟩
  rw [put_I, put_I, h.I 8, h.I 6, h.I 7, h.2.1 c h1 h2]
theorem brP_mEq {σ σ2 : ST} (h : mEq σ σ2) (t : Nat) (w : Int32) (i : Nat) : brP σ2 t w i = brP σ t w i := by
  funext x
  unfold brP
  rw [h.brc, h.I 9]
theorem move_order (k t : Nat) (x b w : Int32) : mBring (mPut (feS P k x) b t) t w = feS (mBring (mPut P b t) t w) k x := by
  refine st_ext (id rfl) (fun c => ?_) (fun c => ?_) (fun c => ?_)
  · rw [bring_I, brP_mEq (put_mEq P (feS P k x) (mEq.fe P k x) b t), put_I, fe_I, fe_I, fe_I, fe_I, fe_I, bring_I, bring_I, put_I, put_I]
    by_cases c4 : c = 4
    · rw [c4]; simp
    · rw [if_neg c4, if_neg c4]
      simp
  · have e1 : sJ (mBring (mPut (feS P k x) b t) t w) = sJ (feS P k x) := id rfl
    have e2 : sJ (mBring (mPut P b t) t w) = sJ P := id rfl
    have e3 : timeS (mBring (mPut P b t) t w) = timeS P := id rfl
    have e4 : sI (mBring (mPut P b t) t w) 4 = sI P 4 := by rw [bring_I, if_neg (by decide), put_I, if_neg (by decide), if_neg (by decide), if_neg (by decide)]
    rw [e1, fe_J, fe_J, e2, e3, e4]
  · exact id rfl
end FZ
