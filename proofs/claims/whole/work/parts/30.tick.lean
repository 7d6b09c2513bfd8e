/-! the two sides' answers: tick, weight, move -/
def Ag (N : Nat) (σ : ST) (x m : Int32 × ST) : Prop := mEq σ x.2 ∧ x.1 = m.1 ∧ Inv (N + 1) m.2
section STEP1
variable {σ : ST} {N : Nat}
theorem Ag.no (h : Inv N σ) (e : Int32) {x m : Int32 × ST} (hx : x = (e, σ)) (hm : m = (e, σ)) : Ag N σ x m := by
  subst hx
  subst hm
  exact ⟨mEq.refl σ, rfl, h.mono (Nat.le_succ N)⟩
theorem tellF_spec (n : Nat) (t : Int64) : ∀ f i, i + f = n → (∀ j, i ≤ j → j < tellF σ n t f i → sJ σ 5 j ≤ t) ∧ (tellF σ n t f i < n → ¬ sJ σ 5 (tellF σ n t f i) ≤ t) := by
  intro f
  induction f with
  | zero =>
    intro i hi
    refine ⟨fun j h1 h2 => ?_, fun h2 => ?_⟩
    · exact absurd h2 (by show ¬ j < i; omega)
    · exact absurd h2 (by show ¬ i < n; omega)
  | succ f ih =>
    intro i hi
    rw [tellF]
    by_cases c : i < n ∧ sJ σ 5 i ≤ t
    · rw [if_pos c]
      have q := ih (i + 1) (by omega)
      refine ⟨fun j h1 h2 => ?_, q.2⟩
      by_cases e : j = i
      · subst e; exact c.2
      · exact q.1 j (by omega) h2
    · rw [if_neg c]
      exact ⟨fun j h1 h2 => absurd h2 (by omega), fun h2 h3 => c ⟨h2, h3⟩⟩
theorem tkN_min {told t : Int64} {a T c : Nat} (haT : a ≤ T) (h1 : ∀ i, i < c → (i < a ↔ sJ σ 23 i ≤ told)) (h2 : ∀ i, i < c → (i < T ↔ sJ σ 23 i ≤ t)) : ∀ n, n ≤ c → tkN σ told t n + min n a = min n T := by
  intro n
  induction n with
  | zero => intro _; simp [tkN]
  | succ n ih =>
    intro hn
    have ih := ih (by omega)
    have b1 := h1 n (by omega)
    have b2 := h2 n (by omega)
    rw [tkN]
    by_cases c1 : told < sJ σ 23 n
    · have f1 : ¬ n < a := fun q => Int64.not_le.mpr c1 (b1.mp q)
      by_cases c2 : sJ σ 23 n ≤ t
      · rw [if_pos ⟨c1, c2⟩]
        have f2 := b2.mpr c2
        omega
      · rw [if_neg (fun q => c2 q.2)]
        have f2 : ¬ n < T := fun q => c2 (b2.mp q)
        omega
    · rw [if_neg (fun q => c1 q.1)]
      have f1 := b1.mpr (Int64.not_lt.mp c1)
      omega
theorem tick_ag (h : Inv N σ) (t : Int64) : ∃ c a : Nat, c ≤ N ∧ a ≤ c ∧ sI σ 4 1 = nI c ∧ sI σ 4 2 = nI a ∧ sI σ 6 21 = nI c ∧ Ag N σ (xTick σ c a t) (mTick (xTick σ c a t).2 c t) := by
  obtain ⟨hM, i1, i2, i3, i4, i5, i6, i7, i8, i9, c, a, c1, c2, h1, h2, h3, h4, h5, h6, h7, h8, h9, h10⟩ := id h
  refine ⟨c, a, c1, c2, h1, h3, h2, ?_⟩
  by_cases q1 : t < sJ σ 0 5
  · have ex : xTick σ c a t = (-12, σ) := by unfold xTick; rw [if_pos q1]
    refine Ag.no h (-12) ex ?_
    rw [ex]
    unfold mTick
    rw [if_pos (by rw [← h4]; exact q1)]
  · by_cases q2 : t ≤ 1000000000000
    · have ex : xTick σ c a t = (nI (tellF (upJ σ 0 5 t) c t (c - a) a - a), upI (upJ σ 0 5 t) 4 2 (nI (tellF (upJ σ 0 5 t) c t (c - a) a))) := by unfold xTick; rw [if_neg q1, if_neg (fun q => q q2)]
      have e5 : sJ (upJ σ 0 5 t) 5 = sJ σ 5 := by simp [ev1, ev2, ev3, ev4, ev5, ev6, ev7, ev8, ev9, ev10, ev11, ev12, ev13, ev14, ev15, ev16, ev17, ev18, evr0, evr1, evr2, evr3, evr4, evr5, evr6, evr7, evr8, evr9, evr10, evr11, evr12, evr13, evr14, evr15, evr16, evr17, evr18, evr19, evr20, evr21, evr22, evr23, evs0, evs1, evs2, evs3, evs4, evs5, evs6, evs7, evs8, evs9, evs10, evs11, evs12, evs13, evs14, evs15, evs16, evs17, evs18, evs19, evs20, evs21, evs22, evs23, mNote_I, mNote_J, mNote_R, mNote_c, noteS_I, noteS_J, noteS_R, noteS_c, updA, updB, appR, remR, mPut, mShut, shutS, unseal1, mUns, mBring]
      have hs := tellF_spec (σ := upJ σ 0 5 t) c t (c - a) a (by omega)
      have hge := tellF_ge (upJ σ 0 5 t) c t (c - a) a
      have hle := tellF_le (upJ σ 0 5 t) c t (c - a) a c2
      rw [ex]
      generalize tellF (upJ σ 0 5 t) c t (c - a) a = T at *
      rw [e5] at hs
      have ht0 : sJ σ 6 19 ≤ t := by rw [← h4]; exact Int64.not_lt.mp q1
      have hT : ∀ i, i < c → (i < T ↔ sJ σ 23 i ≤ t) := by
        intro i hi
        constructor
        · intro q
          by_cases ia : i < a
          · exact Int64.le_trans ((h10 i hi).mp ia) (Int64.le_trans h7 ht0)
          · rw [← (h8 i hi).1]
            exact hs.1 i (by omega) q
        · intro q
          rcases Nat.lt_or_ge i T with z | z
          · exact z
          · exfalso
            refine hs.2 (by omega) ?_
            rw [(h8 T (by omega)).1]
            by_cases e : T = i
            · rw [e]; exact q
            · exact Int64.le_trans (h9 T i (by omega) hi) q
      have em : mTick (upI (upJ σ 0 5 t) 4 2 (nI T)) c t = (nI (tkN (upI (upJ σ 0 5 t) 4 2 (nI T)) (sJ σ 6 20) t c), upJ (upJ (upI (upJ σ 0 5 t) 4 2 (nI T)) 6 19 t) 6 20 t) := by
        unfold mTick
        have e19 : sJ (upI (upJ σ 0 5 t) 4 2 (nI T)) 6 = sJ σ 6 := by simp [ev1, ev2, ev3, ev4, ev5, ev6, ev7, ev8, ev9, ev10, ev11, ev12, ev13, ev14, ev15, ev16, ev17, ev18, evr0, evr1, evr2, evr3, evr4, evr5, evr6, evr7, evr8, evr9, evr10, evr11, evr12, evr13, evr14, evr15, evr16, evr17, evr18, evr19, evr20, evr21, evr22, evr23, evs0, evs1, evs2, evs3, evs4, evs5, evs6, evs7, evs8, evs9, evs10, evs11, evs12, evs13, evs14, evs15, evs16, evs17, evs18, evs19, evs20, evs21, evs22, evs23, mNote_I, mNote_J, mNote_R, mNote_c, noteS_I, noteS_J, noteS_R, noteS_c, updA, updB, appR, remR, mPut, mShut, shutS, unseal1, mUns, mBring]
        rw [e19, if_neg (fun q => Int64.not_le.mpr q ht0), if_neg (fun q => q q2)]
      have ek : ∀ n, tkN (upI (upJ σ 0 5 t) 4 2 (nI T)) (sJ σ 6 20) t n = tkN σ (sJ σ 6 20) t n := by
        intro n
        have e23 : sJ (upI (upJ σ 0 5 t) 4 2 (nI T)) 23 = sJ σ 23 := by simp [ev1, ev2, ev3, ev4, ev5, ev6, ev7, ev8, ev9, ev10, ev11, ev12, ev13, ev14, ev15, ev16, ev17, ev18, evr0, evr1, evr2, evr3, evr4, evr5, evr6, evr7, evr8, evr9, evr10, evr11, evr12, evr13, evr14, evr15, evr16, evr17, evr18, evr19, evr20, evr21, evr22, evr23, evs0, evs1, evs2, evs3, evs4, evs5, evs6, evs7, evs8, evs9, evs10, evs11, evs12, evs13, evs14, evs15, evs16, evs17, evs18, evs19, evs20, evs21, evs22, evs23, mNote_I, mNote_J, mNote_R, mNote_c, noteS_I, noteS_J, noteS_R, noteS_c, updA, updB, appR, remR, mPut, mShut, shutS, unseal1, mUns, mBring]
        induction n with
        | zero => rfl
        | succ n ih => rw [tkN, tkN, ih, e23]
      rw [em, ek]
      refine ⟨(mEq.upJ σ _ _ (Or.inl (by decide))).trans (mEq.upI _ _ _ (Or.inl (by decide))), ?_, ?_⟩
      · have k := tkN_min (σ := σ) (told := sJ σ 6 20) (t := t) hge h10 hT c (Nat.le_refl _)
        show nI (T - a) = nI (tkN σ (sJ σ 6 20) t c)
        rw [show tkN σ (sJ σ 6 20) t c = T - a by omega]
      · refine ⟨hM.cg, i1.cg, (i2.mono (Nat.le_succ N)).cg, i3.cg, i4.cg, i5.cg, i6.cg, i7.cg, i8.cg, i9.cg, ?_⟩
        have g4 : sI (upJ (upJ (upI (upJ σ 0 5 t) 4 2 (nI T)) 6 19 t) 6 20 t) 4 = upd (sI σ 4) 2 (nI T) := by simp [ev1, ev2, ev3, ev4, ev5, ev6, ev7, ev8, ev9, ev10, ev11, ev12, ev13, ev14, ev15, ev16, ev17, ev18, evr0, evr1, evr2, evr3, evr4, evr5, evr6, evr7, evr8, evr9, evr10, evr11, evr12, evr13, evr14, evr15, evr16, evr17, evr18, evr19, evr20, evr21, evr22, evr23, evs0, evs1, evs2, evs3, evs4, evs5, evs6, evs7, evs8, evs9, evs10, evs11, evs12, evs13, evs14, evs15, evs16, evs17, evs18, evs19, evs20, evs21, evs22, evs23, mNote_I, mNote_J, mNote_R, mNote_c, noteS_I, noteS_J, noteS_R, noteS_c, updA, updB, appR, remR, mPut, mShut, shutS, unseal1, mUns, mBring]
        have g6 : sI (upJ (upJ (upI (upJ σ 0 5 t) 4 2 (nI T)) 6 19 t) 6 20 t) 6 = sI σ 6 := by simp [ev1, ev2, ev3, ev4, ev5, ev6, ev7, ev8, ev9, ev10, ev11, ev12, ev13, ev14, ev15, ev16, ev17, ev18, evr0, evr1, evr2, evr3, evr4, evr5, evr6, evr7, evr8, evr9, evr10, evr11, evr12, evr13, evr14, evr15, evr16, evr17, evr18, evr19, evr20, evr21, evr22, evr23, evs0, evs1, evs2, evs3, evs4, evs5, evs6, evs7, evs8, evs9, evs10, evs11, evs12, evs13, evs14, evs15, evs16, evs17, evs18, evs19, evs20, evs21, evs22, evs23, mNote_I, mNote_J, mNote_R, mNote_c, noteS_I, noteS_J, noteS_R, noteS_c, updA, updB, appR, remR, mPut, mShut, shutS, unseal1, mUns, mBring]
        have j0 : sJ (upJ (upJ (upI (upJ σ 0 5 t) 4 2 (nI T)) 6 19 t) 6 20 t) 0 = vp_updL (sJ σ 0) 5 t := by simp [ev1, ev2, ev3, ev4, ev5, ev6, ev7, ev8, ev9, ev10, ev11, ev12, ev13, ev14, ev15, ev16, ev17, ev18, evr0, evr1, evr2, evr3, evr4, evr5, evr6, evr7, evr8, evr9, evr10, evr11, evr12, evr13, evr14, evr15, evr16, evr17, evr18, evr19, evr20, evr21, evr22, evr23, evs0, evs1, evs2, evs3, evs4, evs5, evs6, evs7, evs8, evs9, evs10, evs11, evs12, evs13, evs14, evs15, evs16, evs17, evs18, evs19, evs20, evs21, evs22, evs23, mNote_I, mNote_J, mNote_R, mNote_c, noteS_I, noteS_J, noteS_R, noteS_c, updA, updB, appR, remR, mPut, mShut, shutS, unseal1, mUns, mBring]
        have j5 : sJ (upJ (upJ (upI (upJ σ 0 5 t) 4 2 (nI T)) 6 19 t) 6 20 t) 5 = sJ σ 5 := by simp [ev1, ev2, ev3, ev4, ev5, ev6, ev7, ev8, ev9, ev10, ev11, ev12, ev13, ev14, ev15, ev16, ev17, ev18, evr0, evr1, evr2, evr3, evr4, evr5, evr6, evr7, evr8, evr9, evr10, evr11, evr12, evr13, evr14, evr15, evr16, evr17, evr18, evr19, evr20, evr21, evr22, evr23, evs0, evs1, evs2, evs3, evs4, evs5, evs6, evs7, evs8, evs9, evs10, evs11, evs12, evs13, evs14, evs15, evs16, evs17, evs18, evs19, evs20, evs21, evs22, evs23, mNote_I, mNote_J, mNote_R, mNote_c, noteS_I, noteS_J, noteS_R, noteS_c, updA, updB, appR, remR, mPut, mShut, shutS, unseal1, mUns, mBring]
        have j23 : sJ (upJ (upJ (upI (upJ σ 0 5 t) 4 2 (nI T)) 6 19 t) 6 20 t) 23 = sJ σ 23 := by simp [ev1, ev2, ev3, ev4, ev5, ev6, ev7, ev8, ev9, ev10, ev11, ev12, ev13, ev14, ev15, ev16, ev17, ev18, evr0, evr1, evr2, evr3, evr4, evr5, evr6, evr7, evr8, evr9, evr10, evr11, evr12, evr13, evr14, evr15, evr16, evr17, evr18, evr19, evr20, evr21, evr22, evr23, evs0, evs1, evs2, evs3, evs4, evs5, evs6, evs7, evs8, evs9, evs10, evs11, evs12, evs13, evs14, evs15, evs16, evs17, evs18, evs19, evs20, evs21, evs22, evs23, mNote_I, mNote_J, mNote_R, mNote_c, noteS_I, noteS_J, noteS_R, noteS_c, updA, updB, appR, remR, mPut, mShut, shutS, unseal1, mUns, mBring]
        have j6 : sJ (upJ (upJ (upI (upJ σ 0 5 t) 4 2 (nI T)) 6 19 t) 6 20 t) 6 = vp_updL (vp_updL (sJ σ 6) 19 t) 20 t := by simp [ev1, ev2, ev3, ev4, ev5, ev6, ev7, ev8, ev9, ev10, ev11, ev12, ev13, ev14, ev15, ev16, ev17, ev18, evr0, evr1, evr2, evr3, evr4, evr5, evr6, evr7, evr8, evr9, evr10, evr11, evr12, evr13, evr14, evr15, evr16, evr17, evr18, evr19, evr20, evr21, evr22, evr23, evs0, evs1, evs2, evs3, evs4, evs5, evs6, evs7, evs8, evs9, evs10, evs11, evs12, evs13, evs14, evs15, evs16, evs17, evs18, evs19, evs20, evs21, evs22, evs23, mNote_I, mNote_J, mNote_R, mNote_c, noteS_I, noteS_J, noteS_R, noteS_c, updA, updB, appR, remR, mPut, mShut, shutS, unseal1, mUns, mBring]
        show IN (N + 1) (upJ (upJ (upI (upJ σ 0 5 t) 4 2 (nI T)) 6 19 t) 6 20 t)
        unfold IN
        rw [g4, g6, j0, j5, j23, j6, updL_s, updL_s, updL_n _ _ (by decide : 19 ≠ 20), updL_s, upd_s, upd_n _ _ (by decide : 1 ≠ 2)]
        have t12 : t.toInt ≤ 1000000000000 := Int64.le_iff_toInt_le.mp q2
        have t0 := Int64.le_iff_toInt_le.mp ht0
        refine ⟨c, T, by omega, hle, h1, h2, rfl, rfl, by omega, t12, Int64.le_refl _, fun i hi => ⟨(h8 i hi).1, ?_⟩, h9, hT⟩
        have := (h8 i hi).2
        omega
    · have ex : xTick σ c a t = (-12, σ) := by unfold xTick; rw [if_neg q1, if_pos q2]
      refine Ag.no h (-12) ex ?_
      rw [ex]
      unfold mTick
      rw [if_neg (by rw [← h4]; exact q1), if_pos q2]
end STEP1
