/-! the model's part is left alone by the class's methods -/
def mEq (σ σ' : ST) : Prop := σ'.1 = σ.1 ∧ (∀ c, 6 ≤ c → c < 24 → sI σ' c = sI σ c) ∧ ∀ c, 6 ≤ c → c < 24 → sJ σ' c = sJ σ c
theorem mEq.refl (σ : ST) : mEq σ σ := ⟨rfl, fun _ _ _ => rfl, fun _ _ _ => rfl⟩
theorem mEq.trans {σ σ' σ'' : ST} (h : mEq σ σ') (h2 : mEq σ' σ'') : mEq σ σ'' := ⟨h2.1.trans h.1, fun c a b => (h2.2.1 c a b).trans (h.2.1 c a b), fun c a b => (h2.2.2 c a b).trans (h.2.2 c a b)⟩
theorem mEq.upI (σ : ST) {co : Nat} (i : Nat) (x : Int32) (h : co < 6 ∨ 24 ≤ co) : mEq σ (upI σ co i x) := ⟨rfl, fun c a b => by rw [sIf_upI, if_neg (by omega)], fun _ _ _ => rfl⟩
theorem mEq.upJ (σ : ST) {co : Nat} (i : Nat) (x : Int64) (h : co < 6 ∨ 24 ≤ co) : mEq σ (upJ σ co i x) := ⟨rfl, fun _ _ _ => rfl, fun c a b => by rw [sJf_upJ, if_neg (by omega)]⟩
theorem mEq.upR (σ : ST) (co : Nat) (r : List Int32) : mEq σ (upR σ co r) := ⟨rfl, fun _ _ _ => rfl, fun _ _ _ => rfl⟩
theorem rb_24 (k : Nat) : 24 ≤ rb k := by unfold rb; omega
theorem mEq.setHold (σ : ST) (t h : Int32) : mEq σ (setHoldF σ t h) := by
  unfold setHoldF
  split
  · exact mEq.refl σ
  · split
    · exact mEq.refl σ
    · exact mEq.upI σ _ _ (Or.inl (by decide))
theorem mEq.setOwn (σ : ST) (t h : Int32) : mEq σ (setOwnF σ t h) := by
  unfold setOwnF
  split
  · exact mEq.refl σ
  · split
    · exact mEq.refl σ
    · exact mEq.upI σ _ _ (Or.inl (by decide))
theorem mEq.app (σ : ST) (k j : Nat) (t : Int32) : mEq σ (appR σ k j t) := mEq.upR _ _ _
theorem mEq.rem (σ : ST) (k j : Nat) (t : Int32) : mEq σ (remR σ k j t) := mEq.upR _ _ _
theorem mEq.note (σ : ST) (d : Int64) : mEq σ (noteS σ d) := (mEq.upJ σ _ _ (Or.inl (by decide))).trans (mEq.upI _ _ _ (Or.inl (by decide)))
theorem mEq.putIn (σ : ST) (k : Nat) (b t : Int32) : mEq σ (putInS σ k b t) := (mEq.app σ k 0 t).trans (mEq.setHold _ _ _)
theorem mEq.takeOut (σ : ST) (t : Int32) : mEq σ (takeOutS σ t) := by
  unfold takeOutS
  split
  · exact mEq.refl σ
  · exact ((mEq.setOwn σ _ _).trans (mEq.rem _ _ _ _)).trans (mEq.setHold _ _ _)
theorem mEq.shut (σ : ST) (k : Nat) (q : Int64) (w : Int32) : mEq σ (shutS σ k q w) := by
  unfold shutS
  exact (((((mEq.upI σ _ _ (Or.inr (rb_24 k))).trans (mEq.upI _ _ _ (Or.inr (rb_24 k)))).trans (mEq.upJ _ _ _ (Or.inr (rb_24 k)))).trans (mEq.upI _ _ _ (Or.inr (rb_24 k)))).trans (mEq.upR _ _ _)).trans (mEq.upR _ _ _)
theorem mEq.unseal1 (σ : ST) (k : Nat) : mEq σ (unseal1 σ k) := by
  exact (((mEq.upI σ _ _ (Or.inr (rb_24 k))).trans (mEq.upR _ _ _)).trans (mEq.upR _ _ _)).trans (mEq.upR _ _ _)
theorem mEq.unseal (σ : ST) (k : Nat) (q : Int64) : mEq σ (unsealS σ k q) := by
  unfold unsealS
  split
  · exact mEq.unseal1 σ k
  · exact (mEq.unseal1 σ k).trans (mEq.upR _ _ _)
theorem mEq.fe (σ : ST) (k : Nat) (t : Int32) : mEq σ (feS σ k t) := (mEq.app σ k 5 t).trans (mEq.note _ _)
section MEQ
variable {σ σ' : ST} {N : Nat}
theorem mEq.rec (h : mEq σ σ') (b : Int32) : recOf σ' b = recOf σ b := by unfold recOf; rw [h.1]
theorem mEq.thing (h : mEq σ σ') (b : Int32) : thingB σ' b = thingB σ b := by unfold thingB; rw [h.rec]
theorem mEq.I (h : mEq σ σ') (c : Nat) (h1 : 6 ≤ c := by decide) (h2 : c < 24 := by decide) : sI σ' c = sI σ c := h.2.1 c h1 h2
theorem mEq.J (h : mEq σ σ') (c : Nat) (h1 : 6 ≤ c := by decide) (h2 : c < 24 := by decide) : sJ σ' c = sJ σ c := h.2.2 c h1 h2
theorem mEq.mk (h : mEq σ σ') (b : Int32) : mkF σ' b = mkF σ b := by unfold mkF; rw [h.rec, h.I 10]
theorem mEq.anc (h : mEq σ σ') (f : Nat) (r : Int32) : ancR σ' f r = ancR σ f r := ancR_congr (fun t => by rw [h.I 7]) f r
theorem mEq.lie (h : mEq σ σ') (t : Nat) (b : Int32) : lieB σ' t b = lieB σ t b := by unfold lieB; rw [h.I 7, h.anc]
theorem mEq.cl (h : mEq σ σ') : clB σ' = clB σ := by funext r; unfold clB; rw [h.I 11]
theorem mEq.shutIn (h : mEq σ σ') (t : Nat) : shutInB σ' t = shutInB σ t := by unfold shutInB; rw [h.I 7, h.anc, h.cl]
theorem mEq.cnt (h : mEq σ σ') (b : Int32) : ∀ n, cntN σ' b n = cntN σ b n := by
  intro n
  induction n with
  | zero => rfl
  | succ n ih => rw [cntN, cntN, ih, h.I 7]
theorem mEq.lp (h : mEq σ σ') (k : Nat) (t : Int32) : ∀ n, lpF σ' k t n = lpF σ k t n := by
  intro n
  induction n with
  | zero => rfl
  | succ n ih => rw [lpF, lpF, ih, h.I 17]
theorem mEq.ex (h : mEq σ σ') (k : Nat) (t : Int32) : ∀ n, exF σ' k t n = exF σ k t n := by
  intro n
  induction n with
  | zero => rfl
  | succ n ih => rw [exF, exF, ih, h.I 20]
theorem mEq.brc (h : mEq σ σ') (t x : Nat) : brC σ' t x = brC σ t x := by unfold brC; rw [h.thing, h.lie]
theorem mEq.brn (h : mEq σ σ') (t : Nat) : ∀ n, brN σ' t n = brN σ t n := by
  intro n
  induction n with
  | zero => rfl
  | succ n ih => rw [brN, brN, ih, h.brc]
theorem mEq.ownm (h : mEq σ σ') (t : Nat) : ownM σ' t = ownM σ t := by unfold ownM; rw [h.I 10]
theorem mEq.mw (h : mEq σ σ') (b : Nat) : ∀ n, mws σ' b n = mws σ b n := by
  intro n
  induction n with
  | zero => rw [mws, mws, h.ownm]
  | succ n ih => rw [mws, mws, ih, h.lie, h.ownm]
theorem mEq.mis (h : mEq σ σ') (k : Nat) : ∀ n, misL σ' k n = misL σ k n := by
  intro n
  induction n with
  | zero => rfl
  | succ n ih => rw [misL, misL, ih, h.I 17, h.I 18]
theorem mEq.ppl (h : mEq σ σ') (k : Nat) (a c : Int32) : pplB σ' k a c = pplB σ k a c := by unfold pplB; rw [h.I 10, h.I 14]
theorem mEq.mb (h : mEq σ σ') (hM : MB σ) : MB σ' := by
  unfold MB at *
  rw [h.1, h.I 6, h.I 7, h.I 10]
  exact hM
theorem mEq.ml (h : mEq σ σ') (hM : ML σ) : ML σ' := by
  unfold ML lnS exS weS at *
  rw [h.1, h.I 16, h.I 19, h.I 21]
  exact hM
theorem mEq.lns (h : mEq σ σ') (k : Nat) : lnS σ' k = lnS σ k := by unfold lnS; rw [h.I 16]
theorem mEq.exs (h : mEq σ σ') (k : Nat) : exS σ' k = exS σ k := by unfold exS; rw [h.I 19]
theorem mEq.wes (h : mEq σ σ') (k : Nat) : weS σ' k = weS σ k := by unfold weS; rw [h.I 21]
theorem mEq.row (h : mEq σ σ') {b : Int32} {l : List Int32} (hr : RowM σ b l) : RowM σ' b l := by
  unfold RowM at *
  rw [h.I 7, h.I 8]
  exact hr
theorem Inv.ml (h : Inv N σ) : ML σ := by
  obtain ⟨-, -, -, -, -, h5, -, h7, -, h9, -⟩ := h
  intro k hk
  have a := h5 k hk
  have b := h7 k hk
  have c := h9 k hk
  have ea : lnS σ k = (sR σ (rc k 1)).length := by unfold lnS; rw [a.1, nI_clamp (by omega)]
  have eb : exS σ k = (sR σ (rc k 5)).length := by unfold exS; rw [b.1, nI_clamp (by omega)]
  have ec : weS σ k = (sR σ (rc k 3)).length := by unfold weS; rw [c.1, nI_clamp (by omega)]
  rw [ea, eb, ec]
  exact ⟨a.1, a.2.1, b.1, b.2.1, c.1, c.2.1⟩
theorem Inv.mono {M : Nat} (h : Inv N σ) (hM : N ≤ M) : Inv M σ := by
  obtain ⟨a1, a2, ⟨⟨m, b1, b2⟩, b3⟩, a4, a5, a6, a7, a8, a9, a10, ⟨c, a, c1, c2⟩⟩ := h
  exact ⟨a1, a2, ⟨⟨m, by omega, b2⟩, b3⟩, a4, a5, a6, a7, a8, a9, a10, ⟨c, a, by omega, c2⟩⟩
theorem Inv.n60 (h : Inv N σ) : σ.1 ≤ 60 := h.1.2.1
end MEQ
