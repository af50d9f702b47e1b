/-! ===== phase 2: words ===== -/
theorem TkR.keep {I I1 : Mem} {K K1 : MJ} {a g : Nat} (h : TkR I K a g) (hc : ∀ k, k < 7 → I1 a k = I a k) (hb : I1 (a + 1) = I (a + 1)) (hm : ∀ k, 24 ≤ k → k ≤ 29 → K1.1 g k = K.1 g k) (hmB : K1.1 (g + 20) = K.1 (g + 20)) (hJ : K1.2 g 30 = K.2 g 30) : TkR I1 K1 a g := by
  obtain ⟨⟨h1, h2, h3, h4, h5⟩, ⟨h6, h7, h8, h9⟩, h10, h11⟩ := h
  have c2 := hc 2 (by omega)
  have c3 := hc 3 (by omega)
  have c4 := hc 4 (by omega)
  have c5 := hc 5 (by omega)
  have c6 := hc 6 (by omega)
  have eE : kE I1 a = kE I a := by rw [kE, kE, c2]
  have eA : kA I1 a = kA I a := by rw [kA, kA, c5]
  have eN : kN I1 a = kN I a := by rw [kN, kN, c3]
  have m1 : mEn K1.1 g = mEn K.1 g := by rw [mEn, mEn, hm _ (by omega) (by omega)]
  have m2 : mAt K1.1 g = mAt K.1 g := by rw [mAt, mAt, hm _ (by omega) (by omega)]
  refine ⟨⟨h1.keep c2 c3 c5, h2.keep (hm _ (by omega) (by omega)) (hm _ (by omega) (by omega)) (fun k => congrFun hmB k), by rw [eE, m1]; exact h3, by rw [hb, hmB]; exact h4, by rw [c5, hm _ (by omega) (by omega)]; exact h5⟩, ⟨?_, ?_, ?_, ?_⟩, ?_, ?_⟩
  · rw [c4, hm _ (by omega) (by omega)]; exact h6
  · rw [c4, hm _ (by omega) (by omega)]; exact h7
  · rw [c4, c6, hm _ (by omega) (by omega)]; exact h8
  · rw [c4, hb, eA, eN, hJ]; exact h9
  · rw [c4, eN, m2]; exact h10
  · rw [c4]; exact h11
section TK
variable {I : Mem} {K : MJ} {a g : Nat}
theorem tk_sort2 (h : TkR I K a g) : K.1 g 26 = 2 ↔ I a 4 = 1 := by
  rw [h.2.1.1]
  rcases h.2.2.2 with z | z | z | z | z | z | z <;> rw [z] <;> decide
theorem tk_sort3 (h : TkR I K a g) : K.1 g 26 = 3 ↔ I a 4 = 2 := by
  rw [h.2.1.1]
  rcases h.2.2.2 with z | z | z | z | z | z | z <;> rw [z] <;> decide
theorem tk_sort1 (h : TkR I K a g) : K.1 g 26 = 1 ↔ I a 4 = 0 := by
  rw [h.2.1.1]
  rcases h.2.2.2 with z | z | z | z | z | z | z <;> rw [z] <;> decide
theorem tk_is (h : TkR I K a g) : (mIs K.1 g 60 = true ↔ I a 4 = 3) ∧ (mIs K.1 g 62 = true ↔ I a 4 = 4) ∧ (mIs K.1 g 59 = true ↔ I a 4 = 5) := by
  have h1 := h.2.1.1
  have h2 := h.2.1.2.1
  simp only [mIs, Bool.and_eq_true, decide_eq_true_eq]
  rw [h1]
  rcases h.2.2.2 with z | z | z | z | z | z | z
  · rw [z]; refine ⟨⟨fun q => absurd q.1 (by decide), fun q => absurd q (by decide)⟩, ⟨fun q => absurd q.1 (by decide), fun q => absurd q (by decide)⟩, ⟨fun q => absurd q.1 (by decide), fun q => absurd q (by decide)⟩⟩
  · rw [z]; refine ⟨⟨fun q => absurd q.1 (by decide), fun q => absurd q (by decide)⟩, ⟨fun q => absurd q.1 (by decide), fun q => absurd q (by decide)⟩, ⟨fun q => absurd q.1 (by decide), fun q => absurd q (by decide)⟩⟩
  · rw [z]; refine ⟨⟨fun q => absurd q.1 (by decide), fun q => absurd q (by decide)⟩, ⟨fun q => absurd q.1 (by decide), fun q => absurd q (by decide)⟩, ⟨fun q => absurd q.1 (by decide), fun q => absurd q (by decide)⟩⟩
  · rw [h2 (Or.inl z), z]; decide
  · rw [h2 (Or.inr (Or.inl z)), z]; decide
  · rw [h2 (Or.inr (Or.inr z)), z]; decide
  · rw [z]; refine ⟨⟨fun q => absurd q.1 (by decide), fun q => absurd q (by decide)⟩, ⟨fun q => absurd q.1 (by decide), fun q => absurd q (by decide)⟩, ⟨fun q => absurd q.1 (by decide), fun q => absurd q (by decide)⟩⟩
theorem wAct_eq (h : TkR I K a g) : wAct (isW I a) = wAct (mIsW K.1 K.2 g) := by
  rw [wAct, wAct, isW_eq h (by decide), isW_eq h (by decide), isW_eq h (by decide), isW_eq h (by decide)]
theorem wName_eq (h : TkR I K a g) : wName (isW I a) = wName (mIsW K.1 K.2 g) := by
  rw [wName, wName, isW_eq h (by decide), isW_eq h (by decide), isW_eq h (by decide), isW_eq h (by decide), isW_eq h (by decide), isW_eq h (by decide), isW_eq h (by decide), isW_eq h (by decide), isW_eq h (by decide), isW_eq h (by decide), isW_eq h (by decide)]
theorem isW_kind {bs : List Int32} (h : isW I a bs = true) : I a 4 = 1 := by
  rw [isW, tkWord, Bool.and_eq_true, decide_eq_true_eq] at h
  exact h.1
def kwNe (b1 b2 : List Int32) : Bool := !(decide (b1.length = b2.length) && (List.range b1.length).all fun i => decide (b1.getD i 0 &&& 255 = b2.getD i 0 &&& 255))
theorem isW_ne {b1 b2 : List Int32} (hn : kwNe b1 b2 = true) (h : isW I a b1 = true) : isW I a b2 = false := by
  rcases hb : isW I a b2 with _ | _
  · rfl
  · rw [isW, tkWord, Bool.and_eq_true, Bool.and_eq_true, decide_eq_true_eq, decide_eq_true_eq, List.all_eq_true] at h hb
    exfalso
    have e : (decide (b1.length = b2.length) && (List.range b1.length).all fun i => decide (b1.getD i 0 &&& 255 = b2.getD i 0 &&& 255)) = true := by
      rw [Bool.and_eq_true, decide_eq_true_eq, List.all_eq_true]
      refine ⟨h.2.1.symm.trans hb.2.1, fun i hi => decide_eq_true ?_⟩
      have i1 := of_decide_eq_true (h.2.2 i hi)
      have i2 := of_decide_eq_true (hb.2.2 i (by rw [← hb.2.1, h.2.1]; exact hi))
      exact i1.symm.trans i2
    rw [kwNe, e] at hn
    cases hn
def nmL : List (List Int32) := [kw_run, kw_rest, kw_weak, kw_mean, kw_cold, kw_meals, kw_dogs, kw_left, kw_hour, kw_post, kw_load]
theorem wName_in {W : List Int32 → Bool} (h : ¬ wName W = -1) : ∃ b ∈ nmL, W b = true := by
  rcases Classical.em (∃ b ∈ nmL, W b = true) with z | z
  · exact z
  · have f : ∀ b ∈ nmL, W b = false := fun b hb => by
      rcases hw : W b with _ | _
      · rfl
      · exact absurd ⟨b, hb, hw⟩ z
    exfalso
    apply h
    rw [wName, f kw_run (by decide), f kw_rest (by decide), f kw_weak (by decide), f kw_mean (by decide), f kw_cold (by decide), f kw_meals (by decide), f kw_dogs (by decide), f kw_left (by decide), f kw_hour (by decide), f kw_post (by decide), f kw_load (by decide)]
    rfl
theorem wName_le (W : List Int32 → Bool) (h : ¬ wName W = -1) : ∃ n, n ≤ 10 ∧ wName W = nI n := by
  unfold wName at h ⊢
  by_cases h0 : W kw_run = true
  · rw [if_pos h0]; exact ⟨0, by omega, rfl⟩
  rw [if_neg h0] at h ⊢
  by_cases h1 : W kw_rest = true
  · rw [if_pos h1]; exact ⟨1, by omega, rfl⟩
  rw [if_neg h1] at h ⊢
  by_cases h2 : W kw_weak = true
  · rw [if_pos h2]; exact ⟨2, by omega, rfl⟩
  rw [if_neg h2] at h ⊢
  by_cases h3 : W kw_mean = true
  · rw [if_pos h3]; exact ⟨3, by omega, rfl⟩
  rw [if_neg h3] at h ⊢
  by_cases h4 : W kw_cold = true
  · rw [if_pos h4]; exact ⟨4, by omega, rfl⟩
  rw [if_neg h4] at h ⊢
  by_cases h5 : W kw_meals = true
  · rw [if_pos h5]; exact ⟨5, by omega, rfl⟩
  rw [if_neg h5] at h ⊢
  by_cases h6 : W kw_dogs = true
  · rw [if_pos h6]; exact ⟨6, by omega, rfl⟩
  rw [if_neg h6] at h ⊢
  by_cases h7 : W kw_left = true
  · rw [if_pos h7]; exact ⟨7, by omega, rfl⟩
  rw [if_neg h7] at h ⊢
  by_cases h8 : W kw_hour = true
  · rw [if_pos h8]; exact ⟨8, by omega, rfl⟩
  rw [if_neg h8] at h ⊢
  by_cases h9 : W kw_post = true
  · rw [if_pos h9]; exact ⟨9, by omega, rfl⟩
  rw [if_neg h9] at h ⊢
  by_cases h10 : W kw_load = true
  · rw [if_pos h10]; exact ⟨10, by omega, rfl⟩
  rw [if_neg h10] at h
  exact absurd rfl h
/-- a name is no other word -/
theorem nm_no (h : ¬ wName (isW I a) = -1) : I a 4 = 1 ∧ isW I a kw_when = false ∧ isW I a kw_and = false ∧ wAct (isW I a) = -1 := by
  obtain ⟨b, hb, hw⟩ := wName_in h
  have key : ∀ b ∈ nmL, kwNe b kw_when = true ∧ kwNe b kw_and = true ∧ kwNe b kw_go = true ∧ kwNe b kw_stay = true ∧ kwNe b kw_feed = true ∧ kwNe b kw_leave = true := by decide
  obtain ⟨k1, k2, k3, k4, k5, k6⟩ := key b hb
  refine ⟨isW_kind hw, isW_ne k1 hw, isW_ne k2 hw, ?_⟩
  rw [wAct, isW_ne k3 hw, isW_ne k4 hw, isW_ne k5 hw, isW_ne k6 hw]
  rfl
end TK
/-- the fault of the class is the reference's -/
def FlR (I : Mem) (K : MJ) (a g : Nat) : Prop := I a 7 = K.1 (g + 19) 6 ∧ I a 8 = K.1 (g + 19) 7
theorem fl_of {I : Mem} {K : MJ} {a g : Nat} {x : Int32} (h : I a 5 = K.1 g 27) : FlR (tFail I a x) (stp K g x) a g := by
  refine ⟨?_, ?_⟩
  · rw [tFail, up2_k (by decide), up2_same]
    show x = mStp K.1 g x (g + 19) 6
    rw [mStp, up2_k (by decide), up2_same]
  · rw [tFail, up2_same]
    show I a 5 = mStp K.1 g x (g + 19) 7
    rw [mStp, up2_same, h]
