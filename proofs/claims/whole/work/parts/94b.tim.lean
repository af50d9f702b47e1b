/-! ===== phase 2: the times of a team ===== -/
/-- the times of a team: what came and went at its posts, before step s -/
def TimB (I : Mem) (u n s : Nat) : Prop := ∃ l, I u 6 = nI l ∧ l ≤ 12 ∧ (∀ p, p < l → ∃ a b, a ≤ b ∧ b ≤ 2000 ∧ I (u + 4) p = nI a ∧ I (u + 5) p = nI b) ∧ (∀ p, l < p → p ≤ 12 → I (u + 5) p = -1) ∧ (I u 5 = 0 → l = 0 ∧ I (u + 5) 0 = -1 ∧ I u 7 = 0) ∧ (I u 5 = 1 → ∃ a, a ≤ s ∧ I (u + 4) l = nI a ∧ ((I (u + 5) l = -1 ∧ I u 7 = 0) ∨ ∃ b, a ≤ b ∧ b ≤ 2000 ∧ I (u + 5) l = nI b)) ∧ (I u 5 = 2 → l = n)
theorem TimB.c {I I1 : Mem} {u n s s1 : Nat} (h : TimB I u n s) (hs : s ≤ s1) (h0 : ∀ k, k = 5 ∨ k = 6 ∨ k = 7 → I1 u k = I u k) (h4 : ∀ k, I1 (u + 4) k = I (u + 4) k) (h5 : ∀ k, I1 (u + 5) k = I (u + 5) k) : TimB I1 u n s1 := by
  obtain ⟨l, a1, a2, a3, a4, a5, a6, a7⟩ := h
  refine ⟨l, ?_, a2, ?_⟩
  · rw [h0 6 (by omega)]; exact a1
  · simp only [h4, h5, h0 5 (by omega), h0 7 (by omega)]
    exact ⟨a3, a4, a5, fun z => by obtain ⟨a, b1, b2, b3⟩ := a6 z; exact ⟨a, by omega, b2, b3⟩, a7⟩
theorem TimB.kp {I I1 : Mem} {u n s : Nat} (h : TimB I u n s) (hm : ∀ b k, u ≤ b → b ≤ u + 5 → I1 b k = I b k) : TimB I1 u n s := h.c (Nat.le_refl _) (fun k _ => hm _ _ (by omega) (by omega)) (fun k => hm _ _ (by omega) (by omega)) (fun k => hm _ _ (by omega) (by omega))
theorem tim_goZ {I : Mem} {g u m l n s a b : Nat} (h6 : I u 6 = nI l) (hl : l < 12) (hn12 : n ≤ 12) (h5 : I u 5 = 1) (h3 : ∀ p, p < l → ∃ a b, a ≤ b ∧ b ≤ 2000 ∧ I (u + 4) p = nI a ∧ I (u + 5) p = nI b) (hp : ∀ p, l < p → p ≤ 12 → I (u + 5) p = -1) (ha : I (u + 4) l = nI a) (hb : I (u + 5) l = nI b) (hab : a ≤ b) (hbs : b ≤ 2000) (has : a ≤ s) (hs : s < 2000) : TimB (mGoZ I g u m l n s) u n (s + 1) := by
  rw [mGoZ]
  split
  · refine ⟨l, by rw [up2_k (by decide)]; exact h6, by omega, fun p hp2 => ?_, fun p q1 q2 => ?_, fun z => ?_, fun z => ?_, fun z => ?_⟩
    · rw [up2_a (by omega), up2_a (by omega)]; exact h3 p hp2
    · rw [up2_a (by omega)]; exact hp p q1 q2
    · rw [up2_same] at z; exact absurd z (by decide)
    · rw [up2_same] at z; exact absurd z (by decide)
    · rw [up2_same] at z; exact absurd z (by decide)
  · rw [mGoW]
    generalize I u 7 + mReach I g u m l = y
    have e6 : up2 I u 7 y u 6 = nI l := by rw [up2_k (by decide)]; exact h6
    have e5 : up2 I u 7 y u 5 = 1 := by rw [up2_k (by decide)]; exact h5
    have e4 : ∀ p, up2 I u 7 y (u + 4) p = I (u + 4) p := fun p => up2_a (by omega)
    have e9 : ∀ p, up2 I u 7 y (u + 5) p = I (u + 5) p := fun p => up2_a (by omega)
    generalize up2 I u 7 y = A at *
    split
    · refine ⟨l, e6, by omega, fun p hp2 => by rw [e4, e9]; exact h3 p hp2, fun p q1 q2 => by rw [e9]; exact hp p q1 q2, fun z => by rw [e5] at z; exact absurd z (by decide), fun _ => ⟨a, by omega, by rw [e4]; exact ha, Or.inr ⟨b, hab, by omega, by rw [e9]; exact hb⟩⟩, fun z => by rw [e5] at z; exact absurd z (by decide)⟩
    · have f6 : mArr1 (mArr0 A u l s) u m l u 6 = nI (l + 1) := by rw [mArr1, up2_k (by decide), mLc_k (by omega) (by omega), mArr0, up2_a (by omega), up2_k (by decide), up2_same]
      have f7 : mArr1 (mArr0 A u l s) u m l u 7 = 0 := by rw [mArr1, up2_k (by decide), mLc_k (by omega) (by omega), mArr0, up2_a (by omega), up2_same]
      have f5 : mArr1 (mArr0 A u l s) u m l u 5 = 1 := by rw [mArr1, up2_k (by decide), mLc_k (by omega) (by omega), mArr0, up2_a (by omega), up2_k (by decide), up2_k (by decide)]; exact e5
      have f4 : ∀ p, mArr1 (mArr0 A u l s) u m l (u + 4) p = if p = l + 1 then nI (s + 1) else I (u + 4) p := fun p => by
        rw [mArr1, up2_a (by omega), mLc_k (by omega) (by omega), mArr0]
        by_cases hpl : p = l + 1
        · rw [if_pos hpl, hpl, up2_same, ← nI_add]; rfl
        · rw [if_neg hpl, up2_k hpl, up2_a (by omega), up2_a (by omega)]; exact e4 p
      have f9 : ∀ p, mArr1 (mArr0 A u l s) u m l (u + 5) p = I (u + 5) p := fun p => by
        rw [mArr1, up2_a (by omega), mLc_k (by omega) (by omega), mArr0, up2_a (by omega), up2_a (by omega), up2_a (by omega)]; exact e9 p
      have g3 : ∀ p, p < l + 1 → ∃ a b, a ≤ b ∧ b ≤ 2000 ∧ mArr1 (mArr0 A u l s) u m l (u + 4) p = nI a ∧ mArr1 (mArr0 A u l s) u m l (u + 5) p = nI b := fun p hp2 => by
        rw [f4, f9, if_neg (by omega)]
        rcases Nat.lt_or_ge p l with z | z
        · exact h3 p z
        · obtain rfl : p = l := by omega
          exact ⟨a, b, hab, by omega, ha, hb⟩
      rw [mArr]
      generalize mArr1 (mArr0 A u l s) u m l = B at *
      split
      · rename_i hln
        refine ⟨l + 1, by rw [up2_k (by decide)]; exact f6, by omega, fun p hp2 => by rw [up2_a (by omega), up2_a (by omega)]; exact g3 p hp2, fun p q1 q2 => by rw [up2_a (by omega), f9]; exact hp p (by omega) q2, fun z => ?_, fun z => ?_, fun z => hln⟩
        · rw [up2_same] at z; exact absurd z (by decide)
        · rw [up2_same] at z; exact absurd z (by decide)
      · refine ⟨l + 1, f6, by omega, g3, fun p q1 q2 => by rw [f9]; exact hp p (by omega) q2, fun z => by rw [f5] at z; exact absurd z (by decide), fun _ => ⟨s + 1, Nat.le_refl _, by rw [f4, if_pos rfl], Or.inl ⟨by rw [f9]; exact hp (l + 1) (by omega) (by omega), f7⟩⟩, fun z => by rw [f5] at z; exact absurd z (by decide)⟩
theorem timb_lead {I : Mem} {g u m w l n s q : Nat} (h : TimB I u n s) (hl6 : I u 6 = nI l) (hn12 : n ≤ 12) (hl12 : l ≤ 12) (hon : I u 5 = 0 ∨ I u 5 = 1 → l < n) (hs : s < 2000) : TimB (mLead I g u m w l n s q) u n (s + 1) := by
  have key : ∀ A : Mem, TimB A u n s → A u 6 = nI l → (A u 5 = 1 → l < n) → TimB (mLeadZ A g u m w l n s q) u n (s + 1) := by
    intro A hA a6 aon
    rw [mLeadZ]
    split
    · rename_i h5
      generalize mRule A g u m w l s q = o
      have hB : TimB (up2 A u 10 (rI o)) u n s := hA.c (Nat.le_refl _) (fun k hk => up2_k (by omega)) (fun k => up2_a (by omega)) (fun k => up2_a (by omega))
      have b6 : up2 A u 10 (rI o) u 6 = nI l := by rw [up2_k (by decide)]; exact a6
      have b5 : up2 A u 10 (rI o) u 5 = 1 := by rw [up2_k (by decide)]; exact h5
      have hl := aon h5
      rw [mActs]
      generalize up2 A u 10 (rI o) = B at *
      have pauZ : ∀ C : Mem, (∀ b k, b = u + 4 ∨ b = u + 5 ∨ (b = u ∧ (k = 5 ∨ k = 6 ∨ k = 7)) → C b k = B b k) → ∀ c, TimB (mPauZ C u m c) u n (s + 1) := fun C hC c => by
        rw [mPauZ]
        refine hB.c (by omega) (fun k hk => ?_) (fun k => ?_) (fun k => ?_)
        · rw [up2_k (by omega), up2_k (by omega), dGain_t (by omega)]; exact hC _ _ (by omega)
        · rw [up2_a (by omega), up2_a (by omega), dGain_t (by omega)]; exact hC _ _ (by omega)
        · rw [up2_a (by omega), up2_a (by omega), dGain_t (by omega)]; exact hC _ _ (by omega)
      split
      · obtain ⟨l', c1, c2, c3, c4, c5, c6, c7⟩ := hB
        obtain rfl : l' = l := (nI_eq (by omega) (by omega)).mp (c1.symm.trans b6)
        obtain ⟨a, d1, d2, d3⟩ := c6 b5
        have goX : ∀ (C : Mem) (b : Nat) (c : Int32), (∀ p, C (u + 4) p = B (u + 4) p) → (∀ p, p ≠ l' → C (u + 5) p = B (u + 5) p) → (∀ k, k = 5 ∨ k = 6 → C u k = B u k) → C (u + 5) l' = nI b → a ≤ b → b ≤ 2000 → TimB (mGoX C g u m l' n s c) u n (s + 1) := fun C b c q1 q2 q3 q4 q5 q6 => by
          rw [mGoX, mGoY]
          have e : ∀ (D : Mem) x (x2 : Int32) k, k ≠ 1 → k ≠ 8 → k ≠ 9 → up2 (mLose (up2 (up2 C u 8 x) u 9 0) u x2 m) u 1 (D u 13 + 25 * mOf D u 1 m) u k = C u k := fun D x x2 k z1 z2 z3 => by
            rw [up2_k z1, mLose_k (by omega) (by omega), up2_k z3, up2_k z2]
          have e4 : ∀ (D : Mem) x (x2 : Int32) b k, b ≠ u → b ≠ u + 1 → b ≠ u + 2 → up2 (mLose (up2 (up2 C u 8 x) u 9 0) u x2 m) u 1 (D u 13 + 25 * mOf D u 1 m) b k = C b k := fun D x x2 b k z1 z2 z3 => by
            rw [up2_a z1, mLose_k z2 z3, up2_a z1, up2_a z1]
          refine tim_goZ (a := a) (b := b) ?_ (by omega) hn12 ?_ (fun p hp => ?_) (fun p z1 z2 => ?_) ?_ ?_ q5 q6 d1 hs
          · rw [e _ _ _ 6 (by decide) (by decide) (by decide), q3 6 (by omega)]; exact b6
          · rw [e _ _ _ 5 (by decide) (by decide) (by decide), q3 5 (by omega)]; exact b5
          · rw [e4 _ _ _ _ _ (by omega) (by omega) (by omega), e4 _ _ _ _ _ (by omega) (by omega) (by omega), q1, q2 p (by omega)]; exact c3 p hp
          · rw [e4 _ _ _ _ _ (by omega) (by omega) (by omega), q2 p (by omega)]; exact c4 p z1 z2
          · rw [e4 _ _ _ _ _ (by omega) (by omega) (by omega), q1]; exact d2
          · rw [e4 _ _ _ _ _ (by omega) (by omega) (by omega)]; exact q4
        rw [mGo]
        split
        · rename_i hz
          exact goX _ s _ (fun p => up2_a (by omega)) (fun p hp => up2_k hp) (fun k hk => up2_a (by omega)) (up2_same _ _ _ _) d1 (by omega)
        · rename_i hz
          rcases d3 with d3 | ⟨b, f1, f2, f3⟩
          · exact absurd ⟨d3.2, d3.1⟩ hz
          · exact goX _ b _ (fun p => rfl) (fun p hp => rfl) (fun k hk => rfl) f3 f1 f2
      · rw [mPau]
        split
        · exact pauZ _ (fun b k z => by rw [dGain_t (by omega)]; unfold up2; rw [if_neg (by omega)]) _
        · split
          · exact pauZ _ (fun b k z => by rw [up2_a (by omega), up2_a (by omega)]) _
          · exact pauZ _ (fun b k z => rfl) _
    · rename_i h5
      obtain ⟨l', c1, c2, c3, c4, c5, c6, c7⟩ := hA
      exact ⟨l', c1, c2, c3, c4, c5, fun z => absurd z h5, c7⟩
  rw [mLead, mOn]
  split
  · rename_i hz
    obtain ⟨l', c1, c2, c3, c4, c5, c6, c7⟩ := h
    obtain ⟨rfl, f1, f2⟩ := c5 hz.1
    obtain rfl : l = 0 := ((nI_eq (by omega) (by omega)).mp (c1.symm.trans hl6)).symm
    refine key _ ⟨0, ?_, by omega, fun p hp => absurd hp (by omega), fun p z1 z2 => ?_, fun z => ?_, fun _ => ⟨s, Nat.le_refl _, ?_, Or.inl ⟨?_, ?_⟩⟩, fun z => ?_⟩ ?_ (fun _ => hon (Or.inl hz.1))
    · rw [up2_a (by omega), up2_k (by decide)]; exact c1
    · rw [up2_a (by omega), up2_a (by omega)]; exact c4 p z1 z2
    · rw [up2_a (by omega), up2_same] at z; exact absurd z (by decide)
    · rw [up2_same]
    · rw [up2_a (by omega), up2_a (by omega)]; exact f1
    · rw [up2_a (by omega), up2_k (by decide)]; exact f2
    · rw [up2_a (by omega), up2_same] at z; exact absurd z (by decide)
    · rw [up2_a (by omega), up2_k (by decide)]; exact c1
  · exact key _ h hl6 (fun z => hon (Or.inr z))
def TimOK (I : Mem) (u n s : Nat) : Prop := TimB I u n s ∧ (s = 0 → I u 5 = 0)
theorem TimOK.kp {I I1 : Mem} {u n s : Nat} (h : TimOK I u n s) (hm : ∀ b k, u ≤ b → b ≤ u + 5 → I1 b k = I b k) : TimOK I1 u n s := ⟨h.1.kp hm, fun z => by rw [hm _ _ (by omega) (by omega)]; exact h.2 z⟩
theorem tim_lead {I : Mem} {g u m w l n s q : Nat} (h : TimOK I u n s) (hl6 : I u 6 = nI l) (hn12 : n ≤ 12) (hl12 : l ≤ 12) (hon : I u 5 = 0 ∨ I u 5 = 1 → l < n) (hs : s < 2000) : TimOK (mLead I g u m w l n s q) u n (s + 1) := ⟨timb_lead h.1 hl6 hn12 hl12 hon hs, fun z => absurd z (by omega)⟩
