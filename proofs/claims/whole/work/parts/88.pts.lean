/-! ===== phase 2: the tests of a rule, read by both ===== -/
/-- what the reading of plan q leaves in the reference -/
abbrev PlFr (g q : Nat) (I I1 : Mem) : Prop := ∀ c k, (c ≠ g ∨ k < 25 ∨ 29 < k) → c ≠ g + 19 → ¬ (c = g + 21 ∧ k = q) → ¬ ((c = g + 22 ∨ c = g + 23) ∧ 12 * q ≤ k ∧ k < 12 * q + 12) → ¬ ((c = g + 24 ∨ c = g + 25 ∨ c = g + 26) ∧ 48 * q ≤ k ∧ k < 48 * q + 48) → I1 c k = I c k
section PF
variable {g q r nr x : Nat} {K : MJ}
theorem PlFr.tr {I I1 I2 : Mem} (h : PlFr g q I I1) (h2 : PlFr g q I1 I2) : PlFr g q I I2 := fun c k a b d e f => (h2 c k a b d e f).trans (h c k a b d e f)
theorem PlFr.nx : PlFr g q K.1 (nxt K g).1 := fun c k a _ _ _ _ => nxt_o a
theorem PlFr.st {y : Int32} : PlFr g q K.1 (stp K g y).1 := fun c k a b _ _ _ => by
  show mStp K.1 g y c k = K.1 c k
  rw [mStp, up2_a b, up2_a b]
theorem PlFr.u {I : Mem} {b j : Nat} {y : Int32} (h : (b = g + 21 ∧ j = q) ∨ ((b = g + 22 ∨ b = g + 23) ∧ 12 * q ≤ j ∧ j < 12 * q + 12) ∨ ((b = g + 24 ∨ b = g + 25 ∨ b = g + 26) ∧ 48 * q ≤ j ∧ j < 48 * q + 48)) : PlFr g q I (up2 I b j y) := fun c k _ _ d e f => by
  unfold up2
  rw [if_neg (by omega)]
theorem fr_T2 (hr : 12 * q ≤ r ∧ r < 12 * q + 12) (hx : x < 4) : PlFr g q K.1 (rT2 K g r x).2.1 := by
  unfold rT2
  split
  · exact (PlFr.nx.tr (PlFr.u (by omega))).tr (PlFr.u (by omega))
  · exact PlFr.st
theorem fr_T1 (hr : 12 * q ≤ r ∧ r < 12 * q + 12) (hx : x < 4) : PlFr g q K.1 (rT1 K g r x).2.1 := by
  unfold rT1
  split
  · exact ((PlFr.u (by omega)).tr (PlFr.nx (K := (up2 K.1 (g + 26) (4 * r + x) (bI (mIs K.1 g 60)), K.2)))).tr (fr_T2 hr hx)
  · exact PlFr.st
theorem fr_T (hr : 12 * q ≤ r ∧ r < 12 * q + 12) (hx : x ≤ 4) : PlFr g q K.1 (rT K g r x).2.1 := by
  unfold rT
  split
  · split
    · exact PlFr.st
    · split
      · exact PlFr.st
      · exact ((PlFr.u (by omega)).tr (PlFr.nx (K := (up2 K.1 (g + 24) (4 * r + x) (wName (mIsW K.1 K.2 g)), K.2)))).tr (fr_T1 hr (by omega))
  · exact PlFr.st
theorem rT_x (h : (rT K g r x).1 = true) : ¬ x = 4 := by
  intro z
  unfold rT at h
  split at h
  · split at h
    · cases h
    · simp [z] at h
  · cases h
end PF
theorem fr_Ts {g q r : Nat} (hr : 12 * q ≤ r ∧ r < 12 * q + 12) : ∀ (f : Nat) (K : MJ) (x : Nat), x + f = 5 → x ≤ 4 → PlFr g q K.1 (rTs K g r x f).2.1
  | 0, K, x, h1, h2 => by omega
  | f + 1, K, x, h1, h2 => by
    rw [rTs]
    have k1 : PlFr g q K.1 (rT (nxt K g) g r x).2.1 := PlFr.nx.tr (fr_T hr h2)
    split
    · rename_i hb
      have := rT_x hb
      split
      · exact k1.tr (fr_Ts hr f _ _ (by omega) (by omega))
      · exact k1
    · exact k1
theorem fr_End {K : MJ} {g q r nr : Nat} (hr : 12 * q ≤ r ∧ r < 12 * q + 12) : PlFr g q K.1 (rEnd K g q r nr).2.1 := by
  unfold rEnd
  split
  · exact (PlFr.u (by omega)).tr (PlFr.st (K := (up2 K.1 (g + 22) r (wAct (mIsW K.1 K.2 g)), K.2)))
  · exact ((PlFr.u (by omega)).tr (PlFr.nx (K := (up2 K.1 (g + 22) r (wAct (mIsW K.1 K.2 g)), K.2)))).tr (PlFr.u (by omega))
theorem fr_Rl {K : MJ} {g q nr : Nat} (hn : nr ≤ 12) : PlFr g q K.1 (rRl K g q nr).2.1 := by
  unfold rRl
  split
  · exact PlFr.st
  · split
    · exact PlFr.st
    · have h1 : PlFr g q K.1 (rTs (up2 K.1 (g + 23) (12 * q + nr) 0, K.2) g (12 * q + nr) 0 5).2.1 := (PlFr.u (by omega)).tr (fr_Ts (by omega) 5 (up2 K.1 (g + 23) (12 * q + nr) 0, K.2) 0 rfl (by omega))
      split
      · split
        · exact h1.tr (fr_End (by omega))
        · exact h1
      · exact (PlFr.u (by omega)).tr (fr_End (K := (up2 K.1 (g + 23) (12 * q + nr) 0, K.2)) (by omega))
theorem rRl_x {K : MJ} {g q nr : Nat} (h : (rRl K g q nr).1 = true) : ¬ nr = 12 := by
  intro z
  unfold rRl at h
  split at h
  · cases h
  · simp [z] at h
theorem fr_Rs {g q : Nat} : ∀ (f : Nat) (K : MJ) (nr : Nat), nr + f = 13 → nr ≤ 12 → PlFr g q K.1 (rRs K g q nr f).2.1
  | 0, K, x, h1, h2 => by omega
  | f + 1, K, nr, h1, h2 => by
    rw [rRs]
    split
    · rename_i hb
      have := rRl_x hb
      split
      · exact ((fr_Rl h2).tr PlFr.nx).tr (fr_Rs f _ _ (by omega) (by omega))
      · split
        · exact fr_Rl h2
        · exact (fr_Rl h2).tr PlFr.st
    · exact fr_Rl h2
theorem fr_Pl {K : MJ} {g q : Nat} : PlFr g q K.1 (rPl K g q).2.1 := (PlFr.u (by omega)).tr (fr_Rs 13 (up2 K.1 (g + 21) q 0, K.2) 0 rfl (by omega))
/-- the tests of a rule: the class's from f on, the reference's of rule r -/
def TsR (I I' : Mem) (p g f r x : Nat) : Prop := ∀ i, i < x → ∃ nm, nm ≤ 10 ∧ I (p + 4) (f + i) = nI nm ∧ I' (g + 24) (4 * r + i) = nI nm ∧ I (p + 5) (f + i) = I' (g + 25) (4 * r + i) ∧ (I (p + 6) (f + i) = 0 ↔ ¬ I' (g + 26) (4 * r + i) = 0)
theorem TsR.keep {I I' I1 I1' : Mem} {p g f r x : Nat} (h : TsR I I' p g f r x) (hc : ∀ c k, p + 4 ≤ c → c ≤ p + 6 → f ≤ k → k < f + x → I1 c k = I c k) (hm : ∀ c k, g + 24 ≤ c → c ≤ g + 26 → 4 * r ≤ k → k < 4 * r + x → I1' c k = I' c k) : TsR I1 I1' p g f r x := fun i hi => by
  rw [hc _ _ (by omega) (by omega) (by omega) (by omega), hc _ _ (by omega) (by omega) (by omega) (by omega), hc _ _ (by omega) (by omega) (by omega) (by omega), hm _ _ (by omega) (by omega) (by omega) (by omega), hm _ _ (by omega) (by omega) (by omega) (by omega), hm _ _ (by omega) (by omega) (by omega) (by omega)]
  exact h i hi
theorem bI_n {b : Bool} : bI b = 0 ↔ ¬ bI (!b) = 0 := by cases b <;> decide
theorem ts_sim {a g p f r : Nat} (hap : a + 1 < p) (hf : f + 4 ≤ 48) : ∀ (fu : Nat) (I : Mem) (K : MJ) (x : Nat), x + fu = 5 → x ≤ 4 → TkR I K a g → I a 4 = 1 → TsR I K.1 p g f r x →
    (rdTs I a p (f + x) x fu).1 = (rTs K g r x fu).1 ∧
    ((rdTs I a p (f + x) x fu).1 = true → ∃ x', x' ≤ 4 ∧ TkR (rdTs I a p (f + x) x fu).2 (rTs K g r x fu).2 a g ∧ TsR (rdTs I a p (f + x) x fu).2 (rTs K g r x fu).2.1 p g f r x' ∧ (rdTs I a p (f + x) x fu).2 p 7 = nI (f + x') ∧ (rTs K g r x fu).2.1 (g + 23) r = nI x' ∧
      (∀ c k, c ≠ a → ¬ (c = p ∧ k = 7) → (p + 4 ≤ c ∧ c ≤ p + 6 → k < f) → (rdTs I a p (f + x) x fu).2 c k = I c k) ∧
      (∀ c k, c ≠ g → c ≠ g + 19 → ¬ (c = g + 23 ∧ k = r) → (g + 24 ≤ c ∧ c ≤ g + 26 → k < 4 * r ∨ 4 * r + 4 ≤ k) → (rTs K g r x fu).2.1 c k = K.1 c k)) ∧
    ((rdTs I a p (f + x) x fu).1 = false → FlR (rdTs I a p (f + x) x fu).2 (rTs K g r x fu).2 a g)
  | 0, I, K, x, h1, h2, _, _, _ => by omega
  | fu + 1, I, K, x, h1, h2, h, hk, hT => by
    have hA := adv_sim h (by rw [hk]; decide)
    obtain ⟨s1, s2, s3⟩ := test_sim (p := p) (t := f + x) (r := r) (x := x) hA hap h2 (by omega)
    rw [rdTs, rTs]
    generalize hC : rdTest (adv I a) a p (f + x) x = C at *
    generalize hM : rT (nxt K g) g r x = M at *
    rcases hb : C.1 with _ | _
    · rw [hb] at s1
      rw [if_neg (show ¬ (false = true) by decide), if_neg (by rw [← s1]; decide)]
      refine ⟨s1, fun z => (by cases z), fun _ => s3 hb⟩
    · rw [hb] at s1
      rw [if_pos rfl, if_pos s1.symm]
      obtain ⟨x4, hR, nm, b, v, hnm, c1, c2⟩ := s2 hb
      have cA : ∀ c k, c ≠ a → adv I a c k = I c k := fun c k hc => adv_o hc
      have mA : ∀ c k, c ≠ g → (nxt K g).1 c k = K.1 c k := fun c k hc => nxt_o (Or.inl hc)
      have hT1 : TsR C.2 M.2.1 p g f r (x + 1) := by
        intro i hi
        rw [c1 _ _ (by omega), c1 _ _ (by omega), c1 _ _ (by omega), c2 _ _ (by omega) (by omega), c2 _ _ (by omega) (by omega), c2 _ _ (by omega) (by omega)]
        rcases Nat.lt_or_ge i x with z | z
        · obtain ⟨q0, q1, q2, q3, q4, q5⟩ := hT i z
          have e1 : ∀ c, p + 4 ≤ c → c ≤ p + 6 → up2 (up2 (up2 (up2 (adv I a) (p + 4) (f + x) (nI nm)) (p + 6) (f + x) (bI b)) (p + 5) (f + x) v) p 7 (nI (f + x + 1)) c (f + i) = I c (f + i) := fun c h1 h2 => by
            rw [up2_a (by omega), up2_k (by omega), up2_k (by omega), up2_k (by omega), cA _ _ (by omega)]
          have e2 : ∀ c, g + 24 ≤ c → c ≤ g + 26 → up2 (up2 (up2 (up2 (nxt K g).1 (g + 24) (4 * r + x) (nI nm)) (g + 26) (4 * r + x) (bI (!b))) (g + 25) (4 * r + x) v) (g + 23) r (nI (x + 1)) c (4 * r + i) = K.1 c (4 * r + i) := fun c h1 h2 => by
            rw [up2_a (by omega), up2_k (by omega), up2_k (by omega), up2_k (by omega), mA _ _ (by omega)]
          rw [e1 _ (by omega) (by omega), e1 _ (by omega) (by omega), e1 _ (by omega) (by omega), e2 _ (by omega) (by omega), e2 _ (by omega) (by omega), e2 _ (by omega) (by omega)]
          exact ⟨q0, q1, q2, q3, q4, q5⟩
        · obtain rfl : i = x := by omega
          refine ⟨nm, hnm, ?_, ?_, ?_, ?_⟩
          · simp [up2]
          · simp [up2]
          · simp [up2]
          · simp only [up2]
            simp
            exact bI_n
      have p7 : C.2 p 7 = nI (f + (x + 1)) := by rw [c1 _ _ (by omega), up2_same]; rfl
      have m23 : M.2.1 (g + 23) r = nI (x + 1) := by rw [c2 _ _ (by omega) (by omega), up2_same]
      have fc : ∀ c k, c ≠ a → ¬ (c = p ∧ k = 7) → (p + 4 ≤ c ∧ c ≤ p + 6 → k < f) → C.2 c k = I c k := fun c k h1 h2 h3 => by
        rw [c1 _ _ h1]
        unfold up2
        rw [if_neg (by omega), if_neg (by omega), if_neg (by omega), if_neg (by omega), cA _ _ h1]
      have fm : ∀ c k, c ≠ g → c ≠ g + 19 → ¬ (c = g + 23 ∧ k = r) → (g + 24 ≤ c ∧ c ≤ g + 26 → k < 4 * r ∨ 4 * r + 4 ≤ k) → M.2.1 c k = K.1 c k := fun c k h1 h2 h3 h4 => by
        rw [c2 _ _ h1 h2]
        unfold up2
        rw [if_neg (by omega), if_neg (by omega), if_neg (by omega), if_neg (by omega), mA _ _ h1]
      rw [← isW_eq hR (show kwOK kw_and = true by decide)]
      rcases hw : isW C.2 a kw_and with _ | _
      · rw [if_neg (show ¬ (false = true) by decide), if_neg (show ¬ (false = true) by decide)]
        exact ⟨s1, fun _ => ⟨x + 1, by omega, hR, hT1, p7, m23, fc, fm⟩, fun z => (by cases z)⟩
      · rw [if_pos rfl, if_pos rfl]
        obtain ⟨r1, r2, r3⟩ := ts_sim hap hf fu C.2 M.2 (x + 1) (by omega) (by omega) hR (isW_kind hw) hT1
        rw [show f + (x + 1) = f + x + 1 by omega] at r1 r2 r3
        refine ⟨r1, fun z => ?_, r3⟩
        obtain ⟨x', y1, y2, y3, y4, y5, y6, y7⟩ := r2 z
        exact ⟨x', y1, y2, y3, y4, y5, fun c k h1 h2 h3 => (y6 c k h1 h2 h3).trans (fc c k h1 h2 h3), fun c k h1 h2 h3 h4 => (y7 c k h1 h2 h3 h4).trans (fm c k h1 h2 h3 h4)⟩
