/-! ===== phase 2: copied races relate ===== -/
theorem TmR.copy {I I' A A' : Mem} {t u t1 u1 n np s sg : Nat} (h : TmR I I' t u n np s) (hc : TC A I t1 t) (hm : MC A' I' u1 u sg (mG I' u)) : TmR A A' t1 u1 n np s := by
  obtain ⟨m, m0, t1', t2, t3, t4, t5, t6⟩ := h
  obtain ⟨⟨a1, a2, a3⟩, ⟨f4, f5, f6, f7, f8, f9, f10, f11, f12, f13, f14⟩, hD, hC, hG, hGs⟩ := t1'
  obtain ⟨c1, c2, c3, c4, c5, c6⟩ := hc
  obtain ⟨d1, d2, d3, d4, d5⟩ := hm
  obtain ⟨g1, g2, g3, g4, g5, g6, g7, g8, g9, g10, l, l1, l2, l3⟩ := t6
  have eg : mG A' u1 = mG I' u := by rw [mG, mG, d1 _ (by omega)]
  have e0 : mD A' u1 = mD I' u := by rw [mD, mD, d1 _ (by omega)]
  have e1 : mOw A' u1 = mOw I' u := by rw [mOw, mOw, d1 _ (by omega)]
  have e2 : mSg A' u1 = mSg I' u := by rw [mSg, mSg, d1 _ (by omega)]
  have e3 : mPl A' u1 = mPl I' u := by rw [mPl, mPl, d1 _ (by omega)]
  have hof : ∀ x j, j ≤ m → mOf A' u1 x j = mOf I' u x j := by
    intro x j
    induction j with
    | zero => intro _; rfl
    | succ j ih => intro hj; rw [mOf, mOf, ih (by omega), (d2 j (by omega)).2.1]
  refine ⟨m, m0, ⟨⟨(c2 3 (by omega)).trans a1, (d1 0 (by omega)).trans a2, a3⟩, ?_, ⟨?_, ?_, fun k hk => ?_⟩, fun k hk => ?_, ?_, fun k hk => ?_⟩, ?_, fun k hk => ?_, ?_, ⟨⟨?_, fun k hk => ?_⟩, ?_⟩, ?_⟩
  · rw [c1 4 (by omega) (by omega), c1 5 (by omega) (by omega), c1 6 (by omega) (by omega), c1 7 (by omega) (by omega), c1 8 (by omega) (by omega), c1 9 (by omega) (by omega), c1 10 (by omega) (by omega), c1 11 (by omega) (by omega), c1 12 (by omega) (by omega), c1 13 (by omega) (by omega), c1 14 (by omega) (by omega), d1 13 (by omega), d1 14 (by omega), d1 3 (by omega), d1 4 (by omega), d1 5 (by omega), d1 2 (by omega), d1 6 (by omega), d1 7 (by omega), d1 8 (by omega), d1 9 (by omega), d1 10 (by omega)]
    exact ⟨f4, f5, f6, f7, f8, f9, f10, f11, f12, f13, f14⟩
  · rw [c2 4 (by omega), hof 0 m (Nat.le_refl _)]; exact hD.1
  · rw [c2 5 (by omega), hof 1 m (Nat.le_refl _)]; exact hD.2.1
  · obtain ⟨z1, z2, z3⟩ := c3 k (by omega)
    obtain ⟨y1, y2, y3⟩ := d2 k (by omega)
    show A (t1 + 2) k = A' (u1 + 1) k ∧ A (t1 + 3) k = A' (u1 + 2) k ∧ A (t1 + 4) k = A' (u1 + 3) k
    rw [z1, z2, z3, y1, y2, y3]; exact hD.2.2 k hk
  · rw [(c6 k hk).1, (c6 k hk).2, (d3 k hk).1, (d3 k hk).2]; exact hC k hk
  · rw [c4, d1 12 (by omega)]; exact hG
  · rw [eg] at hk
    rw [(c5 k (by omega)).1, (c5 k (by omega)).2, (d5 k hk).1, (d5 k hk).2]; exact hGs k hk
  · rw [tLoad, c1 4 (by omega) (by omega), c2 5 (by omega), d1 1 (by omega)]; exact t2
  · rw [(d2 k (by omega)).1]; exact t3 k hk
  · obtain ⟨f, q1, q2⟩ := t4
    exact ⟨f, q1, (d1 7 (by omega)).trans q2⟩
  · rw [d1 5 (by omega)]; exact t5.1.1
  · rw [(d2 k (by omega)).2.1]; exact t5.1.2 k hk
  · obtain ⟨f, q1, q2⟩ := t5.2
    exact ⟨f, q1, (d1 3 (by omega)).trans q2⟩
  · unfold MtG
    rw [e0, e1, e2, e3, eg]
    refine ⟨(d1 _ (by omega)).trans g1, g2, (d1 _ (by omega)).trans g3, g4, (d1 _ (by omega)).trans g5, g6, (d1 _ (by omega)).trans g7, g8, (d1 _ (by omega)).trans g9, g10, l, (d1 _ (by omega)).trans l1, l2, fun q => ?_⟩
    rw [d1 5 (by omega)] at q
    obtain ⟨q1, k, q2, q3⟩ := l3 q
    exact ⟨q1, k, q2, by rw [(d2 k (by omega)).2.1]; exact q3⟩
theorem TimOK.copy {I' A' : Mem} {u u1 n s sg gp : Nat} (h : TimOK I' u n s) (hm : MC A' I' u1 u sg gp) : TimOK A' u1 n s := by
  obtain ⟨⟨l, a1, a2, a3, a4, a5, a6, a7⟩, a8⟩ := h
  obtain ⟨d1, d2, d3, d4, d5⟩ := hm
  have e5 := d1 5 (by omega)
  refine ⟨⟨l, (d1 6 (by omega)).trans a1, a2, fun p hp => ?_, fun p q1 q2 => ?_, fun q => ?_, fun q => ?_, fun q => ?_⟩, fun q => ?_⟩
  · rw [(d3 p (by omega)).1, (d3 p (by omega)).2]; exact a3 p hp
  · rw [(d3 p (by omega)).2]; exact a4 p q1 q2
  · rw [e5] at q
    rw [(d3 0 (by omega)).2, d1 7 (by omega)]; exact a5 q
  · rw [e5] at q
    rw [(d3 l (by omega)).1, (d3 l (by omega)).2, d1 7 (by omega)]; exact a6 q
  · rw [e5] at q; exact a7 q
  · rw [e5]; exact a8 q
/-- the rows of the trail copied in the reference -/
def MR (A I : Mem) (b1 b2 b3 a1 a2 a3 : Nat) : Prop := (∀ k, k < 12 → A b1 k = I a1 k ∧ A b2 k = I a2 k) ∧ ∀ k, k < 334 → A b3 k = I a3 k
theorem Race.copy {I I' A A' : Mem} {r e a1 a2 a3 b1 b2 b3 : Nat} {tu tv : Nat → Nat} {n c s ee np : Nat} (H : Race I I' e a1 a2 a3 tu n c s ee np) (hc : RC A I r e c) (hr : MR A' I' b1 b2 b3 a1 a2 a3) (hm : ∀ i, i < c → MC A' I' (tv i) (tu i) (mSg I' (tu i)) (mG I' (tu i))) : Race A A' r b1 b2 b3 tv n c s ee np := by
  obtain ⟨⟨q1, q2, q3, q4, q5, q6, q7, q8⟩, ⟨w1, w2, w3, w4⟩, hT⟩ := H
  obtain ⟨⟨c1, c2, c3⟩, ⟨c4, c5, c6, c7⟩, c8⟩ := hc
  obtain ⟨r1, r2⟩ := hr
  have n12 := w1.2.1
  refine ⟨⟨c1.trans q1, q2, c2.trans q3, q4, c3.trans q5, q6, q7, q8⟩, ⟨⟨c4.trans w1.1, n12, fun k hk => ?_, fun k hk => ?_⟩, ⟨?_, fun k hk => ?_⟩, ⟨fun k hk => ?_, fun k hk => ?_⟩, fun k hk => ?_⟩, fun i hi => (hT i hi).copy (c8 i hi) (hm i hi)⟩
  · show A (r + 2) k = A' b1 k ∧ A (r + 3) k = A' b2 k
    rw [(c5 k (by omega)).1, (c5 k (by omega)).2, (r1 k (by omega)).1, (r1 k (by omega)).2]; exact w1.2.2.1 k hk
  · show A (r + 5) k = A' b3 k
    rw [c7 k hk, r2 k hk]; exact w1.2.2.2 k hk
  · show A (r + 4) 0 = 0
    rw [c6 0 (by omega)]; exact w2.1
  · show A (r + 4) (k + 1) = A (r + 4) k + A (r + 2) k
    rw [c6 _ (by omega), c6 _ (by omega), (c5 k (by omega)).1]; exact w2.2 k hk
  · rw [(r1 k (by omega)).2]; exact w3.1 k hk
  · rw [r2 k hk]; exact w3.2 k hk
  · rw [(r1 k (by omega)).1]; exact w4 k hk
theorem SgR.copy {I I' A A' : Mem} {a u u1 e s gp : Nat} (h : SgR I I' a u e s) (hs : s ≤ 2000) (he : 0 < e) (he48 : e ≤ 48) (ha : ∀ k, A a k = I a k) (hm : MC A' I' u1 u (mSg I' u) gp) : SgR A A' a u1 e s := by
  have hp : pP e s ≤ 2048 := by
    unfold pP
    have := Nat.div_le_self (s + e - 1) e
    omega
  have e1 : mSg I' u = rowCt I a (pP e s) := by
    rw [mSg, h.1]; exact nI_clamp (by have := rowCt_le I a (pP e s); omega)
  obtain ⟨d1, d2, d3, d4, d5⟩ := hm
  exact h.keep (fun k _ => ha k) (d1 11 (by omega)) (fun k hk => d4 k (by omega))
