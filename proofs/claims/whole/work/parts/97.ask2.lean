/-! ===== phase 2: what both answer, II ===== -/
theorem iMax_min (a b : Int32) : iMax 0 (iMin a b) = iMin (iMax 0 a) (iMax 0 b) := by
  unfold iMax iMin
  repeat' split
  all_goals first
    | rfl
    | (rename_i q1 q2 q3 q4; simp only [Int32.lt_iff_toInt_lt] at q1 q2 q3 q4; apply Int32.toInt_inj.mp; omega)
    | (rename_i q1 q2 q3; simp only [Int32.lt_iff_toInt_lt] at q1 q2 q3; apply Int32.toInt_inj.mp; omega)
    | (rename_i q1 q2; simp only [Int32.lt_iff_toInt_lt] at q1 q2; apply Int32.toInt_inj.mp; omega)
theorem iMin_0 {a : Int32} (h : 0 ≤ a) : iMin a 0 = 0 := by
  unfold iMin
  split
  · rfl
  · rename_i q
    rw [Int32.lt_iff_toInt_lt] at q
    rw [Int32.le_iff_toInt_le] at h
    apply Int32.toInt_inj.mp; omega
theorem iMax_nn (a : Int32) : 0 ≤ iMax 0 a := by
  unfold iMax
  split
  · rename_i q
    exact Int32.le_of_lt q
  · exact Int32.le_refl 0
theorem iMin_nn {a b : Int32} (h : 0 ≤ a) (h2 : 0 ≤ b) : 0 ≤ iMin a b := by
  unfold iMin
  split
  · exact h2
  · exact h
theorem mLess_nn {I : Mem} {u n p : Nat} {a : Int32} : 0 ≤ mLess I u n p a := by
  unfold mLess
  split
  · exact Int32.le_refl 0
  · exact iMax_nn _
theorem mLsTo_nn {I : Mem} {u n f : Nat} {a : Int32} : ∀ j, 0 ≤ mLsTo I u n a f j
  | 0 => mLess_nn
  | j + 1 => iMin_nn (mLsTo_nn j) mLess_nn
theorem iMin_sub {x r : Nat} (hx : x < 100000) (hr : r < 100000) : iMin (nI x) (nI x - nI r) = nI x - nI r := by
  unfold iMin
  split
  · rfl
  · rename_i q
    rw [Int32.lt_iff_toInt_lt, pk_sub_toInt (by omega) (by omega), nI_toInt (by omega)] at q
    obtain rfl : r = 0 := by omega
    rw [show nI 0 = (0 : Int32) from rfl]; grind
section LACK
variable {I I' : Mem} {h g t u n m k : Nat}
/-- a team's rests as both see them -/
def RstOK (I I' : Mem) (t u n : Nat) : Prop := ∀ p, p < n → ∃ r, r ≤ 2000 ∧ tRested I t p = nI r ∧ I' (u + 5) p - I' (u + 4) p = nI r
theorem least_eq (hR : RstOK I I' t u n) {x : Nat} (hx : x < 10000) {f : Nat} : ∀ j, f + j < n → iMax 0 (leastTo I t (nI x) f (j + 1)) = mLsTo I' u n (nI x) f j
  | 0, hj => by
    obtain ⟨r, r1, r2, r3⟩ := hR f (by omega)
    rw [leastTo, leastTo, mLsTo, mLess, if_neg (by omega), Nat.add_zero, r2, r3, iMin_sub (by omega) (by omega)]
  | j + 1, hj => by
    obtain ⟨r, r1, r2, r3⟩ := hR (f + (j + 1)) (by omega)
    rw [leastTo, iMax_min, least_eq hR hx j (by omega), mLsTo, mLess, if_neg (by omega), show f + 1 + j = f + (j + 1) by omega, r2, r3]
theorem lack_eq (hR : RstOK I I' t u n) (hD : I (t + 1) 4 = mOf I' u 0 m) {j : Nat} (hj : LwE I I' h g j) : lLack I h t n j = mLack I' g u m n j := by
  obtain ⟨kd, x, y, z, k4, hx, hy, hz, e1, e2, e3, e4, f1, f2, f3, f4⟩ := hj
  have a1 : lF I h j = y := by rw [lF, e3]; exact nI_clamp (by omega)
  have a2 : lG I h j = z := by rw [lG, e4]; exact nI_clamp (by omega)
  have a3 : mF I' g j = y := by rw [mF, f3]; exact nI_clamp (by omega)
  have a4 : mCt I' g j = z := by rw [mCt, f4]; exact nI_clamp (by omega)
  rw [lLack, mLack, a1, a2, a3, a4, e1, e2, f1, f2, hD]
  have hk : kd = 0 ∨ kd = 1 ∨ kd = 2 ∨ kd = 3 := by omega
  rcases hk with rfl | rfl | rfl | rfl
  · rw [if_pos (show nI 0 = 0 from rfl), if_pos (show nI 0 = 0 from rfl), lLeast]
    by_cases hyn : n ≤ y
    · rw [if_pos (Or.inr hyn)]
      by_cases h2 : n < y
      · rw [if_pos h2]
      · rw [if_neg h2, mLess, if_pos (by omega)]
    · rw [if_neg (by omega), if_neg (by omega), show y + 1 - y = 0 + 1 by omega, least_eq hR hx 0 (by omega), mLsTo]
  · rw [if_neg (show ¬ nI 1 = 0 by decide), if_pos (show nI 1 = 1 from rfl), if_neg (show ¬ nI 1 = 0 by decide), if_pos (show nI 1 = 1 from rfl), lLeast]
    by_cases hzy : z < y
    · rw [if_pos (Or.inl hzy), if_pos (Or.inl hzy)]
    · by_cases hyn : n ≤ z
      · rw [if_pos (Or.inr hyn)]
        by_cases h2 : n < z
        · rw [if_pos (Or.inr h2)]
        · rw [if_neg (by omega)]
          obtain rfl : z = n := by omega
          rcases hd : z - y with _ | d
          · rw [mLsTo, mLess, if_pos (by omega)]
          · rw [mLsTo, show mLess I' u z (y + 1 + d) (nI x) = 0 by rw [mLess, if_pos (by omega)], iMin_0 (mLsTo_nn d)]
      · rw [if_neg (by omega), if_neg (by omega), show z + 1 - y = (z - y) + 1 by omega, least_eq hR hx (z - y) (by omega)]
  · rw [if_neg (show ¬ nI 2 = 0 by decide), if_neg (show ¬ nI 2 = 1 by decide), if_pos (show nI 2 = 2 from rfl), if_neg (show ¬ nI 2 = 0 by decide), if_neg (show ¬ nI 2 = 1 by decide)]
  · rw [if_neg (show ¬ nI 3 = 0 by decide), if_neg (show ¬ nI 3 = 1 by decide), if_neg (show ¬ nI 3 = 2 by decide), if_neg (show ¬ nI 3 = 0 by decide), if_neg (show ¬ nI 3 = 1 by decide)]
theorem res_eq (hR : RstOK I I' t u n) (hD : I (t + 1) 4 = mOf I' u 0 m) (h8 : I (t + 8) n = I' (u + 4) n) (h6 : I t 6 = I' u 3) (hL : ∀ j, j < k → LwE I I' h g j) : lRes I h t n k = mRes I' g u m n k := by
  have key : ∀ j, j ≤ k → lSt I h t n j = mRr I' g u m n j ∧ lDg I h t n j = mRd I' g u m n j ∧ lF1 I h j = mR1 I' g j ∧ lF2 I h j = mR2 I' g j := by
    intro j
    induction j with
    | zero => intro _; exact ⟨rfl, rfl, rfl, rfl⟩
    | succ j ih =>
      intro hj
      obtain ⟨i1, i2, i3, i4⟩ := ih (by omega)
      have hw := hL j (by omega)
      have hl := lack_eq (n := n) (m := m) hR hD hw
      obtain ⟨kd, x, y, z, k4, hx, hy, hz, e1, e2, e3, e4, f1, f2, f3, f4⟩ := hw
      rw [lSt, mRr, lDg, mRd, lF1, mR1, lF2, mR2, i1, i2, i3, i4, hl, e1, f1, e2, f2, e3, f3]
      exact ⟨rfl, rfl, rfl, rfl⟩
  obtain ⟨i1, i2, i3, i4⟩ := key k (Nat.le_refl _)
  rw [lRes, mRes, i1, i2, i3, i4, h8, h6]
end LACK
section ASK2
variable {S : Nat → Option (Nat × Nat)} {V : Nat → Nat → Option Nat} {N : Nat} {I I' : Mem} {h g n c s e np k z : Nat}
theorem rel_rst (H : RelA S V N I I' h g n c s e np k z) {i : Nat} (hi : i < c) (hh : I' (mt g i) 5 = 2) : RstOK I I' (tm h i) (mt g i) n := by
  have n12 := H.n12
  obtain ⟨⟨l, a1, a2, a3, a4, a5, a6, a7⟩, -⟩ := H.2.2.2.2.1 i hi
  obtain ⟨m, m0, t1, t2, t3, t4, t5, t6⟩ := H.tm hi
  obtain rfl := a7 hh
  intro p hp
  obtain ⟨a, b, b1, b2, b3, b4⟩ := a3 p hp
  obtain ⟨d1, d2⟩ := t1.2.2.2.1 p (by omega)
  have e : nI b - nI a = nI (b - a) := by
    rw [show nI b = nI (b - a) + nI a by rw [nI_add, show b - a + a = b by omega]]; grind
  refine ⟨b - a, by omega, ?_, by rw [b3, b4]; exact e⟩
  rw [tRested, d1, d2, b3, b4, if_neg]
  · exact e
  · rintro (q | q)
    · omega
    · exact nI_m1 (by omega) q
theorem home_eq (H : RelA S V N I I' h g n c s e np k z) (x : Int32) : hHome I h c x = mHome I' g c x := by
  have c6 := H.c6
  rw [hHome, mHome]
  rcases hx : ixI x c with _ | i
  · rfl
  · obtain ⟨hi, rfl⟩ := ixI_some (by omega) hx
    obtain ⟨m, m0, t1, t2, t3, t4, t5, t6⟩ := H.tm hi
    simp only []
    rw [t1.2.1.2.2.2.2.1]
theorem mHome_some {I' : Mem} {g c i : Nat} {x : Int32} (hc : c ≤ 6) (h : mHome I' g c x = some i) : i < c ∧ I' (mt g i) 5 = 2 := by
  rw [mHome] at h
  rcases hx : ixI x c with _ | j
  · rw [hx] at h; cases h
  · rw [hx] at h
    simp only [] at h
    obtain ⟨hi, rfl⟩ := ixI_some (by omega) hx
    split at h
    · cases h; exact ⟨hi, ‹_›⟩
    · cases h
theorem res_at (H : RelA S V N I I' h g n c s e np k z) {i : Nat} (hi : i < c) (hh : I' (mt g i) 5 = 2) : lRes I (h + 4) (tm h i) n k = mRes I' g (mt g i) (mD I' (mt g i)) n k := by
  have n12 := H.n12
  have hT := (H.tm hi).ints H.n12
  have hTR := hT.2.2.2.2.2.2.2.2
  exact res_eq (rel_rst H hi hh) hTR.2.2.1.1 (hTR.2.2.2.1 n (by omega)).1 hTR.2.1.2.2.1 H.2.2.2.2.2.2.1.2.2.2
theorem ask_result (H : RelA S V N I I' h g n c s e np k z) (x : Int32) : hResult I h c n k x = mResult I' g c n k x := by
  rw [hResult, mResult, home_eq H]
  rcases hx : mHome I' g c x with _ | i
  · rfl
  · obtain ⟨hi, hh⟩ := mHome_some H.c6 hx
    exact res_at H hi hh
theorem ask_lacks (H : RelA S V N I I' h g n c s e np k z) (x y : Int32) : hLacks I h c n k x y = mLacks I' g c n k x y := by
  rw [hLacks, mLacks, home_eq H]
  rcases hx : mHome I' g c x with _ | i
  · rfl
  · obtain ⟨hi, hh⟩ := mHome_some H.c6 hx
    obtain ⟨l1, l2, l3, l4⟩ := H.2.2.2.2.2.2.1
    simp only []
    rcases hy : ixI y k with _ | j
    · rfl
    · obtain ⟨hj, rfl⟩ := ixI_some (by omega) hy
      have hTR := ((H.tm hi).ints H.n12).2.2.2.2.2.2.2.2
      exact lack_eq (rel_rst H hi hh) hTR.2.2.1.1 (l4 j hj)
theorem iCmp_0 {x y : Int32} : iCmp x y = 0 ↔ x = y := by
  unfold iCmp
  constructor
  · intro q
    split at q
    · exact absurd q (by decide)
    · split at q
      · assumption
      · exact absurd q (by decide)
  · rintro rfl
    rw [if_neg (Int32.lt_irrefl), if_pos rfl]
theorem iCmp_n {x y : Int32} : iCmp x y < 0 ↔ x < y := by
  unfold iCmp
  constructor
  · intro q
    split at q
    · assumption
    · split at q
      · exact absurd q (by decide)
      · exact absurd q (by decide)
  · intro q
    rw [if_pos q]; decide
theorem ahead_eq (H : RelA S V N I I' h g n c s e np k z) {i j : Nat} (hi : i < c) (hj : j < c) : hAhead I h n k i j = mAhead I' g n k i j := by
  have key : ∀ i, i < c → tGrp I (tm h i) = mGrp I' (mt g i) ∧ tVal I h n k i = mVal I' g n k (mt g i) (mGrp I' (mt g i)) := fun i hi => by
    obtain ⟨i1, i2, i3, i4, i5, i6, i7, i8, hTR⟩ := (H.tm hi).ints H.n12
    obtain ⟨m, m0, t1, t2, t3, t4, t5, t6⟩ := H.tm hi
    have f8 := hTR.2.1.2.2.2.2.1
    have f11 := hTR.2.1.2.2.2.2.2.2.2.1
    have hw := way_eq H.2.2.1.2.1.1 H.2.2.1.2.1.2.1 f11 (mLn I' (mt g i)) (i6 ▸ i1.2.2.2.1)
    rw [tGrp, tVal, f8, mGrp, i6, hw]
    rcases t5.1.1 with q | q | q | q
    · rw [q]; exact ⟨by decide, by rw [if_neg (by decide), if_neg (by decide), mVal, if_neg (by decide), if_pos rfl, if_neg (by decide)]⟩
    · rw [q]; exact ⟨by decide, by rw [if_pos rfl, mVal, if_neg (show ¬ (1 : Int32) = 2 by decide), if_pos rfl, if_neg (by decide), if_pos rfl]⟩
    · rw [res_at H hi q, q]; exact ⟨by decide, by rw [if_neg (show ¬ (2 : Int32) = 1 by decide), if_pos rfl, mVal, if_pos rfl, if_pos rfl]⟩
    · rw [q]; exact ⟨by decide, by rw [if_neg (by decide), if_neg (by decide), mVal, if_neg (show ¬ (3 : Int32) = 2 by decide), if_neg (by decide), if_neg (by decide)]⟩
  obtain ⟨a1, a2⟩ := key i hi
  obtain ⟨b1, b2⟩ := key j hj
  rw [hAhead, mAhead, a1, a2, b1, b2]
  by_cases hg : mGrp I' (mt g i) = mGrp I' (mt g j)
  · rw [if_pos (iCmp_0.mpr hg), if_pos hg, hg]
    by_cases hv : mVal I' g n k (mt g i) (mGrp I' (mt g j)) = mVal I' g n k (mt g j) (mGrp I' (mt g j))
    · rw [if_pos (iCmp_0.mpr hv), if_pos hv]
    · rw [if_neg (fun q => hv (iCmp_0.mp q)), if_neg hv]
      exact decide_eq_decide.mpr iCmp_n
  · rw [if_neg (fun q => hg (iCmp_0.mp q)), if_neg hg]
    exact decide_eq_decide.mpr iCmp_n
theorem ask_place (H : RelA S V N I I' h g n c s e np k z) (x : Int32) : hPlace I h c n k x = mPlace I' g c n k x := by
  rw [hPlace, mPlace]
  congr 1
  refine fst1_c (fun t ht => ?_)
  have key : ∀ j, j ≤ c → hAheadN I h n k t j = mAheadN I' g n k t j := by
    intro j
    induction j with
    | zero => intro _; rfl
    | succ j ih =>
      intro hj
      rw [hAheadN, mAheadN, ih (by omega), ahead_eq H (by omega) ht]
      by_cases hjt : j = t
      · subst hjt
        rw [if_neg, if_neg (fun q => q.1 rfl)]
        rw [mAhead, if_pos rfl, if_pos rfl]; simp
      · by_cases ha : mAhead I' g n k j t = true
        · rw [if_pos ha, if_pos ⟨hjt, ha⟩]
        · rw [if_neg ha, if_neg (fun q => ha q.2)]
  rw [key c (Nat.le_refl _)]
theorem pP_most {e v : Nat} (he : 0 < e) (hv : v ≤ 2000) : pP e v ≤ rowMost e := by
  unfold pP rowMost
  rw [← Nat.add_div_right 1999 he]
  exact Nat.div_le_div_right (by omega)
theorem RelA.len (H : RelA S V N I I' h g n c s e np k z) {i : Nat} (hi : i < c) : pP e s ≤ rwL S V h i := by
  obtain ⟨⟨q1, q2, q3, q4, q5, q6, q7, q8⟩, -⟩ := H.2.2.1
  rcases Nat.eq_zero_or_pos s with z | z
  · subst z
    rw [pP_0 q6 (Nat.zero_mod e), Nat.zero_div]; omega
  · exact Nat.le_trans (pP_most q6 q4) (H.2.2.2.1.1 z i hi)
theorem ask_signs (H : RelA S V N I I' h g n c s e np k z) (x : Int32) : hSigns I c e s (rwA V h) (rwL S V h) x = mSigns I' g c x := by
  have c6 := H.c6
  rw [hSigns, mSigns]
  rcases hx : ixI x c with _ | i
  · rfl
  · obtain ⟨hi, rfl⟩ := ixI_some (by omega) hx
    have := H.len hi
    have h1 := (H.2.2.2.1.2 i hi).1
    simp only []
    rw [h1, show rowPast (rwL S V h i) e s = pP e s from by show min _ (pP e s) = _; omega]
theorem ask_spot (H : RelA S V N I I' h g n c s e np k z) (x y : Int32) (b : Bool) : hSpot I h c e s n (rwA V h) (rwL S V h) x y b = mSpot I' g c n x y (bI b) := by
  have c6 := H.c6
  obtain ⟨⟨q1, q2, q3, q4, q5, q6, q7, q8⟩, ⟨w1, w2, w3, w4⟩, -⟩ := H.2.2.1
  rw [hSpot, mSpot, H.2.1.2.2.2.1]
  rcases hx : ixI x c with _ | i
  · rfl
  · obtain ⟨hi, rfl⟩ := ixI_some (by omega) hx
    obtain ⟨m, m0, t1, t2, t3, t4, t5, t6⟩ := H.tm hi
    obtain ⟨st, st1, st2⟩ := t5.2
    simp only []
    rcases hy : ixI y s with _ | j
    · unfold ixI at hy
      split at hy
      · cases hy
      · rename_i q
        rw [if_neg q]
    · obtain ⟨hj, rfl⟩ := ixI_some (by omega) hy
      rw [if_pos ⟨nI_pos' (by omega), (nI_ltI (by omega) (by omega)).mpr hj⟩]
      exact spot_eq (t := tm h i) (r := h + 9 + 1) b (H.2.2.2.1.2 i hi) q6 q7 hj q4 (H.len hi) st2 st1 t1.2.1.2.2.1 (trail_eq w1 w2 n (Nat.le_refl _))
end ASK2
