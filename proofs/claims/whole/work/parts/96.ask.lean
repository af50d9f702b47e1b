/-! ===== phase 2: what both answer, I ===== -/
theorem mOf_sum {I : Mem} {u : Nat} : ∀ m, (∀ k, k < m → I (u + 2) k = 0 ∨ I (u + 2) k = 1 ∨ I (u + 2) k = 2) → mOf I u 0 m + mOf I u 1 m + mOf I u 2 m = nI m
  | 0, _ => rfl
  | m + 1, h => by
    have ih := mOf_sum m (fun k hk => h k (by omega))
    rw [nI_succ, ← ih, mOf, mOf, mOf]
    rcases h m (by omega) with q | q | q
    · rw [q, if_pos rfl, if_neg (by decide), if_neg (by decide)]; grind
    · rw [q, if_neg (by decide), if_pos rfl, if_neg (by decide)]; grind
    · rw [q, if_neg (by decide), if_neg (by decide), if_pos rfl]; grind
section ASK
variable {S : Nat → Option (Nat × Nat)} {V : Nat → Nat → Option Nat} {N : Nat} {I I' : Mem} {h g n c s e np k z : Nat}
theorem RelA.tm (H : RelA S V N I I' h g n c s e np k z) {i : Nat} (hi : i < c) : TmR I I' (tm h i) (mt g i) n np s := H.2.2.1.2.2 i hi
theorem RelA.n12 (H : RelA S V N I I' h g n c s e np k z) : n ≤ 12 := H.2.2.1.2.1.1.2.1
theorem RelA.c6 (H : RelA S V N I I' h g n c s e np k z) : c ≤ 6 := H.2.2.1.1.2.1
theorem ask_count (H : RelA S V N I I' h g n c s e np k z) (x : Int32) : hCount I h n x = mCount I' g n x := by
  obtain ⟨-, ⟨n1, n2, n3, n4, n5⟩, ⟨⟨q1, q2, q3, q4, q5, q6, q7, q8⟩, ⟨w1, w2, w3, w4⟩, hT⟩, -, -, ⟨p1, p2, p3, p4⟩, ⟨l1, l2, l3, l4⟩, ⟨t1, t2, t3, t4, t5⟩, -⟩ := H
  rw [hCount, mCount, q1, n3, p1, p2, l1, l2, q3, n4, trail_eq w1 w2 n (Nat.le_refl _), t1, t2]
theorem ask_law (H : RelA S V N I I' h g n c s e np k z) (x y : Int32) : hLaw I h k x y = mLaw I' g k x y := by
  obtain ⟨-, -, -, -, -, -, ⟨l1, l2, l3, l4⟩, -⟩ := H
  rw [hLaw, mLaw]
  rcases hx : ixI x k with _ | i
  · rfl
  · obtain ⟨hi, rfl⟩ := ixI_some (by omega) hx
    obtain ⟨kd, a, b, d, -, -, -, -, e1, e2, e3, e4, f1, f2, f3, f4⟩ := l4 i hi
    simp only []
    rw [lPart, e1, e2, e3, e4]
    by_cases h0 : y = 0
    · subst h0
      rw [if_pos rfl, if_pos (by decide)]; exact f1.symm
    · by_cases h1 : y = 1
      · subst h1
        rw [if_neg (by decide), if_pos rfl, if_pos (by decide)]; exact f2.symm
      · by_cases h2 : y = 2
        · subst h2
          rw [if_neg (by decide), if_neg (by decide), if_pos rfl, if_pos (by decide)]; exact f3.symm
        · by_cases h3 : y = 3
          · subst h3
            rw [if_neg (by decide), if_neg (by decide), if_neg (by decide), if_pos rfl, if_pos (by decide)]; exact f4.symm
          · rw [if_neg h0, if_neg h1, if_neg h2, if_neg h3, if_neg]
            intro hb
            unfold inB at hb
            rw [Bool.and_eq_true] at hb
            have b1 := of_decide_eq_true hb.1
            have b2 := of_decide_eq_true hb.2
            obtain ⟨m, hm, rfl⟩ := nI_of (x := y) (fun q => absurd b1 (Int32.not_le.mpr q))
            have b3 := (nI_leI (a := m) (b := 3) hm (by decide)).mp b2
            have : m = 0 ∨ m = 1 ∨ m = 2 ∨ m = 3 := by omega
            rcases this with rfl | rfl | rfl | rfl
            · exact h0 rfl
            · exact h1 rfl
            · exact h2 rfl
            · exact h3 rfl
theorem ask_planned (H : RelA S V N I I' h g n c s e np k z) (x y : Int32) : hPlanned I h np x y = mPlanned I' g np x y := by
  obtain ⟨-, -, -, -, -, ⟨p1, p2, p3, p4⟩, -⟩ := H
  rw [hPlanned, mPlanned]
  rcases hx : ixI x np with _ | i
  · rfl
  · obtain ⟨hi, rfl⟩ := ixI_some (by omega) hx
    obtain ⟨a1, a2, a3, a4, a5⟩ := p4 i hi
    simp only []
    rw [a1.1, a2.1, a3, a4]
theorem ask_did (H : RelA S V N I I' h g n c s e np k z) (x : Int32) : hDid I h c x = mDid I' g c x := by
  have c6 := H.c6
  rw [hDid, mDid]
  rcases hx : ixI x c with _ | i
  · rfl
  · obtain ⟨hi, rfl⟩ := ixI_some (by omega) hx
    obtain ⟨m, m0, t1, t2, t3, t4, t5, t6⟩ := H.tm hi
    exact t1.2.1.2.2.2.2.2.2.2.2.2.2
theorem ask_about (H : RelA S V N I I' h g n c s e np k z) (x y : Int32) : hAbout I h c x y = mAbout I' g c x y := by
  have c6 := H.c6
  rw [hAbout, mAbout]
  rcases hx : ixI x c with _ | i
  · rfl
  · obtain ⟨hi, rfl⟩ := ixI_some (by omega) hx
    obtain ⟨i1, i2, i3, i4, i5, i6, i7, i8, hTR⟩ := (H.tm hi).ints H.n12
    obtain ⟨m, m0, t1, t2, t3, t4, t5, t6⟩ := H.tm hi
    have em : mD I' (mt g i) = m := by rw [mD, t1.1.2.1]; exact nI_clamp (by have := t1.1.2.2; omega)
    obtain ⟨⟨m1, m2, m3⟩, ⟨f4, f5, f6, f7, f8, f9, f10, f11, f12, f13, f14⟩, hD, hC, hG, hGs⟩ := t1
    have hw := way_eq H.2.2.1.2.1.1 H.2.2.1.2.1.2.1 f11 (mLn I' (mt g i)) (i6 ▸ i1.2.2.2.1)
    have hs := mOf_sum m t5.1.2
    simp only []
    rw [tAbout, mtAbout, em, i6, f8, f10, f11, hw, hD.1, hD.2.1, m1, t2, f9, f12, f13, f7, f6, show nI m - mOf I' (mt g i) 0 m - mOf I' (mt g i) 1 m = mOf I' (mt g i) 2 m by rw [← hs]; grind]
theorem ask_dog (H : RelA S V N I I' h g n c s e np k z) (x d y : Int32) : hDog I h c x d y = mDog I' g c x d y := by
  have c6 := H.c6
  rw [hDog, mDog]
  rcases hx : ixI x c with _ | i
  · rfl
  · obtain ⟨hi, rfl⟩ := ixI_some (by omega) hx
    obtain ⟨i1, i2, i3, i4, i5, i6, i7, i8, hTR⟩ := (H.tm hi).ints H.n12
    have m3 := hTR.1.2.2
    have hD := hTR.2.2.1
    simp only []
    rw [show (I (tm h i + 1) 3).toNatClampNeg = mD I' (mt g i) from i5]
    rcases hd : ixI d (mD I' (mt g i)) with _ | j
    · rfl
    · obtain ⟨hj, rfl⟩ := ixI_some (by omega) hd
      obtain ⟨d1, d2, d3⟩ := hD.2.2 j hj
      simp only []
      rw [d1, d2, d3]
theorem ask_time (H : RelA S V N I I' h g n c s e np k z) (x p b : Int32) : hTime I h c n x p b = mTime I' g c n x p b := by
  have c6 := H.c6
  have n12 := H.n12
  rw [hTime, mTime]
  rcases hx : ixI x c with _ | i
  · rfl
  · obtain ⟨hi, rfl⟩ := ixI_some (by omega) hx
    obtain ⟨m, m0, t1, t2, t3, t4, t5, t6⟩ := H.tm hi
    simp only []
    rcases hp : ixI p (n + 1) with _ | j
    · rfl
    · obtain ⟨hj, rfl⟩ := ixI_some (by omega) hp
      obtain ⟨d1, d2⟩ := t1.2.2.2.1 j (by omega)
      simp only []
      rw [d1, d2]
theorem ask_came (H : RelA S V N I I' h g n c s e np k z) (p y : Int32) : hCame I h c n p y = mCame I' g c n p y := by
  have c6 := H.c6
  have n12 := H.n12
  rw [hCame, mCame]
  rcases hp : ixI p (n + 1) with _ | j
  · rfl
  · obtain ⟨hj, rfl⟩ := ixI_some (by omega) hp
    simp only []
    have key : ∀ i, i ≤ c → nI (hCameN I h j y i) = mCameN I' g j y i := by
      intro i
      induction i with
      | zero => intro _; rfl
      | succ i ih =>
        intro hi
        obtain ⟨m, m0, t1, t2, t3, t4, t5, t6⟩ := H.tm (show i < c by omega)
        obtain ⟨d1, d2⟩ := t1.2.2.2.1 j (by omega)
        rw [hCameN, mCameN, d1, ← ih (by omega)]
        by_cases h1 : I' (mt g i + 4) j = -1
        · rw [if_pos h1, if_neg (fun q => q.1 h1)]; grind
        · rw [if_neg h1]
          by_cases h2 : y < I' (mt g i + 4) j
          · rw [if_pos h2, if_neg (fun q => absurd q.2 (Int32.not_le.mpr h2))]; grind
          · rw [if_neg h2, if_pos ⟨h1, Int32.not_lt.mp h2⟩, nI_succ]
    exact key c (Nat.le_refl _)
end ASK
