/-! ===== phase 2: follow, gap ===== -/
theorem tr_gap {I I' : Mem} {t u m : Nat} {y w : Int32} (h : TR I I' t u m) (h12 : I' u 12 = nI (mG I' u)) (h4 : mG I' u < 4) : TR (gAdd I (t + 5) (mG I' u) y w) (up2 (up2 (up2 I' (u + 8) (mG I' u) y) (u + 9) (mG I' u) w) u 12 (nI (mG I' u + 1))) t u m := by
  obtain ⟨⟨m1, m2, m3⟩, ⟨f4, f5, f6, f7, f8, f9, f10, f11, f12, f13, f14⟩, hD, hC, hG, hGs⟩ := h
  have em : mG (up2 (up2 (up2 I' (u + 8) (mG I' u) y) (u + 9) (mG I' u) w) u 12 (nI (mG I' u + 1))) u = mG I' u + 1 := by
    rw [mG, up2_same]; exact nI_clamp (by omega)
  refine ⟨⟨?_, ?_, m3⟩, ?_, hD.keep ?_ ?_ (fun b k h1 h2 h3 => ?_) (fun b k h1 h2 h3 => ?_), fun k hk => ?_, ?_, fun k hk => ?_⟩
  · rw [gAdd, up2_f (by omega), up2_f (by omega), up2_f (by omega)]; exact m1
  · rw [up2_f (by omega), up2_f (by omega), up2_f (by omega)]; exact m2
  · have cc : ∀ k, gAdd I (t + 5) (mG I' u) y w t k = I t k := fun k => by rw [gAdd, up2_f (by omega), up2_f (by omega), up2_f (by omega)]
    have mm : ∀ k, k ≠ 12 → up2 (up2 (up2 I' (u + 8) (mG I' u) y) (u + 9) (mG I' u) w) u 12 (nI (mG I' u + 1)) u k = I' u k := fun k q => by rw [up2_f (by omega), up2_f (by omega), up2_f (by omega)]
    rw [cc, cc, cc, cc, cc, cc, cc, cc, cc, cc, cc, mm _ (by decide), mm _ (by decide), mm _ (by decide), mm _ (by decide), mm _ (by decide), mm _ (by decide), mm _ (by decide), mm _ (by decide), mm _ (by decide), mm _ (by decide), mm _ (by decide)]
    exact ⟨f4, f5, f6, f7, f8, f9, f10, f11, f12, f13, f14⟩
  · rw [gAdd, up2_f (by omega), up2_f (by omega), up2_f (by omega)]
  · rw [gAdd, up2_f (by omega), up2_f (by omega), up2_f (by omega)]
  · rw [gAdd, up2_f (by omega), up2_f (by omega), up2_f (by omega)]
  · rw [up2_f (by omega), up2_f (by omega), up2_f (by omega)]
  · rw [gAdd, up2_f (by omega), up2_f (by omega), up2_f (by omega), up2_f (by omega), up2_f (by omega), up2_f (by omega), up2_f (by omega), up2_f (by omega), up2_f (by omega), up2_f (by omega), up2_f (by omega), up2_f (by omega)]; exact hC k hk
  · rw [gAdd, up2_same, up2_same]
  · rw [em] at hk
    by_cases hj : k = mG I' u
    · subst hj
      unfold gAdd
      simp [up2]
    · unfold gAdd
      simp [up2, hj]
      exact hGs k (by omega)
section DO3
variable {S : Nat → Option (Nat × Nat)} {V : Nat → Nat → Option Nat} {N : Nat} {I I' : Mem} {h g n c s e np k z : Nat}
theorem do_follow (H : Rel S V N I I' h g n c s e np k z) (x y : Int32) : (hFollow I h c np x y).1 = (mFollow I' g c np x y).1 ∧ Rel S V N (hFollow I h c np x y).2 (mFollow I' g c np x y).2 h g n c s e np k z := by
  obtain ⟨H, T1, T2, T3⟩ := H
  have c6 := H.c6
  have p8 : np ≤ 8 := H.2.2.2.2.2.1.2.2.1
  have hgh := H.mn
  rw [hFollow, mFollow]
  rcases hx : ixI x c with _ | i
  · exact ⟨rfl, rel_trb H T2 (by decide)⟩
  · obtain ⟨hi, rfl⟩ := ixI_some (by omega) hx
    simp only []
    rcases hy : ixI y np with _ | q
    · exact ⟨rfl, rel_trb H T2 (by decide)⟩
    · obtain ⟨hq, rfl⟩ := ixI_some (by omega) hy
      have hso : (some q).isSome = true := rfl
      rw [if_pos hso, if_pos hso]
      have mi := mt_e g i
      have ti : tm h i = h + 9 + 7 + 10 * i := rfl
      have hT := H.tm hi
      obtain ⟨m, m0, t1, t2, t3, t4, t5, t6⟩ := hT
      have f8 := t1.2.1.2.2.2.2.1
      have hth : tThrough I (tm h i) = true ↔ ¬ I' (mt g i) 5 ≤ 1 := by
        rw [tThrough, f8]
        rcases t5.1.1 with w | w | w | w <;> rw [w] <;> decide
      by_cases ht : tThrough I (tm h i) = true
      · rw [if_pos ht, if_neg (hth.mp ht)]
        exact ⟨rfl, rel_trb H T2 (by decide)⟩
      · rw [if_neg ht, if_pos (Classical.not_not.mp (fun w => ht (hth.mpr w)))]
        refine ⟨rfl, rel_trb (rel_one H hi ?_ (fun b j w => up2_f (by omega)) (fun b j w => up2_f (by omega))) ?_ (by decide)⟩
        · refine ⟨m, m0, tr_pln t1, ?_, fun j hj => by rw [up2_a (by omega)]; exact t3 j hj, ?_, ⟨t5.1.c (up2_k (by decide)) (fun j _ => up2_a (by omega)), ?_⟩, ?_⟩
          · rw [tLoad, up2_k (by decide), up2_a (by omega), up2_k (by decide)]; exact t2
          · obtain ⟨f, f1, f2⟩ := t4
            exact ⟨f, f1, (up2_k (by decide)).trans f2⟩
          · obtain ⟨f, f1, f2⟩ := t5.2
            exact ⟨f, f1, (up2_k (by decide)).trans f2⟩
          · obtain ⟨g1, g2, g3, g4, g5, g6, g7, g8, g9, g10, g11⟩ := t6
            have a0 : mD (up2 I' (mt g i) 4 (nI q)) (mt g i) = mD I' (mt g i) := by rw [mD, mD, up2_k (by decide)]
            have a1 : mOw (up2 I' (mt g i) 4 (nI q)) (mt g i) = mOw I' (mt g i) := by rw [mOw, mOw, up2_k (by decide)]
            have a2 : mG (up2 I' (mt g i) 4 (nI q)) (mt g i) = mG I' (mt g i) := by rw [mG, mG, up2_k (by decide)]
            have a3 : mSg (up2 I' (mt g i) 4 (nI q)) (mt g i) = mSg I' (mt g i) := by rw [mSg, mSg, up2_k (by decide)]
            have a4 : mPl (up2 I' (mt g i) 4 (nI q)) (mt g i) = q := by rw [mPl, up2_same]; exact nI_clamp (by omega)
            unfold MtG
            rw [a0, a1, a2, a3, a4]
            exact ⟨(up2_k (by decide)).trans g1, g2, (up2_k (by decide)).trans g3, g4, up2_same _ _ _ _, hq, (up2_k (by decide)).trans g7, g8, (up2_k (by decide)).trans g9, g10, g11.c (up2_k (by decide)) (up2_k (by decide)) (fun j => up2_a (by omega))⟩
        · rw [up2_f (by omega), up2_f (by omega)]; exact T2
theorem do_gap (H : Rel S V N I I' h g n c s e np k z) (x y w : Int32) : (hGap I h c x y w).1 = (mGapD I' g c x y w).1 ∧ Rel S V N (hGap I h c x y w).2 (mGapD I' g c x y w).2 h g n c s e np k z := by
  obtain ⟨H, T1, T2, T3⟩ := H
  have c6 := H.c6
  have hgh := H.mn
  rw [hGap, mGapD]
  rcases hx : ixI x c with _ | i
  · exact ⟨rfl, rel_trb H T2 (by decide)⟩
  · obtain ⟨hi, rfl⟩ := ixI_some (by omega) hx
    simp only []
    have hcond : (0 ≤ y ∧ w ≤ 2000 ∧ y ≤ w) ↔ (inB y 0 2000 = true ∧ inB w y 2000 = true) := by
      unfold inB
      simp only [Bool.and_eq_true, decide_eq_true_eq]
      constructor
      · rintro ⟨a1, a2, a3⟩
        exact ⟨⟨a1, Int32.le_trans a3 a2⟩, a3, a2⟩
      · rintro ⟨⟨a1, a2⟩, a3, a4⟩
        exact ⟨a1, a4, a3⟩
    by_cases hb : 0 ≤ y ∧ w ≤ 2000 ∧ y ≤ w
    · rw [if_pos hb, if_pos (hcond.mp hb)]
      have mi := mt_e g i
      have ti : tm h i = h + 9 + 7 + 10 * i := rfl
      obtain ⟨i1, i2, i3, i4, i5, i6, i7, i8, hTR⟩ := (H.tm hi).ints H.n12
      have hT := H.tm hi
      obtain ⟨m, m0, t1, t2, t3, t4, t5, t6⟩ := hT
      have eg : tG I (tm h i) = mG I' (mt g i) := i7
      rw [eg]
      by_cases h4 : mG I' (mt g i) < 4
      · rw [if_pos h4, if_pos h4]
        refine ⟨rfl, ?_⟩
        have hg := t6
        obtain ⟨g1, g2, g3, g4, g5, g6, g7, g8, g9, g10, g11⟩ := t6
        refine rel_trb (rel_one H hi ⟨m, m0, tr_gap t1 g7 h4, ?_, fun j hj => ?_, ?_, ⟨t5.1.c ?_ (fun j _ => ?_), ?_⟩, ?_⟩ (fun b j q => ?_) (fun b j q => ?_)) ?_ (by decide)
        · rw [tLoad, gAdd, up2_f (by omega), up2_f (by omega), up2_f (by omega), up2_f (by omega), up2_f (by omega), up2_f (by omega), up2_f (by omega), up2_f (by omega), up2_f (by omega)]; exact t2
        · rw [up2_f (by omega), up2_f (by omega), up2_f (by omega)]; exact t3 j hj
        · obtain ⟨f, f1, f2⟩ := t4
          exact ⟨f, f1, by rw [up2_f (by omega), up2_f (by omega), up2_f (by omega)]; exact f2⟩
        · rw [up2_f (by omega), up2_f (by omega), up2_f (by omega)]
        · rw [up2_f (by omega), up2_f (by omega), up2_f (by omega)]
        · obtain ⟨f, f1, f2⟩ := t5.2
          exact ⟨f, f1, by rw [up2_f (by omega), up2_f (by omega), up2_f (by omega)]; exact f2⟩
        · have mm : ∀ j, j ≠ 12 → up2 (up2 (up2 I' (mt g i + 8) (mG I' (mt g i)) y) (mt g i + 9) (mG I' (mt g i)) w) (mt g i) 12 (nI (mG I' (mt g i) + 1)) (mt g i) j = I' (mt g i) j := fun j q => by rw [up2_f (by omega), up2_f (by omega), up2_f (by omega)]
          have m2 : up2 (up2 (up2 I' (mt g i + 8) (mG I' (mt g i)) y) (mt g i + 9) (mG I' (mt g i)) w) (mt g i) 12 (nI (mG I' (mt g i) + 1)) (mt g i) 12 = nI (mG I' (mt g i) + 1) := up2_same _ _ _ _
          have mo : ∀ j, up2 (up2 (up2 I' (mt g i + 8) (mG I' (mt g i)) y) (mt g i + 9) (mG I' (mt g i)) w) (mt g i) 12 (nI (mG I' (mt g i) + 1)) (mt g i + 2) j = I' (mt g i + 2) j := fun j => by rw [up2_f (by omega), up2_f (by omega), up2_f (by omega)]
          generalize up2 (up2 (up2 I' (mt g i + 8) (mG I' (mt g i)) y) (mt g i + 9) (mG I' (mt g i)) w) (mt g i) 12 (nI (mG I' (mt g i) + 1)) = I1' at *
          have a0 : mD I1' (mt g i) = mD I' (mt g i) := by rw [mD, mD, mm _ (by decide)]
          have a1 : mOw I1' (mt g i) = mOw I' (mt g i) := by rw [mOw, mOw, mm _ (by decide)]
          have a2 : mG I1' (mt g i) = mG I' (mt g i) + 1 := by rw [mG, m2]; exact nI_clamp (by omega)
          have a3 : mSg I1' (mt g i) = mSg I' (mt g i) := by rw [mSg, mSg, mm _ (by decide)]
          have a4 : mPl I1' (mt g i) = mPl I' (mt g i) := by rw [mPl, mPl, mm _ (by decide)]
          unfold MtG
          rw [a0, a1, a2, a3, a4]
          exact ⟨(mm _ (by decide)).trans g1, g2, (mm _ (by decide)).trans g3, g4, (mm _ (by decide)).trans g5, g6, m2, by omega, (mm _ (by decide)).trans g9, g10, g11.c (mm _ (by decide)) (mm _ (by decide)) mo⟩
        · rw [gAdd, up2_f (by omega), up2_f (by omega), up2_f (by omega)]
        · rw [up2_f (by omega), up2_f (by omega), up2_f (by omega)]
        · rw [gAdd, up2_f (by omega), up2_f (by omega), up2_f (by omega), up2_f (by omega), up2_f (by omega), up2_f (by omega)]; exact T2
      · rw [if_neg h4, if_neg h4]
        exact ⟨rfl, rel_trb H T2 (by decide)⟩
    · rw [if_neg hb, if_neg (fun q => hb (hcond.mpr q))]
      exact ⟨rfl, rel_trb H T2 (by decide)⟩
end DO3
