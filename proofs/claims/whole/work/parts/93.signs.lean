/-! ===== phase 2: signs ===== -/
def pP (e s : Nat) : Nat := (s + e - 1) / e
/-- row a of the class and the signs of team u of the reference, up to step s -/
def SgR (I I' : Mem) (a u e s : Nat) : Prop := I' u 11 = nI (rowCt I a (pP e s)) ∧ ∀ k, k < pP e s → ¬ I a k = -1 → I' (u + 6) (rowCt I a k) = nI k * nI e ∧ I' (u + 7) (rowCt I a k) = I a k
theorem pP_0 {e s : Nat} (he : 0 < e) (h : s % e = 0) : pP e s = s / e := by
  unfold pP
  have h1 := Nat.div_add_mod s e
  have h2 := Nat.mul_comm e (s / e)
  refine Nat.div_eq_of_lt_le (by omega) ?_
  rw [Nat.add_mul, Nat.one_mul]
  omega
theorem pP_s {e s : Nat} (he : 0 < e) : pP e (s + 1) = s / e + 1 := by
  unfold pP
  rw [show s + 1 + e - 1 = s + e by omega]
  exact Nat.add_div_right s he
theorem pP_n {e s : Nat} (he : 0 < e) (h : ¬ s % e = 0) : pP e s = s / e + 1 := by
  unfold pP
  have h1 := Nat.div_add_mod s e
  have h2 := Nat.mul_comm e (s / e)
  have h3 := Nat.mod_lt s he
  refine Nat.div_eq_of_lt_le ?_ ?_
  · rw [Nat.add_mul, Nat.one_mul]
    omega
  · rw [Nat.add_mul, Nat.add_mul, Nat.one_mul]
    omega
theorem rowCt_mono {I : Mem} {a : Nat} : ∀ {j k : Nat}, j ≤ k → rowCt I a j ≤ rowCt I a k
  | j, 0, h => by obtain rfl : j = 0 := by omega
                  exact Nat.le_refl _
  | j, k + 1, h => by
    rcases Nat.lt_or_ge k j with z | z
    · obtain rfl : j = k + 1 := by omega
      exact Nat.le_refl _
    · have := rowCt_mono (I := I) (a := a) z
      rw [rowCt]
      split <;> omega
theorem rowCt_lt {I : Mem} {a j k : Nat} (h : j < k) (hn : ¬ I a j = -1) : rowCt I a j < rowCt I a k := by
  have := rowCt_mono (I := I) (a := a) (show j + 1 ≤ k by omega)
  rw [rowCt, if_neg hn] at this
  omega
theorem rowCt_c {I I1 : Mem} {a a1 : Nat} : ∀ {j : Nat}, (∀ k, k < j → I1 a1 k = I a k) → rowCt I1 a1 j = rowCt I a j
  | 0, _ => rfl
  | j + 1, h => by rw [rowCt, rowCt, rowCt_c (j := j) (fun k hk => h k (by omega)), h j (by omega)]
theorem SgR.keep {I I' I1 I1' : Mem} {a a1 u u1 e s : Nat} (h : SgR I I' a u e s) (hc : ∀ k, k < pP e s → I1 a1 k = I a k) (h11 : I1' u1 11 = I' u 11) (h6 : ∀ k, k < rowCt I a (pP e s) → I1' (u1 + 6) k = I' (u + 6) k ∧ I1' (u1 + 7) k = I' (u + 7) k) : SgR I1 I1' a1 u1 e s := by
  refine ⟨by rw [h11, rowCt_c hc]; exact h.1, fun k hk hn => ?_⟩
  rw [hc k hk] at hn ⊢
  rw [rowCt_c (I := I) (a := a) (fun j hj => hc j (by omega))]
  have hlt : rowCt I a k < rowCt I a (pP e s) := rowCt_lt hk hn
  rw [(h6 _ hlt).1, (h6 _ hlt).2]
  exact h.2 k hk hn
theorem gap_eq {I I' : Mem} {t u : Nat} {x : Int32} (hG : ∀ k, k < mG I' u → I (t + 6) k = I' (u + 8) k ∧ I (t + 7) k = I' (u + 9) k) : ∀ m, m ≤ mG I' u → gHide I (t + 5) m x = mGap I' u x m
  | 0, _ => rfl
  | m + 1, hm => by
    have ih := gap_eq (x := x) hG m (by omega)
    unfold gHide at ih ⊢
    rw [List.range_succ, List.any_append, ih, mGap, (hG m (by omega)).1.symm, (hG m (by omega)).2.symm]
    simp
theorem told_eq {I I' : Mem} {r g t u n np s' : Nat} {x : Int32} (hT : TmR I I' t u n np s') (hTl : TlR I I' r (g + 1) (g + 2) (g + 3) n) (hP : PreOK I r n) : tTold I t r (tL I t) (tGm I t) x = if I' u 5 = 0 ∨ mGap I' u x (mG I' u) = true then -1 else mWay I' g u (mLn I' u) := by
  obtain ⟨i1, i2, i3, i4, i5, i6, i7, i8, hTR⟩ := hT.ints hTl.2.1
  have hl := i1.2.2.2.1
  rw [tTold, i6, i7, hTR.2.1.2.2.2.2.1, gap_eq hTR.2.2.2.2.2 _ (Nat.le_refl _), way_eq hTl hP hTR.2.1.2.2.2.2.2.2.2.1 _ (i6 ▸ hl)]
theorem way_ne {I : Mem} {g u n : Nat} (hf : FarOK I u) (hL : LenOK I (g + 1) n) (hn : n ≤ 12) {l : Nat} (hl : l ≤ n) : ¬ mWay I g u l = -1 := by
  obtain ⟨x, h1, h2⟩ := way_N hf hL l hl
  rw [h2]
  exact fun z => nI_m1 (by omega) z
theorem sg_no {I I' : Mem} {a u e s : Nat} (h : SgR I I' a u e s) (he : 0 < e) (hm : ¬ s % e = 0) : SgR I I' a u e (s + 1) := by
  unfold SgR at h ⊢
  rw [pP_s he, ← pP_n he hm]
  exact h
theorem sg_yes {I I' : Mem} {r g t u n np s s' a e : Nat} (h : SgR I I' a u e s) (he : 0 < e) (hm : s % e = 0) (hT : TmR I I' t u n np s') (hTl : TlR I I' r (g + 1) (g + 2) (g + 3) n) (hP : PreOK I r n) (hL : LenOK I' (g + 1) n) (hs : s ≤ 2000) {I1 : Mem} (h1 : ∀ k, k < s / e → I1 a k = I a k) (h2 : I1 a (s / e) = tTold I t r (tL I t) (tGm I t) (nI s)) : SgR I1 (mSgn I' g u s e) a u e (s + 1) := by
  have hp0 := pP_0 he hm
  have hsg : mSg I' u = rowCt I a (s / e) := by
    rw [mSg, h.1, hp0]
    exact nI_clamp (by have := rowCt_le I a (s / e); have := Nat.div_le_self s e; omega)
  have hR : rowCt I1 a (s / e) = rowCt I a (s / e) := rowCt_c h1
  rw [told_eq hT hTl hP] at h2
  have hTi := hT.ints hTl.2.1
  obtain ⟨m, m0, t1, t2, t3, t4, t5, t6⟩ := hT
  have hwn := way_ne t4 hL hTl.2.1 (show mLn I' u ≤ n from hTi.2.2.2.2.2.1 ▸ hTi.1.2.2.2.1)
  obtain ⟨s1, s2⟩ := h
  rw [hp0] at s1 s2
  unfold SgR
  rw [pP_s he]
  by_cases hq : I' u 5 = 0 ∨ mGap I' u (nI s) (mG I' u) = true
  · rw [if_pos hq] at h2
    have e1 : mSgn I' g u s e = I' := by
      rw [mSgn, if_neg]
      rintro ⟨_, z1, z2⟩
      rcases hq with z | z
      · exact z1 z
      · rw [z2] at z; cases z
    rw [e1]
    refine ⟨by rw [rowCt, if_pos h2, hR]; exact s1, fun k hk hn => ?_⟩
    have hk2 : k < s / e := by
      rcases Nat.lt_or_ge k (s / e) with z | z
      · exact z
      · obtain rfl : k = s / e := by omega
        exact absurd h2 hn
    rw [h1 k hk2] at hn ⊢
    rw [rowCt_c (I := I) (a := a) (fun j hj => h1 j (by omega))]
    exact s2 k hk2 hn
  · rw [if_neg hq] at h2
    have e1 : mSgn I' g u s e = up2 (up2 (up2 I' (u + 6) (mSg I' u) (nI s)) (u + 7) (mSg I' u) (mWay I' g u (mLn I' u))) u 11 (nI (mSg I' u + 1)) := by
      rw [mSgn, if_pos]
      refine ⟨hm, fun z => hq (Or.inl z), ?_⟩
      rcases z : mGap I' u (nI s) (mG I' u) with _ | _
      · rfl
      · exact absurd (Or.inr z) hq
    rw [e1]
    refine ⟨by rw [up2_same, rowCt, h2, if_neg hwn, hR, hsg], fun k hk hn => ?_⟩
    have v6 : ∀ j, up2 (up2 (up2 I' (u + 6) (mSg I' u) (nI s)) (u + 7) (mSg I' u) (mWay I' g u (mLn I' u))) u 11 (nI (mSg I' u + 1)) (u + 6) j = up2 I' (u + 6) (mSg I' u) (nI s) (u + 6) j := fun j => by rw [up2_a (by omega), up2_a (by omega)]
    have v7 : ∀ j, up2 (up2 (up2 I' (u + 6) (mSg I' u) (nI s)) (u + 7) (mSg I' u) (mWay I' g u (mLn I' u))) u 11 (nI (mSg I' u + 1)) (u + 7) j = up2 I' (u + 7) (mSg I' u) (mWay I' g u (mLn I' u)) (u + 7) j := fun j => by
      rw [up2_a (by omega)]; unfold up2; rw [if_neg (show ¬ (u + 7 = u + 6 ∧ j = mSg I' u) by omega)]
    rw [v6, v7]
    rcases Nat.lt_or_ge k (s / e) with z | z
    · rw [h1 k z] at hn ⊢
      rw [rowCt_c (I := I) (a := a) (fun j hj => h1 j (by omega))]
      have hlt : rowCt I a k < rowCt I a (s / e) := rowCt_lt z hn
      rw [up2_k (by omega), up2_k (by omega)]
      exact s2 k z hn
    · obtain rfl : k = s / e := by omega
      rw [hR, ← hsg, up2_same, up2_same, h2]
      refine ⟨?_, rfl⟩
      have h3 := Nat.div_add_mod s e
      rw [pk_mul, Nat.mul_comm, show e * (s / e) = s by omega]
