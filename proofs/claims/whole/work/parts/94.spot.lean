/-! ===== phase 2: spot ===== -/
theorem last_ct {I : Mem} {a : Nat} : ∀ j, match rowLast I a j with | none => rowCt I a j = 0 | some k => k < j ∧ ¬ I a k = -1 ∧ rowCt I a j = rowCt I a k + 1
  | 0 => rfl
  | j + 1 => by
    have ih := last_ct (I := I) (a := a) j
    rw [rowLast, rowCt]
    by_cases h : I a j = -1
    · rw [if_pos h, if_pos h]
      rcases hr : rowLast I a j with _ | k
      · rw [hr] at ih; exact ih
      · rw [hr] at ih; exact ⟨by omega, ih.2.1, ih.2.2⟩
    · rw [if_neg h, if_neg h]
      exact ⟨by omega, h, rfl⟩
theorem rowCt_flat {I : Mem} {a x : Nat} : ∀ d, (∀ k, k < d → I a (x + k) = -1) → rowCt I a (x + d) = rowCt I a x
  | 0, _ => rfl
  | d + 1, h => by rw [show x + (d + 1) = (x + d) + 1 by omega, rowCt, if_pos (h d (by omega)), rowCt_flat d (fun k hk => h k (by omega))]
theorem next_ct {I : Mem} {a x y : Nat} (hxy : x ≤ y) : match rowNext I a x y with | none => rowCt I a y = rowCt I a x | some k => x ≤ k ∧ k < y ∧ ¬ I a k = -1 ∧ rowCt I a k = rowCt I a x := by
  unfold rowNext
  rcases h : fst1 (fun k => decide (¬ I a (x + k) = -1)) (y - x) with _ | j
  · have := fst1_nn h
    show rowCt I a y = rowCt I a x
    have e := rowCt_flat (I := I) (a := a) (x := x) (y - x) (fun k hk => by have := this k hk; simpa using this)
    rw [show x + (y - x) = y by omega] at e
    exact e
  · obtain ⟨h1, h2, h3⟩ := fst1_spec h
    show x ≤ x + j ∧ x + j < y ∧ ¬ I a (x + j) = -1 ∧ rowCt I a (x + j) = rowCt I a x
    refine ⟨by omega, by omega, by simpa using h2, ?_⟩
    exact rowCt_flat j (fun k hk => by have := h3 k hk; simpa using this)
theorem ct_sur {I : Mem} {a : Nat} : ∀ {P j : Nat}, j < rowCt I a P → ∃ k, k < P ∧ ¬ I a k = -1 ∧ rowCt I a k = j
  | 0, j, h => by simp [rowCt] at h
  | P + 1, j, h => by
    rw [rowCt] at h
    split at h
    · obtain ⟨k, h1, h2, h3⟩ := ct_sur h
      exact ⟨k, by omega, h2, h3⟩
    · rename_i q
      rcases Nat.lt_or_ge j (rowCt I a P) with z | z
      · obtain ⟨k, h1, h2, h3⟩ := ct_sur z
        exact ⟨k, by omega, h2, h3⟩
      · exact ⟨P, by omega, q, by omega⟩
theorem past_eq {I I' : Mem} {a u e s v : Nat} (h : SgR I I' a u e v) (he : 0 < e) (he48 : e ≤ 48) (hs : s < v) (hv : v ≤ 2000) : mPast I' u (rowCt I a (pP e v)) (nI s) = rowCt I a (s / e + 1) := by
  have hle : s / e + 1 ≤ pP e v := by
    rw [← pP_s he]
    unfold pP
    exact Nat.div_le_div_right (by omega)
  have hpv : pP e v ≤ 2048 := by
    unfold pP
    have := Nat.div_le_self (v + e - 1) e
    omega
  have key : ∀ j, j < rowCt I a (pP e v) → (decide (nI s < I' (u + 6) j) = decide (rowCt I a (s / e + 1) ≤ j)) := by
    intro j hj
    obtain ⟨k, h1, h2, h3⟩ := ct_sur hj
    have h4 := (h.2 k h1 h2).1
    rw [h3] at h4
    rw [h4, pk_mul]
    have hke : k * e < 2147483648 := by
      have : k * e ≤ 2048 * 48 := Nat.mul_le_mul (by omega) he48
      omega
    refine decide_eq_decide.mpr ?_
    rw [nI_ltI (by omega) hke]
    have hd := Nat.div_add_mod s e
    have hml := Nat.mod_lt s he
    have hc := Nat.mul_comm e (s / e)
    rcases Nat.lt_or_ge k (s / e + 1) with z | z
    · have l1 : rowCt I a k < rowCt I a (s / e + 1) := rowCt_lt z h2
      have l2 : k * e ≤ s / e * e := Nat.mul_le_mul_right e (by omega)
      constructor <;> intro <;> omega
    · have l1 : rowCt I a (s / e + 1) ≤ rowCt I a k := rowCt_mono z
      have l2 : (s / e + 1) * e ≤ k * e := Nat.mul_le_mul_right e z
      rw [Nat.add_mul, Nat.one_mul] at l2
      constructor <;> intro <;> omega
  have hle2 : rowCt I a (s / e + 1) ≤ rowCt I a (pP e v) := rowCt_mono hle
  unfold mPast
  rcases Nat.lt_or_ge (rowCt I a (s / e + 1)) (rowCt I a (pP e v)) with z | z
  · rw [fst1_some (p := fun k => decide (nI s < I' (u + 6) k)) (j := rowCt I a (s / e + 1)) (by rw [key _ z]; simp) (fun q hq => by rw [key _ (by omega)]; simp; omega) z]
    rfl
  · rw [fst1_none (fun q hq => by rw [key _ hq]; simp; omega)]
    exact Nat.le_antisymm z hle2
theorem iMin_comm (x y : Int32) : iMin x y = iMin y x := by
  unfold iMin
  have := @Int32.le_antisymm x y
  have := @Int32.le_total x y
  grind
theorem neg_max : ∀ k, k < 101 → iMax 0 (-(nI k)) = 0 := by decide
theorem start_hi {s st : Nat} (hs : s < 3000) (hst : st ≤ 100) : 60 * iMax 0 (nI s - nI st + 1) = if nI s < nI st then 0 else 60 * (nI s - nI st + 1) := by
  rcases Nat.lt_or_ge s st with q | q
  · rw [if_pos ((nI_ltI (by omega) (by omega)).mpr q)]
    have e1 : nI st = nI s + (nI (st - s - 1) + 1) := by
      rw [show (1 : Int32) = nI 1 from rfl, nI_add, nI_add, show s + (st - s - 1 + 1) = st by omega]
    have e2 : nI s - nI st + 1 = -(nI (st - s - 1)) := by rw [e1]; grind
    rw [e2, neg_max _ (by omega)]; rfl
  · rw [if_neg (by rw [nI_ltI (by omega) (by omega)]; omega)]
    have e1 : nI s = nI (s - st) + nI st := by rw [nI_add, show s - st + st = s by omega]
    have e2 : nI s - nI st + 1 = nI (s - st + 1) := by
      rw [e1, ← nI_add, show nI 1 = (1 : Int32) from rfl]; grind
    rw [e2, iMax, if_pos]
    exact (nI_ltI (a := 0) (b := s - st + 1) (by omega) (by omega)).mpr (by omega)
theorem spot_eq {I I' : Mem} {t r g u a n e s v len st : Nat} (z : Bool) (h : SgR I I' a u e v) (he : 0 < e) (he48 : e ≤ 48) (hs : s < v) (hv : v ≤ 2000) (hlen : pP e v ≤ len) (hst : I' u 3 = nI st) (hst1 : st ≤ 100) (h6 : I t 6 = I' u 3) (hw : I (r + 3) n = mTrail I' g n) :
    (if z = true then sMost I a e s t (I (r + 3) n) (rowLast I a (rowPast len e (s + 1))) (rowNext I a (s / e + 1) (rowPast len e v)) else sLeast I a e s (rowLast I a (rowPast len e (s + 1))) (rowNext I a (s / e + 1) (rowPast len e v))) = mSp I' g u n (mSg I' u) (nI s) (bI z) (mPast I' u (mSg I' u) (nI s)) := by
  have hpv : pP e v ≤ 2048 := by
    unfold pP
    have := Nat.div_le_self (v + e - 1) e
    omega
  have hle : s / e + 1 ≤ pP e v := by
    rw [← pP_s he]
    unfold pP
    exact Nat.div_le_div_right (by omega)
  have hsg : mSg I' u = rowCt I a (pP e v) := by
    rw [mSg, h.1]
    exact nI_clamp (by have := rowCt_le I a (pP e v); omega)
  have r1 : rowPast len e (s + 1) = s / e + 1 := by
    show min len (pP e (s + 1)) = _
    rw [pP_s he]; omega
  have r2 : rowPast len e v = pP e v := by
    show min len (pP e v) = _
    omega
  rw [hsg, past_eq h he he48 hs hv, r1, r2]
  have hl := last_ct (I := I) (a := a) (s / e + 1)
  have hn := next_ct (I := I) (a := a) hle
  have hv7 : ∀ k, k < pP e v → ¬ I a k = -1 → I' (u + 7) (rowCt I a k) = I a k ∧ I' (u + 6) (rowCt I a k) = nI k * nI e := fun k q1 q2 => ⟨(h.2 k q1 q2).2, (h.2 k q1 q2).1⟩
  have hst2 := start_hi (s := s) (show s < 3000 by omega) hst1
  rw [mSp]
  generalize rowCt I a (s / e + 1) = p at *
  rcases z with _ | _
  · rw [if_neg (by decide), if_pos (show bI false = 0 from rfl)]
    unfold sLeast
    rcases ho : rowNext I a (s / e + 1) (pP e v) with _ | k2
    · rw [ho] at hn
      rw [if_neg (by simp only at hn; omega)]
      rcases hq : rowLast I a (s / e + 1) with _ | k1
      · rw [hq] at hl
        simp only at hl ⊢
        rw [hl]; rfl
      · rw [hq] at hl
        simp only at hl ⊢
        rw [hl.2.2]
        exact (hv7 k1 (by omega) hl.2.1).1.symm
    · rw [ho] at hn
      simp only at hn
      obtain ⟨n1, n2, n3, n4⟩ := hn
      obtain ⟨c1, c2⟩ := hv7 k2 n2 n3
      rw [n4] at c1 c2
      rw [if_pos (by rw [← n4]; exact rowCt_lt n2 n3), c1, c2]
      rcases hq : rowLast I a (s / e + 1) with _ | k1
      · rw [hq] at hl
        simp only at hl ⊢
        rw [hl]; rfl
      · rw [hq] at hl
        simp only at hl ⊢
        rw [hl.2.2]
        rw [show mLow I' u (rowCt I a k1 + 1) = I' (u + 7) (rowCt I a k1) from rfl, (hv7 k1 (by omega) hl.2.1).1]
  · rw [if_pos rfl, if_neg (show ¬ bI true = 0 by decide), hw]
    unfold sMost
    have hnx : (match rowNext I a (s / e + 1) (pP e v) with | none => mTrail I' g n | some k => I a k) = if p < rowCt I a (pP e v) then I' (u + 7) p else mTrail I' g n := by
      rcases ho : rowNext I a (s / e + 1) (pP e v) with _ | k2
      · rw [ho] at hn
        simp only at hn ⊢
        rw [if_neg (by omega)]
      · rw [ho] at hn
        simp only at hn ⊢
        obtain ⟨n1, n2, n3, n4⟩ := hn
        obtain ⟨c1, c2⟩ := hv7 k2 n2 n3
        rw [n4] at c1
        rw [if_pos (by rw [← n4]; exact rowCt_lt n2 n3), c1]
    rcases hq : rowLast I a (s / e + 1) with _ | k1
    · rw [hq] at hl
      simp only at hl ⊢
      refine (congrArg (fun z => iMin z _) hnx).trans ?_
      rw [iMin_comm, h6, hst, hst2, hl]
      show _ = iMin (if nI s < I' u 3 then 0 else 60 * (nI s - I' u 3 + 1)) _
      rw [hst]
    · rw [hq] at hl
      simp only at hl ⊢
      refine (congrArg (fun z => iMin z _) hnx).trans ?_
      rw [iMin_comm, hl.2.2]
      obtain ⟨c1, c2⟩ := hv7 k1 (by omega) hl.2.1
      show _ = iMin (I' (u + 7) (rowCt I a k1) + 60 * (nI s - I' (u + 6) (rowCt I a k1))) _
      rw [c1, c2]
