/-! ===== phase 2: a team of the class, a team of the reference ===== -/
/-- the dogs d of the class in I are those of the reference's team u in I' -/
def DR (I I' : Mem) (d u m : Nat) : Prop := I d 4 = mOf I' u 0 m ∧ I d 5 = mOf I' u 1 m ∧ ∀ k, k < m → I (d + 1) k = I' (u + 1) k ∧ I (d + 2) k = I' (u + 2) k ∧ I (d + 3) k = I' (u + 3) k
theorem mOf_c {I I' : Mem} {t t' : Nat} {x : Int32} : ∀ {m : Nat}, (∀ k, k < m → I' (t' + 2) k = I (t + 2) k) → mOf I' t' x m = mOf I t x m
  | 0, _ => rfl
  | m + 1, h => by rw [mOf, mOf, h m (by omega), mOf_c (fun k hk => h k (by omega))]
theorem DR.keep {I I' I1 I1' : Mem} {d u m : Nat} (h : DR I I' d u m) (h4 : I1 d 4 = I d 4) (h5 : I1 d 5 = I d 5) (hc : ∀ b k, d < b → b ≤ d + 3 → k < m → I1 b k = I b k) (hm : ∀ b k, u < b → b ≤ u + 3 → k < m → I1' b k = I' b k) : DR I1 I1' d u m := by
  obtain ⟨a, b, c⟩ := h
  have e : ∀ x, mOf I1' u x m = mOf I' u x m := fun x => mOf_c (fun k hk => hm _ _ (by omega) (by omega) hk)
  refine ⟨by rw [h4, e]; exact a, by rw [h5, e]; exact b, fun k hk => ?_⟩
  rw [hc _ k (by omega) (by omega) hk, hc _ k (by omega) (by omega) hk, hc _ k (by omega) (by omega) hk, hm _ k (by omega) (by omega) hk, hm _ k (by omega) (by omega) hk, hm _ k (by omega) (by omega) hk]
  exact c k hk
theorem mOf_up {I : Mem} {t j : Nat} {x y : Int32} : ∀ {m : Nat}, j < m → mOf (up2 I (t + 2) j y) t x m = mOf I t x m + (if y = x then 1 else 0) - (if I (t + 2) j = x then 1 else 0)
  | 0, h => by omega
  | m + 1, h => by
    rw [mOf, mOf]
    by_cases hj : j = m
    · subst hj
      rw [up2_same, mOf_c (I := I) (t := t) (t' := t) (I' := up2 I (t + 2) j y) (fun k hk => up2_k (by omega))]
      generalize mOf I t x j = a
      generalize (if y = x then (1 : Int32) else 0) = b
      generalize (if I (t + 2) j = x then (1 : Int32) else 0) = c
      grind
    · rw [up2_k (by omega), mOf_up (m := m) (by omega)]
      generalize mOf I t x m = a
      generalize (if y = x then (1 : Int32) else 0) = b
      generalize (if I (t + 2) j = x then (1 : Int32) else 0) = c
      generalize (if I (t + 2) m = x then (1 : Int32) else 0) = e
      grind
theorem mOf_st {I : Mem} {t j b : Nat} {x y : Int32} {m : Nat} (hb : b ≠ t + 2) : mOf (up2 I b j y) t x m = mOf I t x m := mOf_c (fun k hk => up2_a (Ne.symm hb))
theorem dr_gain {I I' : Mem} {d u m : Nat} (h : DR I I' d u m) (x : Int32) : ∀ j, j ≤ m → DR (dGain I d x j) (dGain I' u x j) d u m
  | 0, _ => h
  | j + 1, hj => by
    obtain ⟨a, b, c⟩ := dr_gain h x j (by omega)
    obtain ⟨c1, c2, c3⟩ := c j (by omega)
    rw [dGain, dGain, c2, c1]
    by_cases h0 : dGain I' u x j (u + 2) j = 0
    · rw [if_pos h0, if_pos h0]
      refine ⟨?_, ?_, fun k hk => ?_⟩
      · rw [up2_a (by omega), mOf_st (by omega)]; exact a
      · rw [up2_a (by omega), mOf_st (by omega)]; exact b
      · obtain ⟨e1, e2, e3⟩ := c k hk
        by_cases hkj : k = j
        · subst hkj; simp [up2, e2, e3]
        · simp [up2, hkj, e1, e2, e3]
    · rw [if_neg h0, if_neg h0]
      exact ⟨a, b, c⟩
theorem dr_lose {I I' : Mem} {d u m : Nat} (h : DR I I' d u m) (x : Int32) : ∀ j, j ≤ m → DR (dLose I d x j) (mLose I' u x j) d u m
  | 0, _ => h
  | j + 1, hj => by
    obtain ⟨a, b, c⟩ := dr_lose h x j (by omega)
    obtain ⟨c1, c2, c3⟩ := c j (by omega)
    rw [dLose, mLose, dLose1, mLose1, c2, c1]
    generalize dLose I d x j = A at *
    generalize mLose I' u x j = B at *
    by_cases h0 : B (u + 2) j = 0
    · rw [if_pos h0, if_pos h0]
      by_cases hz : iMax 0 (B (u + 1) j - x) = 0
      · rw [if_pos hz, if_pos hz]
        have hs : ∀ y : Int32, mOf (up2 (up2 B (u + 1) j (iMax 0 (B (u + 1) j - x))) (u + 2) j 1) u y m = mOf B u y m + (if (1 : Int32) = y then 1 else 0) - (if (0 : Int32) = y then 1 else 0) := fun y => by
          rw [mOf_up (by omega), mOf_st (by omega), up2_a (by omega), h0]
        refine ⟨?_, ?_, fun k hk => ?_⟩
        · rw [hs, up2_k (by decide), up2_same, a, if_neg (by decide), if_pos rfl, Int32.add_zero]
        · rw [hs, up2_same, b, if_pos rfl, if_neg (by decide), Int32.sub_zero]
        · obtain ⟨e1, e2, e3⟩ := c k hk
          by_cases hkj : k = j
          · subst hkj; simp [up2, e3]
          · simp [up2, hkj, e1, e2, e3]
      · rw [if_neg hz, if_neg hz]
        refine ⟨?_, ?_, fun k hk => ?_⟩
        · rw [up2_a (by omega), mOf_st (by omega)]; exact a
        · rw [up2_a (by omega), mOf_st (by omega)]; exact b
        · obtain ⟨e1, e2, e3⟩ := c k hk
          by_cases hkj : k = j
          · subst hkj; simp [up2, e2, e3]
          · simp [up2, hkj, e1, e2, e3]
    · rw [if_neg h0, if_neg h0]
      exact ⟨a, b, c⟩

theorem dr_weak {I I' : Mem} {d u : Nat} : ∀ {m : Nat}, (∀ k, k < m → I (d + 1) k = I' (u + 1) k ∧ I (d + 2) k = I' (u + 2) k) → dWeak I d m = dWeak I' u m
  | 0, _ => rfl
  | m + 1, h => by
    have ih := dr_weak (m := m) (fun k hk => h k (by omega))
    rw [dWeak, dWeak, ih, (h m (by omega)).1, (h m (by omega)).2]
    rcases hw : dWeak I' u m with _ | b
    · rfl
    · have hb := dWeak_lt I' u m b hw
      simp only []
      rw [(h b (by omega)).1]
theorem dr_sum {I I' : Mem} {d u : Nat} : ∀ {m : Nat}, (∀ k, k < m → I (d + 1) k = I' (u + 1) k ∧ I (d + 2) k = I' (u + 2) k) → dSum I d m = dSum I' u m
  | 0, _ => rfl
  | m + 1, h => by rw [dSum, dSum, dr_sum (m := m) (fun k hk => h k (by omega)), (h m (by omega)).1, (h m (by omega)).2]
theorem DR.two {I I' : Mem} {d u m : Nat} (h : DR I I' d u m) : ∀ k, k < m → I (d + 1) k = I' (u + 1) k ∧ I (d + 2) k = I' (u + 2) k := fun k hk => ⟨(h.2.2 k hk).1, (h.2.2 k hk).2.1⟩
theorem dr_mean {I I' : Mem} {d u m : Nat} (h : DR I I' d u m) (hm : m ≤ 16) : dMean I d m = mMean I' u m := by
  rw [dMean, mMean, h.1, dr_sum h.two]
  obtain ⟨c, hc, e⟩ := mOf_nI I' u 0 m
  rw [e]
  rcases Nat.eq_zero_or_pos c with z | z
  · subst z
    rw [if_neg (by decide), if_pos (show nI 0 = 0 from rfl)]
  · rw [if_pos (show (0 : Int32) < nI c from (nI_ltI (a := 0) (b := c) (by decide) (by omega)).mpr z), if_neg (nI_ne0 z (by omega))]
/-- strengths between 0 and 1000 -/
def StrOK (I : Mem) (u m : Nat) : Prop := ∀ k, k < m → ∃ s, s ≤ 1000 ∧ I (u + 1) k = nI s
theorem dr_least {I I' : Mem} {d u : Nat} : ∀ {m : Nat}, (∀ k, k < m → I (d + 1) k = I' (u + 1) k ∧ I (d + 2) k = I' (u + 2) k) → StrOK I' u m → dLeast I d m = match dWeak I' u m with | none => -1 | some w => I' (u + 1) w
  | 0, _, _ => rfl
  | m + 1, h, hs => by
    have ih := dr_least (m := m) (fun k hk => h k (by omega)) (fun k hk => hs k (by omega))
    rw [dLeast, dWeak, ih, (h m (by omega)).1, (h m (by omega)).2]
    rcases hw : dWeak I' u m with _ | b
    · simp only []
      by_cases h0 : I' (u + 2) m = 0
      · rw [if_pos ⟨h0, Or.inl (by trivial)⟩, if_pos h0]
      · rw [if_neg (fun z => h0 z.1), if_neg h0]
    · have hb := dWeak_lt I' u m b hw
      obtain ⟨sb, hsb, eb⟩ := hs b (by omega)
      have hn1 : ¬ I' (u + 1) b = -1 := fun z => nI_m1 (by omega) (eb.symm.trans z)
      simp only []
      by_cases h0 : I' (u + 2) m = 0 ∧ I' (u + 1) m < I' (u + 1) b
      · rw [if_pos ⟨h0.1, Or.inr h0.2⟩, if_pos h0]
      · rw [if_neg (fun z => z.2.elim (fun q => hn1 q) (fun q => h0 ⟨z.1, q⟩)), if_neg h0]
theorem dr_lw {I I' : Mem} {d u m w : Nat} (h : DR I I' d u m) (hs : StrOK I' u m) (hw : dWeak I' u m = some w) : iMax 0 (dLeast I d m) = I' (u + 1) w := by
  rw [dr_least h.two hs, hw]
  simp only []
  obtain ⟨s, h1, e⟩ := hs w (dWeak_lt I' u m w hw)
  rw [e]
  exact iMax_nI (a := 0) (by decide) (by omega) |>.trans (by rw [Nat.zero_max])
theorem str_gain {I : Mem} {u m : Nat} {x : Nat} (h : StrOK I u m) (hx : x ≤ 1000) : ∀ j, StrOK (dGain I u (nI x) j) u m
  | 0 => h
  | j + 1 => by
    have ih := str_gain h hx j
    rw [dGain]
    split
    · intro k hk
      by_cases hkj : k = j
      · subst hkj
        obtain ⟨s, h1, e⟩ := ih k hk
        rw [up2_same, e, nI_add]
        exact ⟨min 1000 (s + x), by omega, (iMin_nI (a := 1000) (b := s + x) (by decide) (by omega))⟩
      · rw [up2_k hkj]; exact ih k hk
    · exact ih
theorem str_lose {I : Mem} {u m : Nat} {x : Nat} (h : StrOK I u m) (hx : x ≤ 100000) : ∀ j, StrOK (mLose I u (nI x) j) u m
  | 0 => h
  | j + 1 => by
    have ih := str_lose h hx j
    have key : ∀ k, k < m → ∃ s, s ≤ 1000 ∧ iMax 0 (mLose I u (nI x) j (u + 1) k - nI x) = nI s := fun k hk => by
      obtain ⟨s, h1, e⟩ := ih k hk
      rw [e]
      rcases Nat.lt_or_ge s x with z | z
      · refine ⟨0, by omega, ?_⟩
        have := pk_sneg (a := s) (b := x) (by omega) z
        unfold iMax
        rw [if_neg (by
          intro q
          exact absurd this (Int32.not_lt.mpr (Int32.le_of_lt q)))]
        rfl
      · rw [pk_sub z]
        exact ⟨s - x, by omega, (iMax_nI (a := 0) (by decide) (by omega)).trans (by rw [Nat.zero_max])⟩
    rw [mLose, mLose1]
    split
    · split
      · intro k hk
        rw [up2_a (by omega)]
        by_cases hkj : k = j
        · subst hkj; rw [up2_same]; exact key k hk
        · rw [up2_k hkj]; exact ih k hk
      · intro k hk
        by_cases hkj : k = j
        · subst hkj; rw [up2_same]; exact key k hk
        · rw [up2_k hkj]; exact ih k hk
    · exact ih
theorem dWeak_0 {I : Mem} {d : Nat} : ∀ {m w : Nat}, dWeak I d m = some w → I (d + 2) w = 0
  | 0, w, h => by simp [dWeak] at h
  | m + 1, w, h => by
    unfold dWeak at h
    rcases hb : dWeak I d m with _ | b
    · rw [hb] at h
      simp only [] at h
      split at h
      · cases h; assumption
      · cases h
    · rw [hb] at h
      simp only [] at h
      split at h
      · rename_i q; cases h; exact q.1
      · cases h; exact dWeak_0 hb
theorem mOf_has {I : Mem} {t : Nat} {x : Int32} : ∀ {m k : Nat}, k < m → I (t + 2) k = x → ∃ c, 0 < c ∧ c ≤ m ∧ mOf I t x m = nI c
  | 0, k, h, _ => by omega
  | m + 1, k, h, e => by
    obtain ⟨c, hc, q⟩ := mOf_nI I t x m
    by_cases hk : k = m
    · subst hk
      exact ⟨c + 1, by omega, by omega, by rw [mOf, if_pos e, q]; exact nI_1 c⟩
    · obtain ⟨c, h1, h2, h3⟩ := mOf_has (m := m) (k := k) (by omega) e
      rw [mOf, h3]
      split
      · exact ⟨c + 1, by omega, by omega, nI_1 c⟩
      · exact ⟨c, h1, by omega, by rw [Int32.add_zero]⟩
theorem dr_leave {I I' : Mem} {d u m w : Nat} {p : Int32} (h : DR I I' d u m) (hw : dWeak I' u m = some w) : DR (dLeaveW I d m p) (up2 (up2 I' (u + 2) w 2) (u + 3) w p) d u m := by
  have hwm := dWeak_lt I' u m w hw
  have h0 := dWeak_0 hw
  have hw2 : dWeak I d m = some w := (dr_weak h.two).trans hw
  rw [dLeaveW, hw2]
  simp only []
  obtain ⟨a, b, c⟩ := h
  have hs : ∀ y : Int32, mOf (up2 (up2 I' (u + 2) w 2) (u + 3) w p) u y m = mOf I' u y m + (if (2 : Int32) = y then 1 else 0) - (if (0 : Int32) = y then 1 else 0) := fun y => by
    rw [mOf_st (by omega), mOf_up hwm, h0]
  refine ⟨?_, ?_, fun k hk => ?_⟩
  · rw [hs, up2_same, a, if_neg (by decide), if_pos rfl, Int32.add_zero]
  · rw [hs, up2_k (by decide), up2_a (by omega), up2_a (by omega), b, if_neg (by decide), if_neg (by decide), Int32.add_zero, Int32.sub_zero]
  · obtain ⟨e1, e2, e3⟩ := c k hk
    by_cases hkj : k = w
    · subst hkj; simp [up2, e1]
    · simp [up2, hkj, e1, e2, e3]
theorem dr_lc {I I' : Mem} {d u m : Nat} {p : Int32} (h : DR I I' d u m) (hm : m ≤ 16) : ∀ j, j ≤ m → DR (dLc I d p j) (mLc I' u p j) d u m
  | 0, _ => h
  | j + 1, hj => by
    obtain ⟨a, b, c⟩ := dr_lc (p := p) h hm j (by omega)
    obtain ⟨c1, c2, c3⟩ := c j (by omega)
    rw [dLc, mLc, mLc1, dLc1, b, c2]
    generalize dLc I d p j = A at *
    generalize mLc I' u p j = B at *
    by_cases h1 : B (u + 2) j = 1
    · obtain ⟨n, n0, n1, n2⟩ := mOf_has (m := m) (k := j) (by omega) h1
      rw [if_pos (show (0 : Int32) < mOf B u 1 m by rw [n2]; exact (nI_ltI (a := 0) (b := n) (by decide) (by omega)).mpr n0), if_pos h1, if_pos h1]
      have hs : ∀ y : Int32, mOf (up2 (up2 B (u + 2) j 2) (u + 3) j p) u y m = mOf B u y m + (if (2 : Int32) = y then 1 else 0) - (if (1 : Int32) = y then 1 else 0) := fun y => by
        rw [mOf_st (by omega), mOf_up (by omega), h1]
      refine ⟨?_, ?_, fun k hk => ?_⟩
      · rw [hs, up2_k (by decide), up2_a (by omega), up2_a (by omega), a, if_neg (by decide), if_neg (by decide), Int32.add_zero, Int32.sub_zero]
      · rw [hs, up2_same, if_neg (by decide), if_pos rfl, Int32.add_zero]
      · obtain ⟨e1, e2, e3⟩ := c k hk
        by_cases hkj : k = j
        · subst hkj; simp [up2, e1]
        · simp [up2, hkj, e1, e2, e3]
    · rw [if_neg h1, if_neg h1]
      split
      · exact ⟨a, b, c⟩
      · exact ⟨a, b, c⟩
theorem mLc_no1 {I : Mem} {u : Nat} {p : Int32} : ∀ j k, k < j → ¬ mLc I u p j (u + 2) k = 1
  | 0, k, h => by omega
  | j + 1, k, h => by
    rw [mLc, mLc1]
    by_cases hkj : k = j
    · subst hkj
      split
      · rw [up2_a (by omega), up2_same]; decide
      · assumption
    · have ih := mLc_no1 (I := I) (u := u) (p := p) j k (by omega)
      split
      · rw [up2_a (by omega), up2_k hkj]; exact ih
      · exact ih
/-- team t of the class in I is team u of the reference in I' -/
def TR (I I' : Mem) (t u m : Nat) : Prop := (I (t + 1) 3 = nI m ∧ I' u 0 = nI m ∧ m ≤ 16) ∧ (I t 4 = I' u 13 ∧ I t 5 = I' u 14 ∧ I t 6 = I' u 3 ∧ I t 7 = I' u 4 ∧ I t 8 = I' u 5 ∧ I t 9 = I' u 2 ∧ I t 10 = I' u 6 ∧ I t 11 = I' u 7 ∧ I t 12 = I' u 8 ∧ I t 13 = I' u 9 ∧ I t 14 = I' u 10) ∧ DR I I' (t + 1) u m ∧ (∀ k, k < 13 → I (t + 8) k = I' (u + 4) k ∧ I (t + 9) k = I' (u + 5) k) ∧ I (t + 5) 2 = I' u 12 ∧ ∀ k, k < mG I' u → I (t + 6) k = I' (u + 8) k ∧ I (t + 7) k = I' (u + 9) k
/-- the trail r of the class in I is the reference's, its rows at a1, a2, a3 in I' -/
def TlR (I I' : Mem) (r a1 a2 a3 n : Nat) : Prop := I r 4 = nI n ∧ n ≤ 12 ∧ (∀ k, k < n → I (r + 1) k = I' a1 k ∧ I (r + 2) k = I' a2 k) ∧ ∀ k, k < 334 → I (r + 4) k = I' a3 k
theorem val_eq {I I' : Mem} {t u r g m w n l s q : Nat} (h : TR I I' t u m) (hld : tLoad I t = I' u 1) (hT : TlR I I' r (g + 1) (g + 2) (g + 3) n) (hs : StrOK I' u m) (hw : dWeak I' u m = some w) (hl : l < n) (hs2 : s < 2000) (hq : q ≤ 10) : nmVal I t r m n l s (nI q) = mVl I' g u m w l s (nI q) := by
  obtain ⟨⟨m1, m2, m3⟩, ⟨f4, f5, f6, f7, f8, f9, f10, f11, f12, f13, f14⟩, hD, hC, hG, hGs⟩ := h
  obtain ⟨t1, t2, t3, t4⟩ := hT
  have hq : q = 0 ∨ q = 1 ∨ q = 2 ∨ q = 3 ∨ q = 4 ∨ q = 5 ∨ q = 6 ∨ q = 7 ∨ q = 8 ∨ q = 9 ∨ q = 10 := by omega
  rcases hq with rfl | rfl | rfl | rfl | rfl | rfl | rfl | rfl | rfl | rfl | rfl
  · exact f12
  · exact f13
  · exact dr_lw hD hs hw
  · exact dr_mean hD m3
  · show I (r + 4) (s / 6) + 100 = I' (g + 3) (s / 6) + 100
    rw [t4 _ (by omega)]
  · exact f9
  · exact hD.1
  · show lenOf I r n l - I t 11 = I' (g + 1) l - I' u 7
    rw [lenOf, if_pos hl, (t3 l hl).1, f11]
  · rfl
  · show (if I t 11 = 0 then nI l else 99) = (if I' u 7 = 0 then nI l else 99)
    rw [f11]
  · exact hld
theorem tr_st {I I' : Mem} {t u m : Nat} {x : Int32} (h : TR I I' t u m) : TR (up2 I t 8 x) (up2 I' u 5 x) t u m := by
  obtain ⟨⟨m1, m2, m3⟩, ⟨f4, f5, f6, f7, f8, f9, f10, f11, f12, f13, f14⟩, hD, hC, hG, hGs⟩ := h
  refine ⟨⟨by simp [up2, m1], by simp [up2, m2], m3⟩, by simp [up2, f4, f5, f6, f7, f8, f9, f10, f11, f12, f13, f14], hD.keep (by simp [up2]) (by simp [up2]) (fun b k h1 h2 h3 => up2_a (by omega)) (fun b k h1 h2 h3 => up2_a (by omega)), fun k hk => by simp [up2, hC k hk], by simp [up2, hG], fun k hk => ?_⟩
  have hk' : k < mG I' u := by
    have e : mG (up2 I' u 5 x) u = mG I' u := by rw [mG, mG, up2_k (by decide)]
    rw [e] at hk
    exact hk
  rw [up2_a (by omega), up2_a (by omega), up2_a (by omega), up2_a (by omega)]
  exact hGs k hk'
theorem tr_leg {I I' : Mem} {t u m : Nat} {x : Int32} (h : TR I I' t u m) : TR (up2 I t 10 x) (up2 I' u 6 x) t u m := by
  obtain ⟨⟨m1, m2, m3⟩, ⟨f4, f5, f6, f7, f8, f9, f10, f11, f12, f13, f14⟩, hD, hC, hG, hGs⟩ := h
  refine ⟨⟨by simp [up2, m1], by simp [up2, m2], m3⟩, by simp [up2, f4, f5, f6, f7, f8, f9, f10, f11, f12, f13, f14], hD.keep (by simp [up2]) (by simp [up2]) (fun b k h1 h2 h3 => up2_a (by omega)) (fun b k h1 h2 h3 => up2_a (by omega)), fun k hk => by simp [up2, hC k hk], by simp [up2, hG], fun k hk => ?_⟩
  have hk' : k < mG I' u := by
    have e : mG (up2 I' u 6 x) u = mG I' u := by rw [mG, mG, up2_k (by decide)]
    rw [e] at hk
    exact hk
  rw [up2_a (by omega), up2_a (by omega), up2_a (by omega), up2_a (by omega)]
  exact hGs k hk'
theorem tr_far {I I' : Mem} {t u m : Nat} {x : Int32} (h : TR I I' t u m) : TR (up2 I t 11 x) (up2 I' u 7 x) t u m := by
  obtain ⟨⟨m1, m2, m3⟩, ⟨f4, f5, f6, f7, f8, f9, f10, f11, f12, f13, f14⟩, hD, hC, hG, hGs⟩ := h
  refine ⟨⟨by simp [up2, m1], by simp [up2, m2], m3⟩, by simp [up2, f4, f5, f6, f7, f8, f9, f10, f11, f12, f13, f14], hD.keep (by simp [up2]) (by simp [up2]) (fun b k h1 h2 h3 => up2_a (by omega)) (fun b k h1 h2 h3 => up2_a (by omega)), fun k hk => by simp [up2, hC k hk], by simp [up2, hG], fun k hk => ?_⟩
  have hk' : k < mG I' u := by
    have e : mG (up2 I' u 7 x) u = mG I' u := by rw [mG, mG, up2_k (by decide)]
    rw [e] at hk
    exact hk
  rw [up2_a (by omega), up2_a (by omega), up2_a (by omega), up2_a (by omega)]
  exact hGs k hk'
theorem tr_run {I I' : Mem} {t u m : Nat} {x : Int32} (h : TR I I' t u m) : TR (up2 I t 12 x) (up2 I' u 8 x) t u m := by
  obtain ⟨⟨m1, m2, m3⟩, ⟨f4, f5, f6, f7, f8, f9, f10, f11, f12, f13, f14⟩, hD, hC, hG, hGs⟩ := h
  refine ⟨⟨by simp [up2, m1], by simp [up2, m2], m3⟩, by simp [up2, f4, f5, f6, f7, f8, f9, f10, f11, f12, f13, f14], hD.keep (by simp [up2]) (by simp [up2]) (fun b k h1 h2 h3 => up2_a (by omega)) (fun b k h1 h2 h3 => up2_a (by omega)), fun k hk => by simp [up2, hC k hk], by simp [up2, hG], fun k hk => ?_⟩
  have hk' : k < mG I' u := by
    have e : mG (up2 I' u 8 x) u = mG I' u := by rw [mG, mG, up2_k (by decide)]
    rw [e] at hk
    exact hk
  rw [up2_a (by omega), up2_a (by omega), up2_a (by omega), up2_a (by omega)]
  exact hGs k hk'
theorem tr_rst {I I' : Mem} {t u m : Nat} {x : Int32} (h : TR I I' t u m) : TR (up2 I t 13 x) (up2 I' u 9 x) t u m := by
  obtain ⟨⟨m1, m2, m3⟩, ⟨f4, f5, f6, f7, f8, f9, f10, f11, f12, f13, f14⟩, hD, hC, hG, hGs⟩ := h
  refine ⟨⟨by simp [up2, m1], by simp [up2, m2], m3⟩, by simp [up2, f4, f5, f6, f7, f8, f9, f10, f11, f12, f13, f14], hD.keep (by simp [up2]) (by simp [up2]) (fun b k h1 h2 h3 => up2_a (by omega)) (fun b k h1 h2 h3 => up2_a (by omega)), fun k hk => by simp [up2, hC k hk], by simp [up2, hG], fun k hk => ?_⟩
  have hk' : k < mG I' u := by
    have e : mG (up2 I' u 9 x) u = mG I' u := by rw [mG, mG, up2_k (by decide)]
    rw [e] at hk
    exact hk
  rw [up2_a (by omega), up2_a (by omega), up2_a (by omega), up2_a (by omega)]
  exact hGs k hk'
theorem tr_did {I I' : Mem} {t u m : Nat} {x : Int32} (h : TR I I' t u m) : TR (up2 I t 14 x) (up2 I' u 10 x) t u m := by
  obtain ⟨⟨m1, m2, m3⟩, ⟨f4, f5, f6, f7, f8, f9, f10, f11, f12, f13, f14⟩, hD, hC, hG, hGs⟩ := h
  refine ⟨⟨by simp [up2, m1], by simp [up2, m2], m3⟩, by simp [up2, f4, f5, f6, f7, f8, f9, f10, f11, f12, f13, f14], hD.keep (by simp [up2]) (by simp [up2]) (fun b k h1 h2 h3 => up2_a (by omega)) (fun b k h1 h2 h3 => up2_a (by omega)), fun k hk => by simp [up2, hC k hk], by simp [up2, hG], fun k hk => ?_⟩
  have hk' : k < mG I' u := by
    have e : mG (up2 I' u 10 x) u = mG I' u := by rw [mG, mG, up2_k (by decide)]
    rw [e] at hk
    exact hk
  rw [up2_a (by omega), up2_a (by omega), up2_a (by omega), up2_a (by omega)]
  exact hGs k hk'
theorem tr_mls {I I' : Mem} {t u m : Nat} {x : Int32} (h : TR I I' t u m) : TR (up2 I t 9 x) (up2 I' u 2 x) t u m := by
  obtain ⟨⟨m1, m2, m3⟩, ⟨f4, f5, f6, f7, f8, f9, f10, f11, f12, f13, f14⟩, hD, hC, hG, hGs⟩ := h
  refine ⟨⟨by simp [up2, m1], by simp [up2, m2], m3⟩, by simp [up2, f4, f5, f6, f7, f8, f9, f10, f11, f12, f13, f14], hD.keep (by simp [up2]) (by simp [up2]) (fun b k h1 h2 h3 => up2_a (by omega)) (fun b k h1 h2 h3 => up2_a (by omega)), fun k hk => by simp [up2, hC k hk], by simp [up2, hG], fun k hk => ?_⟩
  have hk' : k < mG I' u := by
    have e : mG (up2 I' u 2 x) u = mG I' u := by rw [mG, mG, up2_k (by decide)]
    rw [e] at hk
    exact hk
  rw [up2_a (by omega), up2_a (by omega), up2_a (by omega), up2_a (by omega)]
  exact hGs k hk'
theorem tr_pln {I I' : Mem} {t u m : Nat} {x : Int32} (h : TR I I' t u m) : TR (up2 I t 7 x) (up2 I' u 4 x) t u m := by
  obtain ⟨⟨m1, m2, m3⟩, ⟨f4, f5, f6, f7, f8, f9, f10, f11, f12, f13, f14⟩, hD, hC, hG, hGs⟩ := h
  refine ⟨⟨by simp [up2, m1], by simp [up2, m2], m3⟩, by simp [up2, f4, f5, f6, f7, f8, f9, f10, f11, f12, f13, f14], hD.keep (by simp [up2]) (by simp [up2]) (fun b k h1 h2 h3 => up2_a (by omega)) (fun b k h1 h2 h3 => up2_a (by omega)), fun k hk => by simp [up2, hC k hk], by simp [up2, hG], fun k hk => ?_⟩
  have hk' : k < mG I' u := by
    have e : mG (up2 I' u 4 x) u = mG I' u := by rw [mG, mG, up2_k (by decide)]
    rw [e] at hk
    exact hk
  rw [up2_a (by omega), up2_a (by omega), up2_a (by omega), up2_a (by omega)]
  exact hGs k hk'
theorem tr_ld {I I' : Mem} {t u m : Nat} {x : Int32} (h : TR I I' t u m) : TR I (up2 I' u 1 x) t u m := by
  obtain ⟨⟨m1, m2, m3⟩, ⟨f4, f5, f6, f7, f8, f9, f10, f11, f12, f13, f14⟩, hD, hC, hG, hGs⟩ := h
  refine ⟨⟨m1, by simp [up2, m2], m3⟩, by simp [up2, f4, f5, f6, f7, f8, f9, f10, f11, f12, f13, f14], hD.keep rfl rfl (fun b k h1 h2 h3 => rfl) (fun b k h1 h2 h3 => up2_a (by omega)), fun k hk => by simp [up2, hC k hk], by simp [up2, hG], fun k hk => ?_⟩
  have hk' : k < mG I' u := by
    have e : mG (up2 I' u 1 x) u = mG I' u := by rw [mG, mG, up2_k (by decide)]
    rw [e] at hk
    exact hk
  rw [up2_a (by omega), up2_a (by omega)]
  exact hGs k hk'
theorem tr_cam {I I' : Mem} {t u m j : Nat} {x : Int32} (h : TR I I' t u m) : TR (up2 I (t + 8) j x) (up2 I' (u + 4) j x) t u m := by
  obtain ⟨⟨m1, m2, m3⟩, ⟨f4, f5, f6, f7, f8, f9, f10, f11, f12, f13, f14⟩, hD, hC, hG, hGs⟩ := h
  refine ⟨⟨by simp [up2, m1], by simp [up2, m2], m3⟩, by simp [up2, f4, f5, f6, f7, f8, f9, f10, f11, f12, f13, f14], hD.keep (by simp [up2]) (by simp [up2]) (fun b k h1 h2 h3 => up2_a (by omega)) (fun b k h1 h2 h3 => up2_a (by omega)), fun k hk => ?_, by simp [up2, hG], fun k hk => ?_⟩
  · obtain ⟨c1, c2⟩ := hC k hk
    by_cases hkj : k = j
    · subst hkj; simp [up2, c1, c2]
    · simp [up2, hkj, c1, c2]
  · have hk' : k < mG I' u := by
      have e : mG (up2 I' (u + 4) j x) u = mG I' u := by rw [mG, mG, up2_a (by omega)]
      rw [e] at hk
      exact hk
    rw [up2_a (by omega), up2_a (by omega), up2_a (by omega), up2_a (by omega)]
    exact hGs k hk'
theorem tr_wnt {I I' : Mem} {t u m j : Nat} {x : Int32} (h : TR I I' t u m) : TR (up2 I (t + 9) j x) (up2 I' (u + 5) j x) t u m := by
  obtain ⟨⟨m1, m2, m3⟩, ⟨f4, f5, f6, f7, f8, f9, f10, f11, f12, f13, f14⟩, hD, hC, hG, hGs⟩ := h
  refine ⟨⟨by simp [up2, m1], by simp [up2, m2], m3⟩, by simp [up2, f4, f5, f6, f7, f8, f9, f10, f11, f12, f13, f14], hD.keep (by simp [up2]) (by simp [up2]) (fun b k h1 h2 h3 => up2_a (by omega)) (fun b k h1 h2 h3 => up2_a (by omega)), fun k hk => ?_, by simp [up2, hG], fun k hk => ?_⟩
  · obtain ⟨c1, c2⟩ := hC k hk
    by_cases hkj : k = j
    · subst hkj; simp [up2, c1, c2]
    · simp [up2, hkj, c1, c2]
  · have hk' : k < mG I' u := by
      have e : mG (up2 I' (u + 5) j x) u = mG I' u := by rw [mG, mG, up2_a (by omega)]
      rw [e] at hk
      exact hk
    rw [up2_a (by omega), up2_a (by omega), up2_a (by omega), up2_a (by omega)]
    exact hGs k hk'
theorem tr_dr {I I' I1 I1' : Mem} {t u m : Nat} (h : TR I I' t u m) (hD1 : DR I1 I1' (t + 1) u m) (hc : ∀ b k, b = t ∨ (b = t + 1 ∧ k = 3) ∨ (t + 5 ≤ b ∧ b ≤ t + 9) → I1 b k = I b k) (hm : ∀ b k, b = u ∨ (u + 4 ≤ b ∧ b ≤ u + 9) → I1' b k = I' b k) : TR I1 I1' t u m := by
  obtain ⟨⟨m1, m2, m3⟩, ⟨f4, f5, f6, f7, f8, f9, f10, f11, f12, f13, f14⟩, hD, hC, hG, hGs⟩ := h
  have ct : ∀ k, I1 t k = I t k := fun k => hc t k (by omega)
  have cu : ∀ k, I1' u k = I' u k := fun k => hm u k (by omega)
  refine ⟨⟨(hc _ _ (by omega)).trans m1, (cu _).trans m2, m3⟩, ?_, hD1, fun k hk => ?_, ?_, fun k hk => ?_⟩
  · simp only [ct, cu]
    exact ⟨f4, f5, f6, f7, f8, f9, f10, f11, f12, f13, f14⟩
  · rw [hc _ _ (by omega), hc _ _ (by omega), hm _ _ (by omega), hm _ _ (by omega)]; exact hC k hk
  · rw [hc _ _ (by omega), cu]; exact hG
  · have e : mG I1' u = mG I' u := by rw [mG, mG, cu]
    rw [e] at hk
    rw [hc _ _ (by omega), hc _ _ (by omega), hm _ _ (by omega), hm _ _ (by omega)]
    exact hGs k hk
/-- the class's plan p in I is the reference's plan q in I' -/
def PlR (I I' : Mem) (p g q : Nat) : Prop := PlanOK I p (pN I p) ∧ MplOK I' g q ∧ pN I p = mNr I' g q ∧ I p 7 = mTs I' g q (mNr I' g q) ∧
  ∀ j, j < mNr I' g q → I (p + 1) j = I' (g + 22) (12 * q + j) ∧ pC I p j = mTc I' g (12 * q + j) ∧ ∀ i, i < mTc I' g (12 * q + j) → ∃ nm, nm ≤ 10 ∧ I (p + 4) (pF I p j + i) = nI nm ∧ I' (g + 24) (4 * (12 * q + j) + i) = nI nm ∧ I (p + 5) (pF I p j + i) = I' (g + 25) (4 * (12 * q + j) + i) ∧ (I (p + 6) (pF I p j + i) = 0 ↔ ¬ I' (g + 26) (4 * (12 * q + j) + i) = 0)
theorem fst1_c {f f' : Nat → Bool} : ∀ {n : Nat}, (∀ k, k < n → f k = f' k) → fst1 f n = fst1 f' n := by
  intro n h
  rcases h1 : fst1 f' n with _ | j
  · exact fst1_none (fun q hq => (h q hq).trans (fst1_nn h1 q hq))
  · obtain ⟨a, b, c⟩ := fst1_spec h1
    exact fst1_some ((h j a).trans b) (fun q hq => (h q (by omega)).trans (c q hq)) a
theorem mHol_all {I : Mem} {g t m w l s r : Nat} : ∀ j, mHol I g t m w l s r j = (List.range j).all fun i => mTst I g t m w l s (4 * r + i)
  | 0 => rfl
  | j + 1 => by rw [mHol, mHol_all j, List.range_succ, List.all_append]; simp
theorem rule_eq {I I' : Mem} {t u r g m w n l s p q : Nat} (h : TR I I' t u m) (hld : tLoad I t = I' u 1) (hT : TlR I I' r (g + 1) (g + 2) (g + 3) n) (hs : StrOK I' u m) (hw : dWeak I' u m = some w) (hl : l < n) (hs2 : s < 2000) (hP : PlR I I' p g q) : pRule I p t r m n l s (pN I p) = mRule I' g u m w l s q := by
  obtain ⟨p1, p2, p3, -, p4⟩ := hP
  rw [pRule, mRule, p3]
  refine fst1_c (fun j hj => ?_)
  obtain ⟨-, c1, c2⟩ := p4 j hj
  rw [mHol_all, pHolds, c1]
  refine Bool.eq_iff_iff.mpr ?_
  rw [List.all_eq_true, List.all_eq_true]
  have key : ∀ i, i < mTc I' g (12 * q + j) → pTest I p t r m n l s (pF I p j + i) = mTst I' g u m w l s (4 * (12 * q + j) + i) := fun i hi => by
    obtain ⟨nm, n1, n2, n3, n4, n5⟩ := c2 i hi
    rw [pTest, mTst, n2, n3, n4, val_eq h hld hT hs hw hl hs2 n1]
    by_cases hz : I' (g + 26) (4 * (12 * q + j) + i) = 0
    · rw [if_neg (fun z => (n5.mp z) hz), if_pos hz]
    · rw [if_pos (n5.mpr hz), if_neg hz]
  exact ⟨fun z i hi => by rw [← key i (List.mem_range.mp hi)]; exact z i hi, fun z i hi => by rw [key i (List.mem_range.mp hi)]; exact z i hi⟩
theorem act_eq {I I' : Mem} {p g q : Nat} (hP : PlR I I' p g q) {o : Option Nat} (ho : ∀ j, o = some j → j < mNr I' g q) : pAct I p o = mAct I' g q o := by
  cases o with
  | none => rfl
  | some j => exact (hP.2.2.2.2 j (ho j rfl)).1
