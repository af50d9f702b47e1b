/-! ===== phase 2: a step of a team ===== -/
theorem share_d {x : Int32} {y : Nat} (hy : 0 < y) (hy2 : y < 2 ^ 31) : share x (nI y) = x / nI y := by rw [share, if_pos (show (0 : Int32) < nI y from (nI_ltI (a := 0) (b := y) (by decide) hy2).mpr hy)]
theorem str_row {I I1 : Mem} {u m : Nat} (h : StrOK I u m) (hk : ∀ k, k < m → I1 (u + 1) k = I (u + 1) k) : StrOK I1 u m := fun k hk' => by rw [hk k hk']; exact h k hk'
theorem arr_sim {I I' : Mem} {t u m n l s : Nat} (h : TR I I' t u m) (hl : l < n) (hn : n ≤ 12) (hs : StrOK I' u m) : TR (tArrive I t m l n (nI s + 1)) (mArr I' u m l n s) t u m ∧ tLoad (tArrive I t m l n (nI s + 1)) t = mArr I' u m l n s u 1 ∧ StrOK (mArr I' u m l n s) u m := by
  have m3 := h.1.2.2
  have h1 : TR (up2 (up2 (up2 I t 10 (nI (l + 1))) t 11 0) (t + 8) (l + 1) (nI s + 1)) (mArr0 I' u l s) t u m := tr_cam (tr_far (tr_leg h))
  have s1 : StrOK (mArr0 I' u l s) u m := str_row hs (fun k hk => by rw [mArr0, up2_a (by omega), up2_a (by omega), up2_a (by omega)])
  rw [tArrive, mArr]
  generalize up2 (up2 (up2 I t 10 (nI (l + 1))) t 11 0) (t + 8) (l + 1) (nI s + 1) = A at *
  generalize mArr0 I' u l s = B at *
  have h2 : TR (dLc A (t + 1) (nI (l + 1)) m) (mLc B u (nI (l + 1)) m) t u m := tr_dr h1 (dr_lc h1.2.2.1 m3 m (Nat.le_refl m)) (fun b k q => dLc_k _ _ _ (by omega) (by omega) (by omega) m) (fun b k q => mLc_k (by omega) (by omega) m)
  have h3 : TR (dLc A (t + 1) (nI (l + 1)) m) (mArr1 B u m l) t u m := tr_ld h2
  have hl3 : tLoad (dLc A (t + 1) (nI (l + 1)) m) t = mArr1 B u m l u 1 := by
    rw [mArr1, up2_same, tLoad, h2.2.1.1, h2.2.2.1.2.1, mOf_no (fun k hk => mLc_no1 m k hk)]
    show _ + (25 : Int32) * 0 = _
    rw [Int32.mul_zero, Int32.add_zero]
  have s3 : StrOK (mArr1 B u m l) u m := str_row s1 (fun k hk => by rw [mArr1, up2_a (by omega), mLc_k (by omega) (by omega)])
  by_cases hc : l + 1 < n
  · rw [if_pos hc, if_neg (by omega)]
    exact ⟨h3, hl3, s3⟩
  · rw [if_neg hc, if_pos (by omega)]
    refine ⟨tr_st h3, ?_, str_row s3 (fun k hk => up2_a (by omega))⟩
    rw [up2_k (by decide), ← hl3, tLoad, tLoad, up2_k (by decide), up2_a (by omega)]
theorem goZ_sim {I I' : Mem} {t u r g m n l s hd ow : Nat} (h : TR I I' t u m) (hs : StrOK I' u m) (hl : l < n) (hn : n ≤ 12) (hlen : I (r + 1) l = I' (g + 1) l) (hh : I' (g + 2) l = nI hd) (hd1 : 50 ≤ hd) (hd2 : hd ≤ 200) (how : I' u 13 = nI ow) (how3 : ow ≤ 300) (hgu : g + 3 < u) (hrt : r + 4 < t ∨ t + 9 < r) :
    TR (tGoZ I t r m n l s (nI hd)) (mGoY I' g u m l n s) t u m ∧ tLoad (tGoZ I t r m n l s (nI hd)) t = mGoY I' g u m l n s u 1 ∧ StrOK (mGoY I' g u m l n s) u m := by
  rw [mGoY]
  have h4 : TR I (up2 I' u 1 (I' u 13 + 25 * mOf I' u 1 m)) t u m := tr_ld h
  have hl4 : tLoad I t = up2 I' u 1 (I' u 13 + 25 * mOf I' u 1 m) u 1 := by rw [up2_same, tLoad, h.2.1.1, h.2.2.1.2.1]
  have s4 : StrOK (up2 I' u 1 (I' u 13 + 25 * mOf I' u 1 m)) u m := str_row hs (fun k hk => up2_a (by omega))
  obtain ⟨ca, hca, eca⟩ := mOf_nI I' u 1 m
  have e1 : up2 I' u 1 (I' u 13 + 25 * mOf I' u 1 m) u 1 = nI (ow + 25 * ca) := by
    rw [up2_same, how, eca, show (25 : Int32) * nI ca = nI (25 * ca) from pk_mul 25 ca, nI_add]
  have hlen4 : I (r + 1) l = up2 I' u 1 (I' u 13 + 25 * mOf I' u 1 m) (g + 1) l := by rw [up2_a (by omega)]; exact hlen
  have hh4 : up2 I' u 1 (I' u 13 + 25 * mOf I' u 1 m) (g + 2) l = nI hd := by rw [up2_a (by omega)]; exact hh
  generalize up2 I' u 1 (I' u 13 + 25 * mOf I' u 1 m) = B at *
  have m3 := h.1.2.2
  rw [tGoZ, mGoZ, h4.2.2.1.1]
  by_cases h0 : mOf B u 0 m = 0
  · rw [if_pos h0, if_pos h0]
    refine ⟨tr_st h4, ?_, str_row s4 (fun k hk => up2_a (by omega))⟩
    rw [up2_k (by decide), ← hl4, tLoad, tLoad, up2_k (by decide), up2_a (by omega)]
  · rw [if_neg h0, if_neg h0]
    obtain ⟨cb, hcb, ecb⟩ := mOf_nI B u 0 m
    have hcb0 : 0 < cb := by
      rcases Nat.eq_zero_or_pos cb with z | z
      · exact absurd (by rw [ecb, z]; rfl) h0
      · exact z
    have hr : tReach I t m (nI hd) = mReach B g u m l := by
      rw [tReach, mReach, h4.2.2.1.1, dr_mean h4.2.2.1 m3, hl4, hh4, e1, ecb, show (1000 : Int32) * nI hd = nI (1000 * hd) from pk_mul 1000 hd, show (20 : Int32) * nI cb = nI (20 * cb) from pk_mul 20 cb, nI_add, share_d (by omega) (by omega), share_d (by omega) (by omega)]
    have hfe : I t 11 + tReach I t m (nI hd) = B u 7 + mReach B g u m l := by rw [hr, h4.2.1.2.2.2.2.2.2.2.1]
    rw [hfe]
    generalize B u 7 + mReach B g u m l = f
    have h5 : TR (up2 I t 11 f) (up2 B u 7 f) t u m := tr_far h4
    have hl5 : tLoad (up2 I t 11 f) t = up2 B u 7 f u 1 := by rw [up2_k (by decide), ← hl4, tLoad, tLoad, up2_k (by decide), up2_a (by omega)]
    have s5 : StrOK (up2 B u 7 f) u m := str_row s4 (fun k hk => up2_a (by omega))
    rw [mGoW, lenOf, if_pos hl, up2_same, up2_same, up2_a (by omega), up2_a (by omega), hlen4]
    by_cases hf : f < B (g + 1) l
    · rw [if_pos hf, if_pos hf]
      exact ⟨h5, hl5, s5⟩
    · rw [if_neg hf, if_neg hf]
      exact arr_sim h5 hl hn s5
theorem bm32 {n : Int} (h1 : -2 ^ 31 ≤ n) (h2 : n < 2 ^ 31) : n.bmod (2 ^ 32) = n := by
  rw [Int.bmod_def]; omega
theorem heat_N {c : Int32} (h1 : -50 ≤ c) (h2 : c ≤ 20) : ∃ x, x ≤ 10 ∧ tHeat c = nI x := by
  unfold tHeat
  by_cases hc : -10 < c
  · rw [if_pos hc]
    have b1 : c.toInt ≤ 20 := by simpa [Int32.le_iff_toInt_le] using h2
    have b2 : -10 < c.toInt := by simpa [Int32.lt_iff_toInt_lt] using hc
    have hx : ¬ c + 10 < 0 := by
      rw [Int32.lt_iff_toInt_lt, Int32.toInt_add]
      have e10 : (10 : Int32).toInt = 10 := rfl
      have e0 : (0 : Int32).toInt = 0 := rfl
      rw [e10, e0, bm32 (by omega) (by omega)]
      omega
    obtain ⟨k, hk, e⟩ := nI_of hx
    have ek : (k : Int) = c.toInt + 10 := by
      rw [← nI_toInt hk, ← e, Int32.toInt_add]
      have e10 : (10 : Int32).toInt = 10 := rfl
      rw [e10, bm32 (by omega) (by omega)]
    rw [e]
    exact ⟨k / 3, by omega, pk_div (d := 3) (by omega) (by decide) (by decide)⟩
  · rw [if_neg hc]
    exact ⟨0, by omega, rfl⟩
/-- a leg's numbers, the days' degrees -/
def TlOK (I' : Mem) (g n : Nat) : Prop := (∀ k, k < n → ∃ hd, 50 ≤ hd ∧ hd ≤ 200 ∧ I' (g + 2) k = nI hd) ∧ ∀ k, k < 334 → -50 ≤ I' (g + 3) k ∧ I' (g + 3) k ≤ 20
theorem goX_sim {I I' : Mem} {t u r g m n l s hd ow : Nat} (h : TR I I' t u m) (hld : tLoad I t = I' u 1) (hs : StrOK I' u m) (hl : l < n) (hn : n ≤ 12) (hlen : I (r + 1) l = I' (g + 1) l) (hh : I' (g + 2) l = nI hd) (hd1 : 50 ≤ hd) (hd2 : hd ≤ 200) (hc1 : -50 ≤ I' (g + 3) (s / 6)) (hc2 : I' (g + 3) (s / 6) ≤ 20) (hcc : I (r + 4) (s / 6) = I' (g + 3) (s / 6)) (how : I' u 13 = nI ow) (how3 : ow ≤ 300) (hgu : g + 3 < u) (hrt : r + 4 < t ∨ t + 9 < r) :
    TR (tGoX I t r m n l s (nI hd)) (mGoX I' g u m l n s (I' (g + 3) (s / 6))) t u m ∧ tLoad (tGoX I t r m n l s (nI hd)) t = mGoX I' g u m l n s (I' (g + 3) (s / 6)) u 1 ∧ StrOK (mGoX I' g u m l n s (I' (g + 3) (s / 6))) u m := by
  rw [tGoX, mGoX, tGoY]
  have h1 : TR (up2 (up2 I t 12 (I t 12 + 1)) t 13 0) (up2 (up2 I' u 8 (I' u 8 + 1)) u 9 0) t u m := by
    rw [h.2.1.2.2.2.2.2.2.2.2.1]
    exact tr_rst (tr_run h)
  have s1 : StrOK (up2 (up2 I' u 8 (I' u 8 + 1)) u 9 0) u m := str_row hs (fun k hk => (up2_a (by omega)).trans (up2_a (by omega)))
  have l1 : tLoad (up2 (up2 I t 12 (I t 12 + 1)) t 13 0) t = I' u 1 := by rw [← hld, tLoad, tLoad, up2_k (by decide), up2_k (by decide), up2_a (by omega), up2_a (by omega)]
  have c1 : up2 (up2 I t 12 (I t 12 + 1)) t 13 0 (r + 4) (s / 6) = I' (g + 3) (s / 6) := by rw [up2_a (by omega), up2_a (by omega)]; exact hcc
  have o1 : up2 (up2 I' u 8 (I' u 8 + 1)) u 9 0 u 13 = nI ow := by rw [up2_k (by decide), up2_k (by decide)]; exact how
  have hh1 : up2 (up2 I' u 8 (I' u 8 + 1)) u 9 0 (g + 2) l = nI hd := by rw [up2_a (by omega), up2_a (by omega)]; exact hh
  have n1 : up2 (up2 I t 12 (I t 12 + 1)) t 13 0 (r + 1) l = up2 (up2 I' u 8 (I' u 8 + 1)) u 9 0 (g + 1) l := by rw [up2_a (by omega), up2_a (by omega), up2_a (by omega), up2_a (by omega)]; exact hlen
  rw [l1, c1, hh]
  generalize up2 (up2 I t 12 (I t 12 + 1)) t 13 0 = A at *
  generalize up2 (up2 I' u 8 (I' u 8 + 1)) u 9 0 = B at *
  obtain ⟨ca, hca, eca⟩ := mOf_nI I' u 1 m
  have m3 := h.1.2.2
  have eL : I' u 1 = nI (ow + 25 * ca) := by
    rw [← hld, tLoad, h.2.1.1, h.2.2.1.2.1, how, eca, show (25 : Int32) * nI ca = nI (25 * ca) from pk_mul 25 ca, nI_add]
  obtain ⟨q, hq, eq⟩ := heat_N hc1 hc2
  have eX : 6 + I' u 1 / 40 + nI hd / 25 + tHeat (I' (g + 3) (s / 6)) = nI (6 + (ow + 25 * ca) / 40 + hd / 25 + q) := by
    rw [eL, eq, show nI (ow + 25 * ca) / 40 = nI ((ow + 25 * ca) / 40) from pk_div (d := 40) (by omega) (by decide) (by decide), show nI hd / 25 = nI (hd / 25) from pk_div (d := 25) (by omega) (by decide) (by decide), show (6 : Int32) + nI ((ow + 25 * ca) / 40) = nI (6 + (ow + 25 * ca) / 40) from nI_add 6 _, nI_add, nI_add]
  rw [eX]
  generalize hxx : 6 + (ow + 25 * ca) / 40 + hd / 25 + q = x
  have hx1 : x ≤ 100000 := by omega
  have h2 : TR (dLose A (t + 1) (nI x) m) (mLose B u (nI x) m) t u m := tr_dr h1 (dr_lose h1.2.2.1 (nI x) m (Nat.le_refl m)) (fun b k z => dLose_k _ _ _ (by omega) (by omega) (by omega) m) (fun b k z => mLose_k (by omega) (by omega) m)
  refine goZ_sim h2 (str_lose s1 hx1 m) hl hn ?_ ?_ hd1 hd2 ?_ how3 hgu hrt
  · rw [dLose_k _ _ _ (by omega) (by omega) (by omega), mLose_k (by omega) (by omega)]; exact n1
  · rw [mLose_k (by omega) (by omega)]; exact hh1
  · rw [mLose_k (by omega) (by omega)]; exact o1
theorem go_sim {I I' : Mem} {t u r g m n l s ow : Nat} (h : TR I I' t u m) (hld : tLoad I t = I' u 1) (hs : StrOK I' u m) (hl : l < n) (hT : TlR I I' r (g + 1) (g + 2) (g + 3) n) (hO : TlOK I' g n) (hs2 : s < 2000) (how : I' u 13 = nI ow) (how3 : ow ≤ 300) (hgu : g + 3 < u) (hrt : r + 4 < t ∨ t + 9 < r) :
    TR (tGo I t r m n l s) (mGo I' g u m l n s (I' (g + 3) (s / 6))) t u m ∧ tLoad (tGo I t r m n l s) t = mGo I' g u m l n s (I' (g + 3) (s / 6)) u 1 ∧ StrOK (mGo I' g u m l n s (I' (g + 3) (s / 6))) u m := by
  obtain ⟨t1, t2, t3, t4⟩ := hT
  obtain ⟨hd, d1, d2, d3⟩ := hO.1 l hl
  obtain ⟨c1, c2⟩ := hO.2 (s / 6) (by omega)
  rw [tGo, mGo, h.2.1.2.2.2.2.2.2.2.1, (h.2.2.2.1 l (by omega)).2, (t3 l hl).2, d3]
  by_cases hc : I' u 7 = 0 ∧ I' (u + 5) l = -1
  · rw [if_pos hc, if_pos hc]
    have e3 : up2 I' (u + 5) l (nI s) (g + 3) (s / 6) = I' (g + 3) (s / 6) := up2_a (by omega)
    have := goX_sim (I := up2 I (t + 9) l (nI s)) (I' := up2 I' (u + 5) l (nI s)) (t := t) (u := u) (r := r) (g := g) (m := m) (n := n) (l := l) (s := s) (hd := hd) (ow := ow) (tr_wnt h)
      (by rw [up2_a (by omega), ← hld, tLoad, tLoad, up2_a (by omega), up2_a (by omega)]) (str_row hs (fun k hk => up2_a (by omega))) hl t2 (by rw [up2_a (by omega), up2_a (by omega)]; exact (t3 l hl).1) (by rw [up2_a (by omega)]; exact d3) d1 d2 (by rw [e3]; exact c1) (by rw [e3]; exact c2) (by rw [up2_a (by omega), e3]; exact t4 _ (by omega)) (by rw [up2_a (by omega)]; exact how) how3 hgu hrt
    rw [e3] at this
    exact this
  · rw [if_neg hc, if_neg hc]
    exact goX_sim h hld hs hl t2 (t3 l hl).1 d3 d1 d2 c1 c2 (t4 _ (by omega)) how how3 hgu hrt
theorem pauZ_sim {I I' : Mem} {t u m : Nat} {c : Int32} (h : TR I I' t u m) (hld : tLoad I t = I' u 1) (hs : StrOK I' u m) : TR (tPauseZ I t m c) (mPauZ I' u m c) t u m ∧ tLoad (tPauseZ I t m c) t = mPauZ I' u m c u 1 ∧ StrOK (mPauZ I' u m c) u m := by
  obtain ⟨x, hx, ex⟩ : ∃ x, x ≤ 1000 ∧ tRestGain c = nI x := by
    unfold tRestGain
    split
    · exact ⟨10, by omega, rfl⟩
    · split
      · exact ⟨12, by omega, rfl⟩
      · exact ⟨15, by omega, rfl⟩
  rw [tPauseZ, mPauZ, ex]
  have h1 : TR (dGain I (t + 1) (nI x) m) (dGain I' u (nI x) m) t u m := tr_dr h (dr_gain h.2.2.1 (nI x) m (Nat.le_refl m)) (fun b k z => dGain_k _ _ _ (by omega) m) (fun b k z => dGain_k _ _ _ (by omega) m)
  have s1 := str_gain hs hx m
  have l1 : tLoad (dGain I (t + 1) (nI x) m) t = dGain I' u (nI x) m u 1 := by rw [dGain_k _ _ _ (by omega), ← hld, tLoad, tLoad, dGain_k _ _ _ (by omega), dGain_k _ _ _ (by omega)]
  generalize dGain I (t + 1) (nI x) m = A at *
  generalize dGain I' u (nI x) m = B at *
  refine ⟨?_, ?_, str_row s1 (fun k hk => (up2_a (by omega)).trans (up2_a (by omega)))⟩
  · rw [h1.2.1.2.2.2.2.2.2.2.2.2.1]
    exact tr_run (tr_rst h1)
  · rw [up2_k (by decide), up2_k (by decide), ← l1, tLoad, tLoad, up2_k (by decide), up2_k (by decide), up2_a (by omega), up2_a (by omega)]
theorem pau_sim {I I' : Mem} {t u m w l : Nat} {a c : Int32} (h : TR I I' t u m) (hld : tLoad I t = I' u 1) (hs : StrOK I' u m) (hw : dWeak I' u m = some w) : TR (tPause I t m a c) (mPau I' u m w a c) t u m ∧ tLoad (tPause I t m a c) t = mPau I' u m w a c u 1 ∧ StrOK (mPau I' u m w a c) u m := by
  have f9 : I t 9 = I' u 2 := h.2.1.2.2.2.2.2.1
  have f10 : I t 10 = I' u 6 := h.2.1.2.2.2.2.2.2.1
  have f11 : I t 11 = I' u 7 := h.2.1.2.2.2.2.2.2.2.1
  rw [tPause, mPau, f9, f10, f11, h.2.2.1.1]
  by_cases h1 : a = 2 ∧ 0 < I' u 2
  · rw [if_pos h1, if_pos h1]
    have k1 : TR (up2 I t 9 (I' u 2 - 1)) (up2 I' u 2 (I' u 2 - 1)) t u m := tr_mls h
    have k2 : TR (dGain (up2 I t 9 (I' u 2 - 1)) (t + 1) 120 m) (dGain (up2 I' u 2 (I' u 2 - 1)) u 120 m) t u m := tr_dr k1 (dr_gain k1.2.2.1 120 m (Nat.le_refl m)) (fun b k z => dGain_k _ _ _ (by omega) m) (fun b k z => dGain_k _ _ _ (by omega) m)
    refine pauZ_sim k2 ?_ (str_gain (x := 120) (str_row hs (fun k hk => up2_a (by omega))) (by omega) m)
    rw [dGain_k _ _ _ (by omega), up2_k (by decide), ← hld, tLoad, tLoad, dGain_k _ _ _ (by omega), dGain_k _ _ _ (by omega), up2_k (by decide), up2_a (by omega)]
  · rw [if_neg h1, if_neg h1]
    by_cases h2 : a = 3 ∧ I' u 7 = 0 ∧ 1 < mOf I' u 0 m
    · rw [if_pos h2, if_pos h2]
      have k2 : TR (dLeaveW I (t + 1) m (I' u 6)) (up2 (up2 I' (u + 2) w 2) (u + 3) w (I' u 6)) t u m := tr_dr h (dr_leave h.2.2.1 hw) (fun b k z => dLeaveW_k (by omega) (by omega) (by omega)) (fun b k z => (up2_a (by omega)).trans (up2_a (by omega)))
      refine pauZ_sim k2 ?_ (str_row hs (fun k hk => (up2_a (by omega)).trans (up2_a (by omega))))
      rw [up2_a (by omega), up2_a (by omega), ← hld, tLoad, tLoad, dLeaveW_k (by omega) (by omega) (by omega), dLeaveW_k (by omega) (by omega) (by omega)]
    · rw [if_neg h2, if_neg h2]
      exact pauZ_sim h hld hs
