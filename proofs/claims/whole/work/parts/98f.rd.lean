/-! ===== phase 2: a read text, its tape ===== -/
theorem adv_7 {I : Mem} {a k : Nat} (h : 7 ≤ k) : adv I a a k = I a k := by
  unfold adv tAdv setTok
  rw [up2_k (by omega), up2_k (by omega), up2_k (by omega), up2_k (by omega)]
theorem test_7 {I : Mem} {a p t x k : Nat} (hk : 7 ≤ k) (hap : a + 1 < p) (h : (rdTest I a p t x).1 = true) : (rdTest I a p t x).2 a k = I a k := by
  unfold rdTest at h ⊢
  split at h
  · cases h
  · rename_i q
    rw [if_neg q]
    split at h
    · cases h
    · rename_i q2
      rw [if_neg q2]
      unfold rdTest1 at h ⊢
      split at h
      · rename_i q3
        rw [if_pos q3]
        generalize (if adv I a a 4 = 4 then (1 : Int32) else 0) = v at h ⊢
        unfold rdTest2 at h ⊢
        split at h
        · rename_i q4
          rw [if_pos q4]
          simp (disch := omega) only [adv_7, up2_a]
        · cases h
      · cases h
theorem ts_7 {a p k : Nat} (hk : 7 ≤ k) (hap : a + 1 < p) : ∀ (f : Nat) (I : Mem) (t x : Nat), (rdTs I a p t x f).1 = true → (rdTs I a p t x f).2 a k = I a k
  | 0, I, t, x, _ => rfl
  | f + 1, I, t, x, h => by
    rw [rdTs] at h ⊢
    split at h
    · rename_i q
      rw [if_pos q]
      have h1 : (rdTest (adv I a) a p t x).2 a k = I a k := (test_7 hk hap q).trans (adv_7 hk)
      split at h
      · rename_i q2
        rw [if_pos q2]
        exact (ts_7 hk hap f _ _ _ h).trans h1
      · rename_i q2
        rw [if_neg q2]
        exact h1
    · cases h
theorem end_7 {I : Mem} {a p nr k : Nat} (hk : 7 ≤ k) (hap : a + 1 < p) (h : (rdEnd I a p nr).1 = true) : (rdEnd I a p nr).2 a k = I a k := by
  unfold rdEnd at h ⊢
  split at h
  · cases h
  · rename_i q
    rw [if_neg q]
    simp (disch := omega) only [adv_7, up2_a]
theorem rule_7 {I : Mem} {a p t nr k : Nat} (hk : 7 ≤ k) (hap : a + 1 < p) (h : (rdRule I a p t nr).1 = true) : (rdRule I a p t nr).2 a k = I a k := by
  unfold rdRule at h ⊢
  split at h
  · cases h
  · rename_i q
    rw [if_neg q]
    split at h
    · cases h
    · rename_i q2
      rw [if_neg q2]
      split at h
      · rename_i q3
        rw [if_pos q3]
        split at h
        · rename_i q4
          rw [if_pos q4]
          exact (end_7 hk hap h).trans ((ts_7 hk hap 5 _ _ _ q4).trans (up2_a (by omega)))
        · cases h
      · rename_i q3
        rw [if_neg q3]
        exact (end_7 hk hap h).trans (up2_a (by omega))
theorem rs_7 {a p k : Nat} (hk : 7 ≤ k) (hap : a + 1 < p) : ∀ (f : Nat) (I : Mem), (rdRs I a p f).1 = true → (rdRs I a p f).2 a k = I a k
  | 0, I, h => by cases h
  | f + 1, I, h => by
    rw [rdRs] at h ⊢
    split at h
    · rename_i q
      rw [if_pos q]
      have h1 := rule_7 hk hap q
      split at h
      · rename_i q2
        rw [if_pos q2]; exact h1
      · rename_i q2
        rw [if_neg q2]
        split at h
        · rename_i q3
          rw [if_pos q3]
          exact (rs_7 hk hap f _ h).trans ((adv_7 hk).trans h1)
        · cases h
    · cases h
theorem plan_7 {I : Mem} {a p k : Nat} (hk : 7 ≤ k) (hap : a + 1 < p) (h : (rdPlan I a p).1 = true) : (rdPlan I a p).2 a k = I a k := (rs_7 hk hap 13 _ h).trans (by rw [up2_a (by omega), up2_a (by omega)])
theorem num_7 {I : Mem} {a y i k : Nat} (hk : 7 ≤ k) (hy : y ≠ a) (h : (rdNum I a y i).1 = true) : (rdNum I a y i).2 a k = I a k := by
  unfold rdNum at h ⊢
  split at h
  · rename_i q
    rw [if_pos q]
    exact (adv_7 hk).trans (up2_a (by omega))
  · cases h
theorem tail_7 {I : Mem} {a y i k : Nat} {bs : List Int32} (hk : 7 ≤ k) (hy : y ≠ a) (h : (rdTail I a y i bs).1 = true) : (rdTail I a y i bs).2 a k = I a k := by
  unfold rdTail at h ⊢
  split at h
  · rename_i q
    rw [if_pos q]
    exact (num_7 hk hy h).trans (adv_7 hk)
  · cases h
theorem law_7 {I : Mem} {a b i k : Nat} (hk : 7 ≤ k) (hab : a + 1 < b) (h : (rdLaw I a b i).1 = true) : (rdLaw I a b i).2 a k = I a k := by
  unfold rdLaw at h ⊢
  split at h
  · cases h
  · rename_i q
    rw [if_neg q]
    split at h
    · cases h
    · rename_i q2
      rw [if_neg q2]
      split at h
      · rename_i q3
        rw [if_pos q3]
        have h1 : (rdLawN I a b i).2 a k = I a k := (num_7 hk (by omega) q3).trans ((adv_7 hk).trans (by rw [up2_a (by omega), up2_a (by omega)]))
        split at h
        · rename_i q4
          rw [if_pos q4]
          exact (up2_a (by omega)).trans h1
        · rename_i q4
          rw [if_neg q4]
          split at h
          · rename_i q5
            rw [if_pos q5]
            unfold rdPosts at h ⊢
            split at h
            · rename_i q6
              rw [if_pos q6]
              split at h
              · rename_i q7
                rw [if_pos q7]
                exact (tail_7 hk (by omega) h).trans ((num_7 hk (by omega) q7).trans ((adv_7 hk).trans ((up2_a (by omega)).trans h1)))
              · cases h
            · rename_i q6
              rw [if_neg q6]
              exact (tail_7 hk (by omega) h).trans ((up2_a (by omega)).trans h1)
          · rename_i q5
            rw [if_neg q5]
            unfold rdSecond at h ⊢
            exact (tail_7 hk (by omega) h).trans ((up2_a (by omega)).trans h1)
      · cases h
theorem ls_7 {a b k : Nat} (hk : 7 ≤ k) (hab : a + 1 < b) : ∀ (f i : Nat) (I : Mem), (rdLs I a b i f).1 = true → (rdLs I a b i f).2 a k = I a k
  | 0, i, I, h => by cases h
  | f + 1, i, I, h => by
    rw [rdLs] at h ⊢
    split at h
    · rename_i q
      rw [if_pos q]
      have h1 := law_7 hk hab q
      split at h
      · rename_i q2
        rw [if_pos q2]; exact (up2_a (by omega)).trans h1
      · rename_i q2
        rw [if_neg q2]
        split at h
        · rename_i q3
          rw [if_pos q3]
          exact (ls_7 hk hab f _ _ h).trans ((adv_7 hk).trans h1)
        · cases h
    · cases h
theorem open_adv {I : Mem} {a n : Nat} (hn : n ≤ 400) : tOpen I a n = adv (up2 (up2 (up2 (up2 (up2 (up2 I a 2 (nI n)) a 1 0) a 3 0) a 7 0) a 8 (-1)) a 5 0) a := by
  have e1 : kE (up2 (up2 (up2 (up2 (up2 (up2 I a 2 (nI n)) a 1 0) a 3 0) a 7 0) a 8 (-1)) a 5 0) a = n := by
    rw [kE, up2_k (by decide), up2_k (by decide), up2_k (by decide), up2_k (by decide), up2_k (by decide), up2_same]
    exact nI_clamp (by omega)
  have e2 : kN (up2 (up2 (up2 (up2 (up2 (up2 I a 2 (nI n)) a 1 0) a 3 0) a 7 0) a 8 (-1)) a 5 0) a = 0 := by
    rw [kN, up2_k (by decide), up2_k (by decide), up2_k (by decide), up2_same]
    rfl
  rw [adv, e1, e2, tOpen]
  generalize up2 (up2 (up2 (up2 (up2 I a 2 (nI n)) a 1 0) a 3 0) a 7 0) a 8 (-1) = X
  unfold tAdv
  rw [show up2 X a 5 0 (a + 1) = X (a + 1) from funext fun j => up2_a (by omega)]
  funext b j
  unfold setTok up2
  by_cases hb : b = a
  · subst hb
    by_cases hj : j = 5
    · subst hj; simp
    · simp [hj]
  · simp [hb]
theorem open_sim {I : Mem} {K : MJ} {h g z n : Nat} (hT : TapeR I K.1 h g z) (hn : n ≤ z) : TkR (tOpen I (h + 1) n) (mOpn K g n) (h + 1) g ∧ tOpen I (h + 1) n (h + 1) 7 = 0 ∧ tOpen I (h + 1) n (h + 1) 1 = 0 ∧ (mOpn K g n).1 g 3 = 0 ∧ (mOpn K g n).1 g 23 = 0 := by
  obtain ⟨t1, t2, t3, t4, t5⟩ := hT
  have hM : MkOK (strt K.1 g (nI n)) g := strt_ok (by omega) t5
  have s24 : strt K.1 g (nI n) g 24 = nI n := by rw [strt, up2_k (by decide), up2_k (by decide), up2_k (by decide), up2_same]
  have s25 : strt K.1 g (nI n) g 25 = 0 := by rw [strt, up2_k (by decide), up2_same]
  have f1 : mEn (strt K.1 g (nI n)) g = n := by rw [mEn, s24]; exact nI_clamp (by omega)
  have f2 : mAt (strt K.1 g (nI n)) g = 0 := by rw [mAt, s25]; rfl
  refine ⟨?_, ?_, ?_, ?_, ?_⟩
  · rw [open_adv (by omega), mOpn]
    have a2 : up2 (up2 (up2 (up2 (up2 (up2 I (h + 1) 2 (nI n)) (h + 1) 1 0) (h + 1) 3 0) (h + 1) 7 0) (h + 1) 8 (-1)) (h + 1) 5 0 (h + 1) 2 = nI n := by
      rw [up2_k (by decide), up2_k (by decide), up2_k (by decide), up2_k (by decide), up2_k (by decide), up2_same]
    have a3 : up2 (up2 (up2 (up2 (up2 (up2 I (h + 1) 2 (nI n)) (h + 1) 1 0) (h + 1) 3 0) (h + 1) 7 0) (h + 1) 8 (-1)) (h + 1) 5 0 (h + 1) 3 = nI 0 := by
      rw [up2_k (by decide), up2_k (by decide), up2_k (by decide), up2_same]; rfl
    have a5 : up2 (up2 (up2 (up2 (up2 (up2 I (h + 1) 2 (nI n)) (h + 1) 1 0) (h + 1) 3 0) (h + 1) 7 0) (h + 1) 8 (-1)) (h + 1) 5 0 (h + 1) 5 = nI 0 := by
      rw [up2_same]; rfl
    refine tok_sim (e := n) (p := 0) a2 (by omega) a3 (by omega) hM f1 f2 ?_ (TkOK.of (e := n) (q := 0) (nx := 0) ⟨a2, by omega, a3, a5, by omega, by omega⟩)
    funext j
    rw [show h + 1 + 1 = h + 2 by omega, up2_a (by omega), up2_a (by omega), up2_a (by omega), up2_a (by omega), up2_a (by omega), up2_a (by omega)]
    show I (h + 2) j = strt K.1 g (nI n) (g + 20) j
    rw [strt_o (by omega)]; exact t4 j
  · rw [open_adv (by omega), adv_7 (by omega), up2_k (by decide), up2_k (by decide), up2_same]
  · rw [open_adv (by omega)]
    unfold adv tAdv setTok
    rw [up2_k (by decide), up2_k (by decide), up2_k (by decide), up2_k (by decide), up2_k (by decide), up2_k (by decide), up2_k (by decide), up2_k (by decide), up2_same]
  · rw [mOpn, nxt_o (by omega)]
    show strt K.1 g (nI n) g 3 = 0
    rw [strt, up2_same]
  · rw [mOpn, nxt_o (by omega)]
    show strt K.1 g (nI n) g 23 = 0
    rw [strt, up2_k (by decide), up2_k (by decide), up2_same]
