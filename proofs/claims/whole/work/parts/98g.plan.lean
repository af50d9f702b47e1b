/-! ===== phase 2: plan ===== -/
theorem adv_1 {I : Mem} {a : Nat} : adv I a a 1 = I a 1 := by
  unfold adv tAdv
  exact setTok_g (by omega)
theorem fail_1 {I : Mem} {a : Nat} {x : Int32} : tFail I a x a 1 = I a 1 := by
  unfold tFail
  rw [up2_k (by decide), up2_k (by decide)]
theorem test_1 {I : Mem} {a p t x : Nat} (hap : a + 1 < p) : (rdTest I a p t x).2 a 1 = I a 1 := by
  unfold rdTest
  split
  · exact fail_1
  · split
    · exact fail_1
    · unfold rdTest1
      split
      · generalize (if adv I a a 4 = 4 then (1 : Int32) else 0) = v
        unfold rdTest2
        split
        · simp (disch := omega) only [adv_1, up2_a]
        · simp (disch := omega) only [fail_1, adv_1, up2_a]
      · simp (disch := omega) only [fail_1, adv_1, up2_a]
theorem ts_1 {a p : Nat} (hap : a + 1 < p) : ∀ (f : Nat) (I : Mem) (t x : Nat), (rdTs I a p t x f).2 a 1 = I a 1
  | 0, I, t, x => rfl
  | f + 1, I, t, x => by
    rw [rdTs]
    have h1 : (rdTest (adv I a) a p t x).2 a 1 = I a 1 := (test_1 hap).trans adv_1
    split
    · split
      · exact (ts_1 hap f _ _ _).trans h1
      · exact h1
    · exact h1
theorem end_1 {I : Mem} {a p nr : Nat} (hap : a + 1 < p) : (rdEnd I a p nr).2 a 1 = I a 1 := by
  unfold rdEnd
  split
  · exact fail_1
  · simp (disch := omega) only [adv_1, up2_a]
theorem rule_1 {I : Mem} {a p t nr : Nat} (hap : a + 1 < p) : (rdRule I a p t nr).2 a 1 = I a 1 := by
  unfold rdRule
  split
  · exact fail_1
  · split
    · exact fail_1
    · split
      · have h1 : (rdTests (up2 I (p + 2) nr (nI t)) a p t).2 a 1 = I a 1 := (ts_1 hap 5 _ _ _).trans (up2_a (by omega))
        split
        · exact (end_1 hap).trans h1
        · exact h1
      · exact (end_1 hap).trans (up2_a (by omega))
theorem rs_1 {a p : Nat} (hap : a + 1 < p) : ∀ (f : Nat) (I : Mem), (rdRs I a p f).2 a 1 = I a 1
  | 0, I => fail_1
  | f + 1, I => by
    rw [rdRs]
    have h1 : (rdRule I a p (pT I p) (pN I p)).2 a 1 = I a 1 := rule_1 hap
    split
    · split
      · exact h1
      · split
        · exact (rs_1 hap f _).trans (adv_1.trans h1)
        · exact fail_1.trans h1
    · exact h1
theorem plan_1 {I : Mem} {a p : Nat} (hap : a + 1 < p) : (rdPlan I a p).2 a 1 = I a 1 := (rs_1 hap 13 _).trans (by rw [up2_a (by omega), up2_a (by omega)])
theorem num_1 {I : Mem} {a y i : Nat} (hy : y ≠ a) : (rdNum I a y i).2 a 1 = I a 1 := by
  unfold rdNum
  split
  · exact adv_1.trans (up2_a (by omega))
  · exact fail_1
theorem tail_1 {I : Mem} {a y i : Nat} {bs : List Int32} (hy : y ≠ a) : (rdTail I a y i bs).2 a 1 = I a 1 := by
  unfold rdTail
  split
  · exact (num_1 hy).trans adv_1
  · exact fail_1
theorem law_1 {I : Mem} {a b i : Nat} (hab : a + 1 < b) : (rdLaw I a b i).2 a 1 = I a 1 := by
  unfold rdLaw
  split
  · exact fail_1
  · split
    · exact fail_1
    · have h1 : (rdLawN I a b i).2 a 1 = I a 1 := (num_1 (by omega)).trans (adv_1.trans (by rw [up2_a (by omega), up2_a (by omega)]))
      split
      · split
        · exact (up2_a (by omega)).trans h1
        · split
          · unfold rdPosts
            split
            · have h2 : (rdNum (adv (up2 (rdLawN I a b i).2 (b + 1) i 1) a) a (b + 3) i).2 a 1 = I a 1 := (num_1 (by omega)).trans (adv_1.trans ((up2_a (by omega)).trans h1))
              split
              · exact (tail_1 (by omega)).trans h2
              · exact h2
            · exact (tail_1 (by omega)).trans ((up2_a (by omega)).trans h1)
          · unfold rdSecond
            exact (tail_1 (by omega)).trans ((up2_a (by omega)).trans h1)
      · exact h1
theorem ls_1 {a b : Nat} (hab : a + 1 < b) : ∀ (f i : Nat) (I : Mem), (rdLs I a b i f).2 a 1 = I a 1
  | 0, i, I => fail_1
  | f + 1, i, I => by
    rw [rdLs]
    have h1 : (rdLaw I a b i).2 a 1 = I a 1 := law_1 hab
    split
    · split
      · exact (up2_a (by omega)).trans h1
      · split
        · exact (ls_1 hab f _ _).trans (adv_1.trans h1)
        · exact fail_1.trans h1
    · exact h1
section DO6
variable {S : Nat → Option (Nat × Nat)} {V : Nat → Nat → Option Nat} {N : Nat} {I I' : Mem} {h g n c s e np k z : Nat}
theorem PlR.keep2 {I1 I1' : Mem} {p q : Nat} (hP : PlR I I' p g q) (hc : ∀ b k, p ≤ b → b ≤ p + 6 → I1 b k = I b k) (h21 : I1' (g + 21) q = I' (g + 21) q) (h22 : ∀ k, 12 * q ≤ k → k < 12 * q + 12 → I1' (g + 22) k = I' (g + 22) k ∧ I1' (g + 23) k = I' (g + 23) k) (h24 : ∀ k, 48 * q ≤ k → k < 48 * q + 48 → I1' (g + 24) k = I' (g + 24) k ∧ I1' (g + 25) k = I' (g + 25) k ∧ I1' (g + 26) k = I' (g + 26) k) : PlR I1 I1' p g q := by
  obtain ⟨⟨a1, a2, a3⟩, ⟨b1, b2, b3⟩, p3, p5, p4⟩ := hP
  have e1 : pN I1 p = pN I p := by rw [pN, pN, hc _ _ (by omega) (by omega)]
  have e2 : mNr I1' g q = mNr I' g q := by rw [mNr, mNr, h21]
  have e3 : ∀ j, j < 12 → mTc I1' g (12 * q + j) = mTc I' g (12 * q + j) := fun j hj => by rw [mTc, mTc, (h22 _ (by omega) (by omega)).2]
  have e4 : ∀ j, pF I1 p j = pF I p j := fun j => by rw [pF, pF, hc _ _ (by omega) (by omega)]
  have e5 : ∀ j, pC I1 p j = pC I p j := fun j => by rw [pC, pC, hc _ _ (by omega) (by omega)]
  have e6 : mTs I1' g q (mNr I' g q) = mTs I' g q (mNr I' g q) := mTs_k (fun j hj => (h22 _ (by omega) (by omega)).2)
  unfold PlR PlanOK MplOK
  rw [e1, e2, e6]
  refine ⟨⟨(hc _ _ (by omega) (by omega)).trans a1, a2, fun j hj => ?_⟩, ⟨h21.trans b1, b2, fun j hj => ?_⟩, p3, (hc _ _ (by omega) (by omega)).trans p5, fun j hj => ?_⟩
  · rw [e4, e5, hc _ _ (by omega) (by omega), hc _ _ (by omega) (by omega)]; exact a3 j hj
  · rw [e3 j (by omega), (h22 _ (by omega) (by omega)).2]; exact b3 j hj
  · rw [e3 j (by omega), e4, e5, hc _ _ (by omega) (by omega), (h22 _ (by omega) (by omega)).1]
    obtain ⟨f1, f2, f3⟩ := p4 j hj
    refine ⟨f1, f2, fun i hi => ?_⟩
    have := (b3 j hj).2
    obtain ⟨k1, k2, k3⟩ := h24 (4 * (12 * q + j) + i) (by omega) (by omega)
    rw [hc _ _ (by omega) (by omega), hc _ _ (by omega) (by omega), hc _ _ (by omega) (by omega), k1, k2, k3]
    exact f3 i hi
theorem rel_wr {C : Mem} {K : MJ} (H : RelA S V N C K.1 h g n c s e np k z) (hF : FlR C K (h + 1) g) : Rel S V N (up2 C h 8 4) (mWr K g).1 h g n c s e np k z := by
  have e : (mWr K g).1 = up2 (up2 (up2 K.1 g 3 (K.1 (g + 19) 6)) g 1 4) g 2 (K.1 (g + 19) 7) := rfl
  rw [e]
  refine ⟨H.mem (fun b j q1 q2 q3 => up2_f (by omega)) (fun b j q1 q2 q3 q4 => ?_), ?_, ?_, ?_⟩
  · rw [up2_f (by omega), up2_f (by omega), up2_f (by omega)]
  · rw [up2_same, up2_k (by decide), up2_same]
  · rw [up2_a (by omega), up2_k (by decide), up2_k (by decide), up2_same]; exact hF.1
  · rw [up2_same, if_pos (up2_same _ _ _ _), up2_a (by omega)]; exact hF.2.symm
theorem do_plan (H : Rel S V N I I' h g n c s e np k z) (J : Nat → Nat → Int64) (x : Int32) : (hPlan I h z np x).1 = (mPlF (I', J) g z np x).1 ∧ ∃ np1 z1, Rel S V N (hPlan I h z np x).2 (mPlF (I', J) g z np x).2.1 h g n c s e np1 k z1 := by
  obtain ⟨H, T1, T2, T3⟩ := H
  have hgh := H.mn
  obtain ⟨p1, p2, p3, p4⟩ := H.2.2.2.2.2.1
  obtain ⟨l1, l2, l3, l4⟩ := H.2.2.2.2.2.2.1
  have hTp := H.2.2.2.2.2.2.2.1
  have z4 : z ≤ 400 := hTp.2.2.1
  rw [hPlan, mPlF]
  rcases hx : ixI x (z + 1) with _ | m
  · exact ⟨rfl, np, z, rel_trb H T2 (by decide)⟩
  · obtain ⟨hm, rfl⟩ := ixI_some (by omega) hx
    simp only []
    obtain ⟨o1, o2, o3, o4, o5⟩ := open_sim (K := (I', J)) (n := m) hTp (by omega)
    obtain ⟨r1, r2, r3⟩ := plan_sim (p := h + 87 + 7 * np) (q := np) (by omega) o1
    have kC : ∀ b j, b ≠ h + 1 → (b < h + 87 + 7 * np ∨ h + 87 + 7 * np + 6 < b) → (rdPlan (tOpen I (h + 1) m) (h + 1) (h + 87 + 7 * np)).2 b j = I b j := fun b j q1 q2 => (kp_plan b j ⟨q1, q2⟩).trans (open_o q1)
    have k1 : (rdPlan (tOpen I (h + 1) m) (h + 1) (h + 87 + 7 * np)).2 (h + 1) 1 = 0 := (plan_1 (by omega)).trans o3
    have k7 : (rdPlan (tOpen I (h + 1) m) (h + 1) (h + 87 + 7 * np)).1 = true → (rdPlan (tOpen I (h + 1) m) (h + 1) (h + 87 + 7 * np)).2 (h + 1) 7 = 0 := fun q => (plan_7 (by omega) (by omega) q).trans o2
    have kF := fr_Pl (K := mOpn (I', J) g m) (g := g) (q := np)
    have kO : ∀ b j, ¬ (b = g ∧ (j = 3 ∨ (23 ≤ j ∧ j ≤ 29))) → (mOpn (I', J) g m).1 b j = I' b j := fun b j q => by
      rw [mOpn, nxt_o (by omega)]
      exact strt_o (by omega)
    generalize rdPlan (tOpen I (h + 1) m) (h + 1) (h + 87 + 7 * np) = C at *
    generalize rPl (mOpn (I', J) g m) g np = M at *
    have kM : ∀ b j, ¬ (b = g ∧ (j = 3 ∨ (23 ≤ j ∧ j ≤ 29))) → b ≠ g + 19 → ¬ (b = g + 21 ∧ j = np) → ¬ ((b = g + 22 ∨ b = g + 23) ∧ 12 * np ≤ j ∧ j < 12 * np + 12) → ¬ ((b = g + 24 ∨ b = g + 25 ∨ b = g + 26) ∧ 48 * np ≤ j ∧ j < 48 * np + 48) → M.2.1 b j = I' b j := fun b j q1 q2 q3 q4 q5 => (kF b j (by omega) q2 q3 q4 q5).trans (kO b j q1)
    have m3 : M.2.1 g 3 = 0 := (kF g 3 (by omega) (by omega) (by omega) (by omega) (by omega)).trans o4
    have m23 : M.2.1 g 23 = 0 := (kF g 23 (by omega) (by omega) (by omega) (by omega) (by omega)).trans o5
    have hT0 : TapeR C.2 M.2.1 h g 0 := ⟨k1, m23, by omega, fun j => by rw [kC _ _ (by omega) (by omega), kM _ _ (by omega) (by omega) (by omega) (by omega) (by omega)]; exact hTp.2.2.2.1 j, fun j hj => by rw [kM _ _ (by omega) (by omega) (by omega) (by omega) (by omega)]; exact hTp.2.2.2.2 j hj⟩
    have hL0 : Laws C.2 M.2.1 h g k := ⟨(kC _ _ (by omega) (by omega)).trans l1, (kM _ _ (by omega) (by omega) (by omega) (by omega) (by omega)).trans l2, l3, fun j hj => (l4 j hj).keep (fun b q1 q2 => kC _ _ (by omega) (by omega)) (fun b q1 q2 => kM _ _ (by omega) (by omega) (by omega) (by omega) (by omega))⟩
    have hpl0 : ∀ q, q < np → M.2.1 (g + 21) q = I' (g + 21) q ∧ (∀ k, 12 * q ≤ k → k < 12 * q + 12 → M.2.1 (g + 22) k = I' (g + 22) k ∧ M.2.1 (g + 23) k = I' (g + 23) k) ∧ ∀ k, 48 * q ≤ k → k < 48 * q + 48 → M.2.1 (g + 24) k = I' (g + 24) k ∧ M.2.1 (g + 25) k = I' (g + 25) k ∧ M.2.1 (g + 26) k = I' (g + 26) k := fun q hq => ⟨kM _ _ (by omega) (by omega) (by omega) (by omega) (by omega), fun j q1 q2 => ⟨kM _ _ (by omega) (by omega) (by omega) (by omega) (by omega), kM _ _ (by omega) (by omega) (by omega) (by omega) (by omega)⟩, fun j q1 q2 => ⟨kM _ _ (by omega) (by omega) (by omega) (by omega) (by omega), kM _ _ (by omega) (by omega) (by omega) (by omega) (by omega), kM _ _ (by omega) (by omega) (by omega) (by omega) (by omega)⟩⟩
    have hP0 : ∀ q, q < np → PlR C.2 M.2.1 (h + 87 + 7 * q) g q := fun q hq => (p4 q hq).keep2 (fun b j q1 q2 => kC _ _ (by omega) (by omega)) (hpl0 q hq).1 (hpl0 q hq).2.1 (hpl0 q hq).2.2
    have hR0 : RelA S V N C.2 M.2.1 h g n c s e np k 0 := H.gen (Nat.le_refl _) ⟨(kC _ _ (by omega) (by omega)).trans p1, (kM _ _ (by omega) (by omega) (by omega) (by omega) (by omega)).trans p2, p3, hP0⟩ hL0 hT0 (fun b j q => kC _ _ (by omega) (by omega)) (fun b j q => kM _ _ (by omega) (by omega) (by omega) (by omega) (by omega)) hpl0
    rcases hb : C.1 with _ | _
    · rw [hb] at r1
      rw [if_neg (show ¬ (false = true) by decide), if_neg (by rw [← r1]; decide)]
      exact ⟨rfl, np, 0, rel_wr hR0 (r3 hb)⟩
    · rw [hb] at r1
      rw [if_pos rfl, if_pos r1.symm]
      have e7 := k7 hb
      by_cases h8 : np < 8
      · rw [if_pos h8, if_neg (by omega)]
        refine ⟨rfl, np + 1, 0, rel_trb ?_ ?_ (by decide)⟩
        · have cU : ∀ b j, ¬ (b = h ∧ j = 7) → up2 C.2 h 7 (nI (np + 1)) b j = C.2 b j := fun b j q => up2_f q
          have mU : ∀ b j, ¬ (b = g ∧ j = 31) → up2 M.2.1 g 31 (nI (np + 1)) b j = M.2.1 b j := fun b j q => up2_f q
          refine hR0.gen (by omega) ⟨up2_same _ _ _ _, up2_same _ _ _ _, by omega, fun q hq => ?_⟩ ⟨(cU _ _ (by omega)).trans hL0.1, (mU _ _ (by omega)).trans hL0.2.1, l3, fun j hj => (hL0.2.2.2 j hj).keep (fun b q1 q2 => cU _ _ (by omega)) (fun b q1 q2 => mU _ _ (by omega))⟩ ⟨(cU _ _ (by omega)).trans hT0.1, (mU _ _ (by omega)).trans hT0.2.1, by omega, fun j => by rw [cU _ _ (by omega), mU _ _ (by omega)]; exact hT0.2.2.2.1 j, fun j hj => by rw [mU _ _ (by omega)]; exact hT0.2.2.2.2 j hj⟩ (fun b j q => cU _ _ (by omega)) (fun b j q => mU _ _ (by omega)) (fun q hq => ⟨mU _ _ (by omega), fun j q1 q2 => ⟨mU _ _ (by omega), mU _ _ (by omega)⟩, fun j q1 q2 => ⟨mU _ _ (by omega), mU _ _ (by omega), mU _ _ (by omega)⟩⟩)
          have hq2 : PlR C.2 M.2.1 (h + 87 + 7 * q) g q := by
            rcases Nat.lt_or_ge q np with w | w
            · exact hP0 q w
            · obtain rfl : q = np := by omega
              exact (r2 hb).2
          exact hq2.keep (fun b j q1 q2 => cU _ _ (by omega)) (fun b j q1 q2 => mU _ _ (by omega))
        · rw [up2_f (by omega), up2_f (by omega), e7, m3]
      · rw [if_neg h8, if_pos (by omega)]
        refine ⟨rfl, np, 0, rel_trb hR0 ?_ (by decide)⟩
        rw [e7, m3]
end DO6
