/-! ===== phase 2: the laws read by both ===== -/
/-- law i of both -/
def LwE (I I' : Mem) (b g i : Nat) : Prop := ∃ kd x y z, kd < 4 ∧ x < 10000 ∧ y < 10000 ∧ z < 10000 ∧ I (b + 1) i = nI kd ∧ I (b + 2) i = nI x ∧ I (b + 3) i = nI y ∧ I (b + 4) i = nI z ∧ I' (g + 27) (4 * i) = nI kd ∧ I' (g + 27) (4 * i + 1) = nI x ∧ I' (g + 27) (4 * i + 2) = nI y ∧ I' (g + 27) (4 * i + 3) = nI z
theorem LwE.keep {I I' I1 I1' : Mem} {b g i : Nat} (h : LwE I I' b g i) (hc : ∀ c, b + 1 ≤ c → c ≤ b + 4 → I1 c i = I c i) (hm : ∀ k, 4 * i ≤ k → k < 4 * i + 4 → I1' (g + 27) k = I' (g + 27) k) : LwE I1 I1' b g i := by
  unfold LwE
  rw [hc _ (by omega) (by omega), hc _ (by omega) (by omega), hc _ (by omega) (by omega), hc _ (by omega) (by omega), hm _ (by omega) (by omega), hm _ (by omega) (by omega), hm _ (by omega) (by omega), hm _ (by omega) (by omega)]
  exact h
theorem num_step {I : Mem} {K : MJ} {a g y i : Nat} (h : TkR I K a g) (hy : y ≠ a) (hy1 : y ≠ a + 1) : (I a 4 = 2 ∧ K.1 g 26 = 3 ∧ ∃ x, x < 10000 ∧ I a 6 = nI x ∧ K.1 g 29 = nI x ∧ TkR (adv (up2 I y i (nI x)) a) (nxt K g) a g) ∨ (¬ I a 4 = 2 ∧ ¬ K.1 g 26 = 3) := by
  rcases Classical.em (I a 4 = 2) with z | z
  · obtain ⟨h1, x, h2, h3⟩ := h.2.1.2.2.1 z
    exact Or.inl ⟨z, (tk_sort3 h).mpr z, x, h2, h3, h1.trans h3, adv_sim (h.keep (fun k _ => up2_a (by omega)) (by funext k; exact up2_a (by omega)) (fun k _ _ => rfl) rfl rfl) (by rw [up2_a (by omega), z]; decide)⟩
  · exact Or.inr ⟨z, fun q => z ((tk_sort3 h).mp q)⟩
theorem word_step {I : Mem} {K : MJ} {a g : Nat} {bs : List Int32} (h : TkR I K a g) (hk : kwOK bs = true) : (isW I a bs = true ∧ mIsW K.1 K.2 g bs = true ∧ TkR (adv I a) (nxt K g) a g) ∨ (isW I a bs = false ∧ mIsW K.1 K.2 g bs = false) := by
  rw [← isW_eq h hk]
  rcases hw : isW I a bs with _ | _
  · exact Or.inr ⟨rfl, rfl⟩
  · exact Or.inl ⟨rfl, rfl, adv_sim h (by rw [isW_kind hw]; decide)⟩
/-- a law read: what both come to from the memories I and I' -/
abbrev LwP (I I' : Mem) (a g b i : Nat) (C : Bool × Mem) (M : Bool × MJ) : Prop := C.1 = M.1 ∧
    (C.1 = true → TkR C.2 M.2 a g ∧ LwE C.2 M.2.1 b g i ∧ (∀ c k, c ≠ a → ¬ (b + 1 ≤ c ∧ c ≤ b + 4 ∧ k = i) → C.2 c k = I c k) ∧ (∀ c k, c ≠ g → c ≠ g + 19 → ¬ (c = g + 27 ∧ 4 * i ≤ k ∧ k < 4 * i + 4) → M.2.1 c k = I' c k)) ∧
    (C.1 = false → FlR C.2 M.2 a g)
theorem lp_no {I0 I0' I : Mem} {K : MJ} {a g b i : Nat} {x : Int32} (h : TkR I K a g) : LwP I0 I0' a g b i (false, tFail I a x) (false, stp K g x) := ⟨rfl, fun z => (by cases z), fun _ => fl_of h.1.2.2.2.2⟩
theorem lp_put {I0 I0' I : Mem} {K : MJ} {a g b i kd x y z : Nat} (h : TkR I K a g) (hk : kd < 4) (hx : x < 10000) (hy : y < 10000) (hz : z < 10000) (h1 : I (b + 1) i = nI kd) (h2 : I (b + 2) i = nI x) (h3 : I (b + 3) i = nI y) (h4 : I (b + 4) i = nI z) (hc : ∀ c k, c ≠ a → ¬ (b + 1 ≤ c ∧ c ≤ b + 4 ∧ k = i) → I c k = I0 c k) (hm : ∀ c k, c ≠ g → c ≠ g + 19 → K.1 c k = I0' c k) : LwP I0 I0' a g b i (true, I) (true, lPut K g i (nI kd) (nI x) (nI y) (nI z)) := by
  refine ⟨rfl, fun _ => ⟨h.keep (fun k _ => rfl) rfl (fun k _ _ => lPut_o (by omega)) (by funext k; exact lPut_o (by omega)) rfl, ⟨kd, x, y, z, hk, hx, hy, hz, h1, h2, h3, h4, ?_⟩, hc, fun c k q1 q2 q3 => ?_⟩, fun z => (by cases z)⟩
  · unfold lPut
    dsimp only
    refine ⟨?_, ?_, ?_, ?_⟩
    · rw [up2_k (by omega), up2_k (by omega), up2_k (by omega), up2_same]
    · rw [up2_k (by omega), up2_k (by omega), up2_same]
    · rw [up2_k (by omega), up2_same]
    · rw [up2_same]
  · unfold lPut up2
    dsimp only
    rw [if_neg (by omega), if_neg (by omega), if_neg (by omega), if_neg (by omega)]
    exact hm c k q1 q2
theorem law_sim {I : Mem} {K : MJ} {a g b i : Nat} (h : TkR I K a g) (hab : a + 1 < b) (hi : i ≤ 10) : LwP I K.1 a g b i (rdLaw I a b i) (rLw K g i) := by
  unfold rdLaw rLw
  rw [← isW_eq h (show kwOK kw_rest = true by decide), ← isW_eq h (show kwOK kw_dogs = true by decide), ← isW_eq h (show kwOK kw_fine = true by decide)]
  by_cases hw : isW I a kw_rest = false ∧ isW I a kw_dogs = false ∧ isW I a kw_fine = false
  · rw [if_pos hw, if_pos hw]
    exact lp_no h
  · rw [if_neg hw, if_neg hw]
    by_cases hn : i = 10
    · rw [if_pos (show 10 ≤ i by omega), if_pos hn]
      exact lp_no h
    · rw [if_neg (show ¬ 10 ≤ i by omega), if_neg hn]
      have hk4 : I a 4 = 1 := by
        rcases h1 : isW I a kw_rest with _ | _
        · rcases h2 : isW I a kw_dogs with _ | _
          · rcases h3 : isW I a kw_fine with _ | _
            · exact absurd ⟨h1, h2, h3⟩ hw
            · exact isW_kind h3
          · exact isW_kind h2
        · exact isW_kind h1
      have h1 : TkR (adv (up2 (up2 I (b + 3) i 0) (b + 4) i 0) a) (nxt K g) a g := adv_sim (h.keep (fun k _ => by rw [up2_a (by omega), up2_a (by omega)]) (by funext k; rw [up2_a (by omega), up2_a (by omega)]) (fun k _ _ => rfl) rfl rfl) (by rw [up2_a (by omega), up2_a (by omega), hk4]; decide)
      have m1 : ∀ c k, c ≠ g → (nxt K g).1 c k = K.1 c k := fun c k hc => nxt_o (Or.inl hc)
      unfold rdLawN rLn
      rw [rdNum]
      rcases num_step (y := b + 2) (i := i) h1 (by omega) (by omega) with ⟨a1, a2, x, hx, a3, a4, h2⟩ | ⟨a1, a2⟩
      · rw [if_pos a1, if_pos a2, a3, a4]
        simp only [if_true]
        have m2 : ∀ c k, c ≠ g → (nxt (nxt K g) g).1 c k = K.1 c k := fun c k hc => (nxt_o (Or.inl hc)).trans (m1 c k hc)
        have c2 : ∀ c k, c ≠ a → adv (up2 (adv (up2 (up2 I (b + 3) i 0) (b + 4) i 0) a) (b + 2) i (nI x)) a c k = up2 (up2 (up2 I (b + 3) i 0) (b + 4) i 0) (b + 2) i (nI x) c k := fun c k hc => by
          rw [adv_o hc]; unfold up2; rw [adv_o hc]
        generalize adv (up2 (adv (up2 (up2 I (b + 3) i 0) (b + 4) i 0) a) (b + 2) i (nI x)) a = I2 at *
        generalize nxt (nxt K g) g = K2 at *
        have f2 : ∀ c k, c ≠ a → ¬ (b + 1 ≤ c ∧ c ≤ b + 4 ∧ k = i) → I2 c k = I c k := fun c k q1 q2 => by
          rw [c2 c k q1]; unfold up2; rw [if_neg (by omega), if_neg (by omega), if_neg (by omega)]
        have v2 : I2 (b + 2) i = nI x := by rw [c2 _ _ (by omega), up2_same]
        have v3 : I2 (b + 3) i = 0 := by rw [c2 _ _ (by omega), up2_a (by omega), up2_a (by omega), up2_same]
        have v4 : I2 (b + 4) i = 0 := by rw [c2 _ _ (by omega), up2_a (by omega), up2_same]
        have kU : ∀ (y : Int32), TkR (up2 I2 (b + 1) i y) K2 a g := fun y => h2.keep (fun k _ => up2_a (by omega)) (by funext k; exact up2_a (by omega)) (fun k _ _ => rfl) rfl rfl
        by_cases hd : isW I a kw_dogs = true
        · rw [if_pos hd, if_pos hd]
          refine lp_put (kd := 2) (y := 0) (z := 0) (kU 2) (by omega) hx (by omega) (by omega) (up2_same _ _ _ _) ((up2_a (by omega)).trans v2) ((up2_a (by omega)).trans v3) ((up2_a (by omega)).trans v4) ?_ (fun c k q1 q2 => m2 c k q1)
          intro c k q1 q2
          unfold up2
          rw [if_neg (by omega)]
          exact f2 c k q1 q2
        · rw [if_neg hd, if_neg hd]
          by_cases hr : isW I a kw_rest = true
          · have hfn : isW I a kw_fine = false := isW_ne (by decide) hr
            rw [if_pos hr, if_neg (by rw [hfn]; decide)]
            unfold rdPosts rLr
            rw [rLn]
            rcases word_step (bs := kw_at) h2 (by decide) with ⟨w1, w2, w3⟩ | ⟨w1, w2⟩
            · have hfr : isW I2 a kw_from = false := isW_ne (by decide) w1
              rw [if_neg (by rw [hfr]; decide), if_pos w2]
              unfold rdTail
              have w4 : isW (up2 I2 (b + 1) i 0) a kw_at = true := by rw [isW_eq (kU 0) (by decide)]; exact w2
              rw [if_pos w4, rdNum]
              have h3 : TkR (adv (up2 I2 (b + 1) i 0) a) (nxt K2 g) a g := adv_sim (kU 0) (by rw [isW_kind w4]; decide)
              rcases num_step (y := b + 3) (i := i) h3 (by omega) (by omega) with ⟨b1, b2, y, hy, b3, b4, h4⟩ | ⟨b1, b2⟩
              · rw [if_pos b1, if_pos b2, b3, b4]
                refine lp_put (kd := 0) (z := 0) h4 (by omega) hx hy (by omega) ?_ ?_ ?_ ?_ ?_ ?_
                · simp (disch := omega) only [adv_o, up2_a, up2_same]; rfl
                · simp (disch := omega) only [adv_o, up2_a, up2_same]; exact v2
                · simp (disch := omega) only [adv_o, up2_a, up2_same]
                · simp (disch := omega) only [adv_o, up2_a, up2_same]; exact v4
                · intro c k q1 q2
                  rw [adv_o q1]; unfold up2; rw [if_neg (by omega), adv_o q1, if_neg (by omega)]
                  exact f2 c k q1 q2
                · intro c k q1 q2
                  rw [nxt_o (Or.inl q1), nxt_o (Or.inl q1)]; exact m2 c k q1
              · rw [if_neg b1, if_neg b2]
                exact lp_no h3
            · rw [if_neg (show ¬ mIsW K2.1 K2.2 g kw_at = true by rw [w2]; decide)]
              rcases word_step (bs := kw_from) h2 (by decide) with ⟨w3, w4, w5⟩ | ⟨w3, w4⟩
              · rw [if_pos w3, if_pos w4, rLn, rdNum]
                have w6 : isW (up2 I2 (b + 1) i 1) a kw_from = true := by rw [isW_eq (kU 1) (by decide)]; exact w4
                have h3 : TkR (adv (up2 I2 (b + 1) i 1) a) (nxt K2 g) a g := adv_sim (kU 1) (by rw [isW_kind w6]; decide)
                rcases num_step (y := b + 3) (i := i) h3 (by omega) (by omega) with ⟨b1, b2, y, hy, b3, b4, h4⟩ | ⟨b1, b2⟩
                · rw [if_pos b1, if_pos b2, b3, b4]
                  simp only [if_true]
                  unfold rdTail rLt
                  rcases word_step (bs := kw_to) h4 (by decide) with ⟨d1, d2, h5⟩ | ⟨d1, d2⟩
                  · rw [if_pos d1, if_pos d2, rdNum]; dsimp only; rw [rLn]
                    rcases num_step (y := b + 4) (i := i) h5 (by omega) (by omega) with ⟨e1, e2, z, hz, e3, e4, h6⟩ | ⟨e1, e2⟩
                    · rw [if_pos e1, if_pos e2, e3, e4]
                      refine lp_put (kd := 1) h6 (by omega) hx hy hz ?_ ?_ ?_ ?_ ?_ ?_
                      · simp (disch := omega) only [adv_o, up2_a, up2_same]; rfl
                      · simp (disch := omega) only [adv_o, up2_a, up2_same]; exact v2
                      · simp (disch := omega) only [adv_o, up2_a, up2_same]
                      · simp (disch := omega) only [adv_o, up2_a, up2_same]
                      · intro c k q1 q2
                        rw [adv_o q1]; unfold up2; rw [if_neg (by omega), adv_o q1, adv_o q1, if_neg (by omega), adv_o q1, if_neg (by omega)]
                        exact f2 c k q1 q2
                      · intro c k q1 q2
                        rw [nxt_o (Or.inl q1), nxt_o (Or.inl q1), nxt_o (Or.inl q1), nxt_o (Or.inl q1)]; exact m2 c k q1
                    · rw [if_neg e1, if_neg e2]
                      exact lp_no h5
                  · rw [if_neg (by rw [d1]; decide), if_neg (by rw [d2]; decide)]
                    exact lp_no h4
                · rw [if_neg b1, if_neg b2]
                  simp only [Bool.false_eq_true, if_false]
                  exact lp_no h3
              · rw [if_neg (show ¬ isW I2 a kw_from = true by rw [w3]; decide), if_neg (show ¬ mIsW K2.1 K2.2 g kw_from = true by rw [w4]; decide)]
                unfold rdTail
                rw [if_neg (by rw [isW_eq (kU 0) (by decide), w2]; decide)]
                exact lp_no (kU 0)
          · have hfn : isW I a kw_fine = true := by
              rcases hz : isW I a kw_fine with _ | _
              · exact absurd ⟨by simpa using hr, by simpa using hd, hz⟩ hw
              · rfl
            rw [if_neg hr, if_pos hfn]
            unfold rdSecond rdTail rLf rLt
            rcases word_step (bs := kw_for) (kU 3) (by decide) with ⟨d1, d2, h5⟩ | ⟨d1, d2⟩
            · rw [if_pos d1, if_pos d2, rdNum]; dsimp only; rw [rLn]
              rcases num_step (y := b + 3) (i := i) h5 (by omega) (by omega) with ⟨e1, e2, z, hz, e3, e4, h6⟩ | ⟨e1, e2⟩
              · rw [if_pos e1, if_pos e2, e3, e4]
                refine lp_put (kd := 3) (z := 0) h6 (by omega) hx hz (by omega) ?_ ?_ ?_ ?_ ?_ ?_
                · simp (disch := omega) only [adv_o, up2_a, up2_same]; rfl
                · simp (disch := omega) only [adv_o, up2_a, up2_same]; exact v2
                · simp (disch := omega) only [adv_o, up2_a, up2_same]
                · simp (disch := omega) only [adv_o, up2_a, up2_same]; exact v4
                · intro c k q1 q2
                  rw [adv_o q1]; unfold up2; rw [if_neg (by omega), adv_o q1, if_neg (by omega)]
                  exact f2 c k q1 q2
                · intro c k q1 q2
                  rw [nxt_o (Or.inl q1), nxt_o (Or.inl q1)]; exact m2 c k q1
              · rw [if_neg e1, if_neg e2]
                exact lp_no h5
            · rw [if_neg (by rw [d1]; decide), if_neg (by rw [d2]; decide)]
              exact lp_no (kU 3)
      · rw [if_neg a1, if_neg a2]
        simp only [Bool.false_eq_true, if_false]
        exact lp_no h1
theorem ls_sim {a g b : Nat} (hab : a + 1 < b) : ∀ (fu : Nat) (I : Mem) (K : MJ) (i : Nat), i + fu = 11 → i ≤ 10 → TkR I K a g → (∀ j, j < i → LwE I K.1 b g j) →
    (rdLs I a b i fu).1 = (rLs K g i fu).1.1 ∧
    ((rdLs I a b i fu).1 = true → ∃ k, k ≤ 10 ∧ (rdLs I a b i fu).2 b 4 = nI k ∧ (rLs K g i fu).2 = k ∧ ∀ j, j < k → LwE (rdLs I a b i fu).2 (rLs K g i fu).1.2.1 b g j) ∧
    ((rdLs I a b i fu).1 = false → FlR (rdLs I a b i fu).2 (rLs K g i fu).1.2 a g)
  | 0, I, K, i, h1, h2, _, _ => by omega
  | fu + 1, I, K, i, h1, h2, h, hL => by
    obtain ⟨s1, s2, s3⟩ := law_sim h hab h2
    have hn : (rdLaw I a b i).1 = true → i < 10 := fun z => by
      rcases Nat.lt_or_ge i 10 with q | q
      · exact q
      · exfalso
        unfold rdLaw at z
        rw [if_pos q] at z
        split at z <;> cases z
    rw [rdLs, rLs]
    generalize hC : rdLaw I a b i = C at *
    generalize hM : rLw K g i = M at *
    rcases hb : C.1 with _ | _
    · rw [hb] at s1
      rw [if_neg (show ¬ (false = true) by decide), if_neg (by rw [← s1]; decide)]
      exact ⟨s1, fun z => (by cases z), fun _ => s3 hb⟩
    · rw [hb] at s1
      rw [if_pos rfl, if_pos s1.symm]
      have h10 := hn hb
      obtain ⟨y1, y2, y3, y4⟩ := s2 hb
      have hL1 : ∀ j, j < i + 1 → LwE C.2 M.2.1 b g j := fun j hj => by
        rcases Nat.lt_or_ge j i with q | q
        · exact (hL j q).keep (fun c q1 q2 => y3 c j (by omega) (by omega)) (fun k q1 q2 => y4 _ _ (by omega) (by omega) (by omega))
        · obtain rfl : j = i := by omega
          exact y2
      by_cases h0 : C.2 a 4 = 0
      · rw [if_pos h0, if_neg (by rw [(tk_is y1).2.2, h0]; decide), if_pos ((tk_sort1 y1).mpr h0)]
        exact ⟨rfl, fun _ => ⟨i + 1, by omega, up2_same _ _ _ _, rfl, fun j hj => (hL1 j hj).keep (fun c q1 q2 => up2_a (by omega)) (fun k _ _ => rfl)⟩, fun z => (by cases z)⟩
      · rw [if_neg h0]
        by_cases h5 : C.2 a 4 = 5
        · rw [if_pos h5, if_pos ((tk_is y1).2.2.mpr h5)]
          exact ls_sim hab fu _ _ (i + 1) (by omega) (by omega) (adv_sim y1 (by rw [h5]; decide)) (fun j hj => (hL1 j hj).keep (fun c q1 q2 => adv_o (by omega)) (fun k _ _ => nxt_o (by omega)))
        · rw [if_neg h5, if_neg (by rw [(tk_is y1).2.2]; exact h5), if_neg (by rw [tk_sort1 y1]; exact h0)]
          exact ⟨rfl, fun z => (by cases z), fun _ => fl_of y1.1.2.2.2.2⟩
