/-! ===== phase 2: a plan read by both ===== -/
/-- the rules read so far, t tests in all -/
def RlA (I I' : Mem) (p g q nr t : Nat) : Prop := mTs I' g q nr = nI t ∧ ∀ j, j < nr → I (p + 1) j = I' (g + 22) (12 * q + j) ∧ ∃ f cnt, I (p + 2) j = nI f ∧ I (p + 3) j = nI cnt ∧ I' (g + 23) (12 * q + j) = nI cnt ∧ cnt ≤ 4 ∧ f + cnt ≤ t ∧ TsR I I' p g f (12 * q + j) cnt
def RlR (I I' : Mem) (p g q nr t : Nat) : Prop := I p 6 = nI nr ∧ nr ≤ 12 ∧ I p 7 = nI t ∧ t ≤ 4 * nr ∧ RlA I I' p g q nr t
theorem mTs_k {I I' : Mem} {g q : Nat} : ∀ {nr : Nat}, (∀ j, j < nr → I' (g + 23) (12 * q + j) = I (g + 23) (12 * q + j)) → mTs I' g q nr = mTs I g q nr
  | 0, _ => rfl
  | n + 1, h => by rw [mTs, mTs, mTs_k (nr := n) (fun j hj => h j (by omega)), h n (by omega)]
theorem RlA.keep {I I' I1 I1' : Mem} {p g q nr t : Nat} (h : RlA I I' p g q nr t)
    (hc : ∀ c k, p + 1 ≤ c → c ≤ p + 3 → k < nr → I1 c k = I c k) (hc2 : ∀ c k, p + 4 ≤ c → c ≤ p + 6 → k < t → I1 c k = I c k)
    (hm : ∀ c k, g + 22 ≤ c → c ≤ g + 23 → 12 * q ≤ k → k < 12 * q + nr → I1' c k = I' c k) (hm2 : ∀ c k, g + 24 ≤ c → c ≤ g + 26 → 48 * q ≤ k → k < 48 * q + 4 * nr → I1' c k = I' c k) : RlA I1 I1' p g q nr t := by
  refine ⟨(mTs_k fun j hj => hm (g + 23) (12 * q + j) (by omega) (by omega) (by omega) (by omega)).trans h.1, fun j hj => ?_⟩
  obtain ⟨h1, f, cnt, h2, h3, h4, h5, h6, h7⟩ := h.2 j hj
  rw [hc _ _ (by omega) (by omega) hj, hm _ _ (by omega) (by omega) (by omega) (by omega), hc _ _ (by omega) (by omega) hj, hc _ _ (by omega) (by omega) hj, hm _ _ (by omega) (by omega) (by omega) (by omega)]
  exact ⟨h1, f, cnt, h2, h3, h4, h5, h6, h7.keep (fun c k a b d e => hc2 c k a b (by omega)) (fun c k a b d e => hm2 c k a b (by omega) (by omega))⟩
theorem RlA.snoc {I I' : Mem} {p g q nr f x : Nat} (h : RlA I I' p g q nr f) (h1 : I (p + 1) nr = I' (g + 22) (12 * q + nr)) (h2 : I (p + 2) nr = nI f) (h3 : I (p + 3) nr = nI x) (h4 : I' (g + 23) (12 * q + nr) = nI x) (hx : x ≤ 4) (hT : TsR I I' p g f (12 * q + nr) x) : RlA I I' p g q (nr + 1) (f + x) := by
  refine ⟨by rw [mTs, h.1, h4]; exact nI_add _ _, fun j hj => ?_⟩
  rcases Nat.lt_or_ge j nr with z | z
  · obtain ⟨q1, f', cnt, q2, q3, q4, q5, q6, q7⟩ := h.2 j z
    exact ⟨q1, f', cnt, q2, q3, q4, q5, by omega, q7⟩
  · obtain rfl : j = nr := by omega
    exact ⟨h1, f, x, h2, h3, h4, hx, Nat.le_refl _, hT⟩
theorem wAct_kind {I : Mem} {a : Nat} (h : ¬ wAct (isW I a) = -1) : I a 4 = 1 := by
  unfold wAct at h
  split at h
  · exact isW_kind ‹_›
  · split at h
    · exact isW_kind ‹_›
    · split at h
      · exact isW_kind ‹_›
      · split at h
        · exact isW_kind ‹_›
        · exact absurd rfl h
theorem end_sim {I : Mem} {K : MJ} {a g p q nr f x : Nat} (h : TkR I K a g) (hap : a + 1 < p) (hnr : nr < 12) (hA : RlA I K.1 p g q nr f) (hf : f ≤ 4 * nr) (hx : x ≤ 4) (hT : TsR I K.1 p g f (12 * q + nr) x) (h7 : I p 7 = nI (f + x)) (h2 : I (p + 2) nr = nI f) (h23 : K.1 (g + 23) (12 * q + nr) = nI x) :
    (rdEnd I a p nr).1 = (rEnd K g q (12 * q + nr) nr).1 ∧
    ((rdEnd I a p nr).1 = true → TkR (rdEnd I a p nr).2 (rEnd K g q (12 * q + nr) nr).2 a g ∧ RlR (rdEnd I a p nr).2 (rEnd K g q (12 * q + nr) nr).2.1 p g q (nr + 1) (f + x) ∧ (rEnd K g q (12 * q + nr) nr).2.1 (g + 21) q = nI (nr + 1)) ∧
    ((rdEnd I a p nr).1 = false → FlR (rdEnd I a p nr).2 (rEnd K g q (12 * q + nr) nr).2 a g) := by
  have h5 := h.1.2.2.2.2
  unfold rdEnd rEnd
  rw [← wAct_eq h]
  by_cases hw : wAct (isW I a) = -1
  · rw [if_pos hw, if_pos hw]
    exact ⟨rfl, fun z => (by cases z), fun _ => fl_of (K := (up2 K.1 (g + 22) (12 * q + nr) (wAct (isW I a)), K.2)) (by rw [h5]; exact (up2_a (by omega)).symm)⟩
  · rw [if_neg hw, if_neg hw]
    refine ⟨rfl, fun _ => ?_, fun z => (by cases z)⟩
    have hk0 : TkR I (up2 K.1 (g + 22) (12 * q + nr) (wAct (isW I a)), K.2) a g := h.keep (fun k _ => rfl) rfl (fun k _ _ => up2_a (by omega)) (by funext k; exact up2_a (by omega)) rfl
    have hk : I a 4 = 1 := wAct_kind hw
    have h1 := adv_sim hk0 (by rw [hk]; decide)
    have cA : ∀ c k, c ≠ a → adv I a c k = I c k := fun c k hc => adv_o hc
    have mA : ∀ c k, c ≠ g → (nxt (up2 K.1 (g + 22) (12 * q + nr) (wAct (isW I a)), K.2) g).1 c k = up2 K.1 (g + 22) (12 * q + nr) (wAct (isW I a)) c k := fun c k hc => nxt_o (Or.inl hc)
    generalize wAct (isW I a) = y at *
    generalize nxt (up2 K.1 (g + 22) (12 * q + nr) y, K.2) g = K1 at *
    simp only
    have e1 : up2 (adv I a) (p + 1) nr y p 7 - up2 (adv I a) (p + 1) nr y (p + 2) nr = nI x := by
      rw [up2_a (by omega), up2_a (by omega), cA _ _ (by omega), cA _ _ (by omega), h7, h2]
      rw [← nI_add]; grind
    rw [e1]
    refine ⟨?_, ⟨up2_same _ _ _ _, by omega, ?_, by omega, ?_⟩, up2_same _ _ _ _⟩
    · exact h1.keep (fun k _ => by rw [up2_a (by omega), up2_a (by omega), up2_a (by omega)]) (by funext k; rw [up2_a (by omega), up2_a (by omega), up2_a (by omega)]) (fun k _ _ => up2_a (by omega)) (by funext k; exact up2_a (by omega)) rfl
    · rw [up2_k (by omega), up2_a (by omega), up2_a (by omega), cA _ _ (by omega), h7]
    · refine RlA.snoc (hA.keep ?_ ?_ ?_ ?_) ?_ ?_ ?_ ?_ hx (hT.keep ?_ ?_)
      · intro c k z1 z2 z3
        unfold up2
        rw [if_neg (by omega), if_neg (by omega), if_neg (by omega), cA _ _ (by omega)]
      · intro c k z1 z2 z3
        unfold up2
        rw [if_neg (by omega), if_neg (by omega), if_neg (by omega), cA _ _ (by omega)]
      · intro c k z1 z2 z3 z4
        rw [up2_a (by omega), mA _ _ (by omega)]
        unfold up2
        rw [if_neg (by omega)]
      · intro c k z1 z2 z3 z4
        rw [up2_a (by omega), mA _ _ (by omega), up2_a (by omega)]
      · rw [up2_a (by omega), up2_a (by omega), up2_same, up2_a (by omega), mA _ _ (by omega), up2_same]
      · rw [up2_a (by omega), up2_a (by omega), up2_a (by omega), cA _ _ (by omega), h2]
      · rw [up2_a (by omega), up2_same]
      · rw [up2_a (by omega), mA _ _ (by omega), up2_a (by omega), h23]
      · intro c k z1 z2 z3 z4
        rw [up2_a (by omega), up2_a (by omega), up2_a (by omega), cA _ _ (by omega)]
      · intro c k z1 z2 z3 z4
        rw [up2_a (by omega), mA _ _ (by omega), up2_a (by omega)]
theorem rule_sim {I : Mem} {K : MJ} {a g p q nr t : Nat} (h : TkR I K a g) (hap : a + 1 < p) (hR : RlR I K.1 p g q nr t) :
    (rdRule I a p t nr).1 = (rRl K g q nr).1 ∧
    ((rdRule I a p t nr).1 = true → nr < 12 ∧ TkR (rdRule I a p t nr).2 (rRl K g q nr).2 a g ∧ (∃ t', RlR (rdRule I a p t nr).2 (rRl K g q nr).2.1 p g q (nr + 1) t') ∧ (rRl K g q nr).2.1 (g + 21) q = nI (nr + 1)) ∧
    ((rdRule I a p t nr).1 = false → FlR (rdRule I a p t nr).2 (rRl K g q nr).2 a g) := by
  have h5 := h.1.2.2.2.2
  obtain ⟨r1, r2, r3, r4, r5⟩ := hR
  unfold rdRule rRl
  rw [← wAct_eq h, ← isW_eq h (show kwOK kw_when = true by decide)]
  by_cases hw : isW I a kw_when = false ∧ wAct (isW I a) = -1
  · rw [if_pos hw, if_pos hw]
    exact ⟨rfl, fun z => (by cases z), fun _ => fl_of h5⟩
  · rw [if_neg hw, if_neg hw]
    by_cases hn : nr = 12
    · rw [if_pos (show 12 ≤ nr by omega), if_pos hn]
      exact ⟨rfl, fun z => (by cases z), fun _ => fl_of h5⟩
    · rw [if_neg (show ¬ 12 ≤ nr by omega), if_neg hn]
      have hk0 : TkR (up2 I (p + 2) nr (nI t)) (up2 K.1 (g + 23) (12 * q + nr) 0, K.2) a g := h.keep (fun k _ => up2_a (by omega)) (by funext k; exact up2_a (by omega)) (fun k _ _ => up2_a (by omega)) (by funext k; exact up2_a (by omega)) rfl
      have hA0 : RlA (up2 I (p + 2) nr (nI t)) (up2 K.1 (g + 23) (12 * q + nr) 0) p g q nr t := r5.keep (fun c k z1 z2 z3 => up2_k (by omega)) (fun c k z1 z2 z3 => up2_a (by omega)) (fun c k z1 z2 z3 z4 => up2_k (by omega)) (fun c k z1 z2 z3 z4 => up2_a (by omega))
      by_cases hwh : isW I a kw_when = true
      · rw [if_pos hwh, if_pos hwh]
        unfold rdTests
        obtain ⟨s1, s2, s3⟩ := ts_sim (r := 12 * q + nr) (f := t) hap (by omega) 5 _ _ 0 rfl (by omega) hk0 (by rw [up2_a (by omega)]; exact isW_kind hwh) (fun i hi => absurd hi (by omega))
        rw [Nat.add_zero] at s1 s2 s3
        generalize hC : rdTs (up2 I (p + 2) nr (nI t)) a p t 0 5 = C at *
        generalize hM : rTs (up2 K.1 (g + 23) (12 * q + nr) 0, K.2) g (12 * q + nr) 0 5 = M at *
        rcases hb : C.1 with _ | _
        · rw [hb] at s1
          rw [if_neg (show ¬ (false = true) by decide), if_neg (by rw [← s1]; decide)]
          exact ⟨s1, fun z => (by cases z), fun _ => s3 hb⟩
        · rw [hb] at s1
          rw [if_pos rfl, if_pos s1.symm]
          obtain ⟨x, x4, y2, y3, y4, y5, y6, y7⟩ := s2 hb
          have hA1 : RlA C.2 M.2.1 p g q nr t := hA0.keep (fun c k z1 z2 z3 => y6 c k (by omega) (by omega) (by omega)) (fun c k z1 z2 z3 => y6 c k (by omega) (by omega) (by omega)) (fun c k z1 z2 z3 z4 => y7 c k (by omega) (by omega) (by omega) (by omega)) (fun c k z1 z2 z3 z4 => y7 c k (by omega) (by omega) (by omega) (by omega))
          obtain ⟨e1, e2, e3⟩ := end_sim y2 hap (show nr < 12 by omega) hA1 r4 x4 y3 y4 (by rw [y6 _ _ (by omega) (by omega) (by omega), up2_same]) y5
          exact ⟨e1, fun z => ⟨by omega, (e2 z).1, ⟨_, (e2 z).2.1⟩, (e2 z).2.2⟩, e3⟩
      · rw [if_neg hwh, if_neg hwh]
        obtain ⟨e1, e2, e3⟩ := end_sim (x := 0) hk0 hap (show nr < 12 by omega) hA0 r4 (by omega) (fun i hi => absurd hi (by omega)) (by rw [up2_a (by omega)]; exact r3) (up2_same _ _ _ _) (up2_same _ _ _ _)
        exact ⟨e1, fun z => ⟨by omega, (e2 z).1, ⟨_, (e2 z).2.1⟩, (e2 z).2.2⟩, e3⟩
theorem RlR.pl {I I' : Mem} {p g q nr t : Nat} (h : RlR I I' p g q nr t) (h21 : I' (g + 21) q = nI nr) : PlR I I' p g q := by
  obtain ⟨r1, r2, r3, r4, r5, r6⟩ := h
  have n1 : pN I p = nr := by rw [pN, r1]; exact nI_clamp (by omega)
  have n2 : mNr I' g q = nr := by rw [mNr, h21]; exact nI_clamp (by omega)
  unfold PlR PlanOK MplOK
  rw [n1, n2]
  refine ⟨⟨r1, r2, fun j hj => ?_⟩, ⟨h21, r2, fun j hj => ?_⟩, rfl, r3.trans r5.symm, fun j hj => ?_⟩
  · obtain ⟨q1, f, cnt, q2, q3, q4, q5, q6, q7⟩ := r6 j hj
    have e1 : pF I p j = f := by rw [pF, q2]; exact nI_clamp (by omega)
    have e2 : pC I p j = cnt := by rw [pC, q3]; exact nI_clamp (by omega)
    rw [e1, e2]
    exact ⟨q2, q3, by omega⟩
  · obtain ⟨q1, f, cnt, q2, q3, q4, q5, q6, q7⟩ := r6 j hj
    have e2 : mTc I' g (12 * q + j) = cnt := by rw [mTc, q4]; exact nI_clamp (by omega)
    rw [e2]
    exact ⟨q4, q5⟩
  · obtain ⟨q1, f, cnt, q2, q3, q4, q5, q6, q7⟩ := r6 j hj
    have e1 : pF I p j = f := by rw [pF, q2]; exact nI_clamp (by omega)
    have e2 : pC I p j = cnt := by rw [pC, q3]; exact nI_clamp (by omega)
    have e3 : mTc I' g (12 * q + j) = cnt := by rw [mTc, q4]; exact nI_clamp (by omega)
    rw [e1, e2, e3]
    exact ⟨q1, rfl, q7⟩
theorem rs_sim {a g p q : Nat} (hap : a + 1 < p) : ∀ (fu : Nat) (I : Mem) (K : MJ) (nr t : Nat), nr + fu = 13 → nr ≤ 12 → TkR I K a g → RlR I K.1 p g q nr t →
    (rdRs I a p fu).1 = (rRs K g q nr fu).1 ∧
    ((rdRs I a p fu).1 = true → TkR (rdRs I a p fu).2 (rRs K g q nr fu).2 a g ∧ PlR (rdRs I a p fu).2 (rRs K g q nr fu).2.1 p g q) ∧
    ((rdRs I a p fu).1 = false → FlR (rdRs I a p fu).2 (rRs K g q nr fu).2 a g)
  | 0, I, K, nr, t, h1, h2, _, _ => by omega
  | fu + 1, I, K, nr, t, h1, h2, h, hR => by
    have n1 : pN I p = nr := by rw [pN, hR.1]; exact nI_clamp (by omega)
    have n2 : pT I p = t := by rw [pT, hR.2.2.1]; exact nI_clamp (by have := hR.2.2.2.1; omega)
    obtain ⟨s1, s2, s3⟩ := rule_sim h hap hR
    rw [rdRs, rRs, n1, n2]
    generalize hC : rdRule I a p t nr = C at *
    generalize hM : rRl K g q nr = M at *
    rcases hb : C.1 with _ | _
    · rw [hb] at s1
      rw [if_neg (show ¬ (false = true) by decide), if_neg (by rw [← s1]; decide)]
      exact ⟨s1, fun z => (by cases z), fun _ => s3 hb⟩
    · rw [hb] at s1
      rw [if_pos rfl, if_pos s1.symm]
      obtain ⟨n12, y1, ⟨t', y2⟩, y3⟩ := s2 hb
      by_cases h0 : C.2 a 4 = 0
      · rw [if_pos h0, if_neg (by rw [(tk_is y1).2.2, h0]; decide), if_pos ((tk_sort1 y1).mpr h0)]
        exact ⟨rfl, fun _ => ⟨y1, y2.pl y3⟩, fun z => (by cases z)⟩
      · rw [if_neg h0]
        by_cases h5 : C.2 a 4 = 5
        · rw [if_pos h5, if_pos ((tk_is y1).2.2.mpr h5)]
          refine rs_sim hap fu _ _ (nr + 1) t' (by omega) (by omega) (adv_sim y1 (by rw [h5]; decide)) ?_
          have cA : ∀ c k, c ≠ a → adv C.2 a c k = C.2 c k := fun c k hc => adv_o hc
          have mA : ∀ c k, c ≠ g → (nxt M.2 g).1 c k = M.2.1 c k := fun c k hc => nxt_o (Or.inl hc)
          obtain ⟨w1, w2, w3, w4, w5⟩ := y2
          exact ⟨by rw [cA _ _ (by omega)]; exact w1, w2, by rw [cA _ _ (by omega)]; exact w3, w4, w5.keep (fun c k _ _ _ => cA _ _ (by omega)) (fun c k _ _ _ => cA _ _ (by omega)) (fun c k _ _ _ _ => mA _ _ (by omega)) (fun c k _ _ _ _ => mA _ _ (by omega))⟩
        · rw [if_neg h5, if_neg (by rw [(tk_is y1).2.2]; exact h5), if_neg (by rw [tk_sort1 y1]; exact h0)]
          exact ⟨rfl, fun z => (by cases z), fun _ => fl_of y1.1.2.2.2.2⟩
theorem plan_sim {I : Mem} {K : MJ} {a g p q : Nat} (hap : a + 1 < p) (h : TkR I K a g) :
    (rdPlan I a p).1 = (rPl K g q).1 ∧
    ((rdPlan I a p).1 = true → TkR (rdPlan I a p).2 (rPl K g q).2 a g ∧ PlR (rdPlan I a p).2 (rPl K g q).2.1 p g q) ∧
    ((rdPlan I a p).1 = false → FlR (rdPlan I a p).2 (rPl K g q).2 a g) := by
  refine rs_sim hap 13 _ _ 0 0 rfl (by omega) (h.keep (fun k _ => by rw [up2_a (by omega), up2_a (by omega)]) (by funext k; rw [up2_a (by omega), up2_a (by omega)]) (fun k _ _ => up2_a (by omega)) (by funext k; exact up2_a (by omega)) rfl) ?_
  exact ⟨by rw [up2_k (by omega), up2_same], by omega, up2_same _ _ _ _, by omega, rfl, fun j hj => absurd hj (by omega)⟩
