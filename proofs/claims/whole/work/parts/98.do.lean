/-! ===== phase 2: a team begins; leg ===== -/
theorem up2_f {f : Mem} {a k b j : Nat} {x : Int32} (h : ¬ (b = a ∧ j = k)) : up2 f a k x b j = f b j := by unfold up2; rw [if_neg h]
theorem mClr_4 {I : Mem} {t k : Nat} : ∀ j, k < j → mClr I t j (t + 4) k = -1 ∧ mClr I t j (t + 5) k = -1
  | 0, h => by omega
  | j + 1, h => by
    rw [mClr]
    by_cases hk : k = j
    · subst hk
      exact ⟨by rw [up2_a (by omega), up2_same], by rw [up2_same]⟩
    · have := mClr_4 (I := I) (t := t) j (show k < j by omega)
      exact ⟨by rw [up2_a (by omega), up2_k hk]; exact this.1, by rw [up2_k hk, up2_a (by omega)]; exact this.2⟩
theorem dBeg_all {I : Mem} {d k : Nat} : ∀ j, k < j → dBeg I d j (d + 1) k = 1000 ∧ dBeg I d j (d + 2) k = 0 ∧ dBeg I d j (d + 3) k = -1
  | 0, h => by omega
  | j + 1, h => by
    rw [dBeg]
    by_cases hk : k = j
    · subst hk
      exact ⟨by rw [up2_a (by omega), up2_a (by omega), up2_same], by rw [up2_a (by omega), up2_same], by rw [up2_same]⟩
    · have := dBeg_all (I := I) (d := d) j (show k < j by omega)
      exact ⟨by rw [up2_a (by omega), up2_a (by omega), up2_k hk]; exact this.1, by rw [up2_a (by omega), up2_k hk, up2_a (by omega)]; exact this.2.1, by rw [up2_k hk, up2_a (by omega), up2_a (by omega)]; exact this.2.2⟩
theorem mOf_new {I : Mem} {u : Nat} : ∀ m, (∀ k, k < m → I (u + 2) k = 0) → mOf I u 0 m = nI m ∧ mOf I u 1 m = 0
  | 0, _ => ⟨rfl, rfl⟩
  | m + 1, h => by
    have ih := mOf_new m (fun k hk => h k (by omega))
    rw [mOf, mOf, ih.1, ih.2, h m (by omega), if_pos rfl, if_neg (by decide), nI_succ]
    exact ⟨rfl, rfl⟩
theorem mBegin_rows {I : Mem} {u : Nat} {m l f s p : Int32} : (∀ k, k < 16 → mBegin I u m l f s p (u + 1) k = 1000 ∧ mBegin I u m l f s p (u + 2) k = 0 ∧ mBegin I u m l f s p (u + 3) k = -1) ∧ ∀ k, k < 13 → mBegin I u m l f s p (u + 4) k = -1 ∧ mBegin I u m l f s p (u + 5) k = -1 := by
  refine ⟨fun k hk => ?_, fun k hk => mClr_4 13 hk⟩
  rw [mBegin, mClr_a (by omega), mClr_a (by omega), mClr_a (by omega)]
  exact dBeg_all 16 hk
theorem tBegin_int {I : Mem} {t m : Nat} {l f s p : Int32} : tBegin I t m l f s p t 4 = l ∧ tBegin I t m l f s p t 5 = f ∧ tBegin I t m l f s p t 6 = s ∧ tBegin I t m l f s p t 7 = p ∧ tBegin I t m l f s p t 8 = 0 ∧ tBegin I t m l f s p t 9 = f ∧ tBegin I t m l f s p t 10 = 0 ∧ tBegin I t m l f s p t 11 = 0 ∧ tBegin I t m l f s p t 12 = 0 ∧ tBegin I t m l f s p t 13 = 0 ∧ tBegin I t m l f s p t 14 = -1 := by
  unfold tBegin
  simp [up2]
theorem tBegin_o {I : Mem} {t m b k : Nat} {l f s p : Int32} (h : b ≠ t) : tBegin I t m l f s p b k = fillTo (fillTo (up2 (dBegin I (t + 1) m) (t + 5) 2 0) (t + 8) 13 (-1)) (t + 9) 13 (-1) b k := by
  unfold tBegin
  rw [up2_a h, up2_a h, up2_a h, up2_a h, up2_a h, up2_a h, up2_a h, up2_a h, up2_a h, up2_a h, up2_a h]
theorem tm_begin {I I' : Mem} {t u m ow p st n np s : Nat} {f : Int32} (hm : m ≤ 16) (hm0 : 0 < m) (how : ow ≤ 300) (hp : p < np) (hnp : np ≤ 8) (hst : st ≤ 100) (hn : 0 < n) : TmR (tBegin I t m (nI ow) f (nI st) (nI p)) (mBegin I' u (nI m) (nI ow) f (nI st) (nI p)) t u n np s := by
  obtain ⟨b0, b1, b2, b3, b4, b5, b6, b7, b8, b9, b10, b11, b12, b13, b14⟩ := mPuts_f I' u (nI m) (nI ow) f (nI st) (nI p)
  have ef := mBegin_f I' u (nI m) (nI ow) f (nI st) (nI p)
  have hM := mtg_begin (I := I') (t := u) (u := s) (f := f) (s := nI st) hm hm0 how hp hnp hn
  obtain ⟨c4, c5, c6, c7, c8, c9, c10, c11, c12, c13, c14⟩ := tBegin_int (I := I) (t := t) (m := m) (l := nI ow) (f := f) (s := nI st) (p := nI p)
  have co : ∀ b k, b ≠ t → tBegin I t m (nI ow) f (nI st) (nI p) b k = fillTo (fillTo (up2 (dBegin I (t + 1) m) (t + 5) 2 0) (t + 8) 13 (-1)) (t + 9) 13 (-1) b k := fun b k hb => tBegin_o hb
  obtain ⟨r1, r2⟩ := mBegin_rows (I := I') (u := u) (m := nI m) (l := nI ow) (f := f) (s := nI st) (p := nI p)
  generalize tBegin I t m (nI ow) f (nI st) (nI p) = C at *
  generalize mBegin I' u (nI m) (nI ow) f (nI st) (nI p) = M at *
  obtain ⟨o1, o2⟩ := mOf_new (I := M) (u := u) m (fun k hk => (r1 k (by omega)).2.1)
  have d3 : C (t + 1) 3 = nI m := by rw [co _ _ (by omega)]; simp [fillTo, up2, dBegin, dBeg_d]
  have d4 : C (t + 1) 4 = nI m := by rw [co _ _ (by omega)]; simp [fillTo, up2, dBegin, dBeg_d]
  have d5 : C (t + 1) 5 = 0 := by rw [co _ _ (by omega)]; simp [fillTo, up2, dBegin, dBeg_d]
  have g2 : C (t + 5) 2 = 0 := by rw [co _ _ (by omega)]; simp [fillTo, up2]
  have rr : ∀ k, k < m → C (t + 1 + 1) k = 1000 ∧ C (t + 1 + 2) k = 0 ∧ C (t + 1 + 3) k = -1 := fun k hk => by
    rw [co _ _ (by omega), co _ _ (by omega), co _ _ (by omega)]
    obtain ⟨q1, q2, q3⟩ := dBeg_all (I := up2 (up2 (up2 I (t + 1) 3 (nI m)) (t + 1) 4 (nI m)) (t + 1) 5 0) (d := t + 1) m hk
    refine ⟨?_, ?_, ?_⟩
    · unfold fillTo; rw [if_neg (by omega), if_neg (by omega), up2_a (by omega)]; exact q1
    · unfold fillTo; rw [if_neg (by omega), if_neg (by omega), up2_a (by omega)]; exact q2
    · unfold fillTo; rw [if_neg (by omega), if_neg (by omega), up2_a (by omega)]; exact q3
  have w8 : ∀ k, k < 13 → C (t + 8) k = -1 ∧ C (t + 9) k = -1 := fun k hk => by
    rw [co _ _ (by omega), co _ _ (by omega)]
    unfold fillTo
    rw [if_neg (by omega), if_pos (by omega), if_pos (by omega)]
    exact ⟨rfl, rfl⟩
  have eg : mG M u = 0 := by rw [mG, ef, b12]; rfl
  refine ⟨m, hm0, ⟨⟨d3, by rw [ef, b0], hm⟩, ⟨by rw [c4, ef, b13], by rw [c5, ef, b14], by rw [c6, ef, b3], by rw [c7, ef, b4], by rw [c8, ef, b5], by rw [c9, ef, b2], by rw [c10, ef, b6], by rw [c11, ef, b7], by rw [c12, ef, b8], by rw [c13, ef, b9], by rw [c14, ef, b10]⟩, ⟨by rw [d4, o1], by rw [d5, o2], fun k hk => ?_⟩, fun k hk => ?_, by rw [g2, ef, b12], fun k hk => absurd hk (by omega)⟩, ?_, fun k hk => ⟨1000, Nat.le_refl _, (r1 k (by omega)).1⟩, ⟨0, by omega, by rw [ef, b7]; rfl⟩, ⟨⟨Or.inl (by rw [ef, b5]), fun k hk => Or.inl (r1 k (by omega)).2.1⟩, st, hst, by rw [ef, b3]⟩, hM⟩
  · obtain ⟨q1, q2, q3⟩ := rr k hk
    obtain ⟨p1, p2, p3⟩ := r1 k (by omega)
    exact ⟨q1.trans p1.symm, q2.trans p2.symm, q3.trans p3.symm⟩
  · obtain ⟨q1, q2⟩ := w8 k hk
    obtain ⟨p1, p2⟩ := r2 k hk
    exact ⟨q1.trans p1.symm, q2.trans p2.symm⟩
  · rw [tLoad, c4, d5, ef, b1, show (25 : Int32) * 0 = 0 from rfl]; grind
theorem tim_begin {I' : Mem} {u n : Nat} {m l f s p : Int32} : TimOK (mBegin I' u m l f s p) u n 0 := by
  obtain ⟨b0, b1, b2, b3, b4, b5, b6, b7, b8, b9, b10, b11, b12, b13, b14⟩ := mPuts_f I' u m l f s p
  have ef := mBegin_f I' u m l f s p
  obtain ⟨r1, r2⟩ := mBegin_rows (I := I') (u := u) (m := m) (l := l) (f := f) (s := s) (p := p)
  refine ⟨⟨0, by rw [ef, b6]; rfl, by omega, fun p hp => absurd hp (by omega), fun p q1 q2 => (r2 p (by omega)).2, fun _ => ⟨rfl, (r2 0 (by omega)).2, by rw [ef, b7]⟩, fun z => ?_, fun z => ?_⟩, fun _ => by rw [ef, b5]⟩
  · rw [ef, b5] at z; exact absurd z (by decide)
  · rw [ef, b5] at z; exact absurd z (by decide)
theorem inB_rng {x : Int32} {a b : Nat} (hb : b < 2 ^ 31) (ha : a < 2 ^ 31) (h : inB x (nI a) (nI b) = true) : ∃ m, a ≤ m ∧ m ≤ b ∧ x = nI m := by
  unfold inB at h
  rw [Bool.and_eq_true] at h
  have h1 := of_decide_eq_true h.1
  have h2 := of_decide_eq_true h.2
  obtain ⟨m, hm, rfl⟩ := nI_of (x := x) (fun q => absurd (Int32.le_trans (nI_pos' ha) h1) (Int32.not_le.mpr q))
  exact ⟨m, (nI_leI ha hm).mp h1, (nI_leI hm hb).mp h2, rfl⟩
section DO
variable {S : Nat → Option (Nat × Nat)} {V : Nat → Nat → Option Nat} {N : Nat} {I I' : Mem} {h g n c s e np k z : Nat}
theorem rel_trb {x : Int32} (H : RelA S V N I I' h g n c s e np k z) (hf : I (h + 1) 7 = I' g 3) (hx : ¬ x = 4) : Rel S V N (up2 I h 8 x) (mTrb I' g x) h g n c s e np k z := by
  refine ⟨H.mem (fun b j q1 q2 q3 => up2_f (by omega)) (fun b j q1 q2 q3 q4 => ?_), ?_⟩
  · rw [mTrb, up2_f (by omega), up2_f (by omega)]
  · refine ⟨by rw [up2_same, mTrb, up2_k (by decide), up2_same], by rw [up2_a (by omega), mTrb, up2_k (by decide), up2_k (by decide)]; exact hf, ?_⟩
    rw [up2_same, if_neg hx, mTrb, up2_same]
/-- a call that changed something and ends well -/
theorem RelA.mn (H : RelA S V N I I' h g n c s e np k z) : g = h + 162 := H.1.2.2.2.1
theorem TmR.more {t u n1 np1 s1 : Nat} (hT : TmR I I' t u n np s) (hn : n ≤ n1) (hp : np ≤ np1) (hs : s ≤ s1) : TmR I I' t u n1 np1 s1 := by
  obtain ⟨m, m0, t1, t2, t3, t4, t5, g1, g2, g3, g4, g5, g6, g7, g8, g9, g10, l, l1, l2, l3⟩ := hT
  exact ⟨m, m0, t1, t2, t3, t4, t5, g1, g2, g3, g4, g5, by omega, g7, g8, g9, by omega, l, l1, by omega, fun q => ⟨by have := (l3 q).1; omega, (l3 q).2⟩⟩
theorem RelA.upd {n1 c1 e1 : Nat} {I1 I1' : Mem} (H : RelA S V N I I' h g n c s e np k z) (hN : Nms I1' g n1 c1 s e1) (hR : Now I1 I1' h g n1 c1 s e1 np) (hSg : Signs S V I1 I1' h g c1 s e1) (hTi : Tims I1' (mt g) n1 c1 s)
    (hc : ∀ b j, (b = h ∧ j ≠ 8) ∨ (b = h + 1 ∧ j = 1) ∨ (h + 2 ≤ b ∧ b ≤ h + 8) ∨ (h + 76 ≤ b ∧ b < g) ∨ g + 148 ≤ b → I1 b j = I b j) (hm : ∀ b j, (b = g ∧ 8 ≤ j) ∨ (g + 5 ≤ b ∧ b ≤ g + 8) ∨ (g + 20 ≤ b ∧ b ≤ g + 27) → I1' b j = I' b j) (hk : ∀ i b j, i < 6 → kt g i ≤ b → b ≤ kt g i + 9 → I1' b j = I' b j)
    (hg1 : ∀ i j, i < c → j = 0 ∨ j = 3 ∨ j = 13 ∨ j = 14 → I1' (mt g i) j = I' (mt g i) j) (hg2 : 0 < s → ∀ j, I1' (g + 1) j = I' (g + 1) j ∧ I1' (g + 2) j = I' (g + 2) j) (hg3 : ∀ j, 6 * j < s → I1' (g + 3) j = I' (g + 3) j) (hn0 : 0 < s → n1 = n) (hn1 : n ≤ n1) (hc1 : c ≤ c1) (he1 : 0 < s → e1 = e) : RelA S V N I1 I1' h g n1 c1 s e1 np k z := by
  obtain ⟨hS, -, -, -, -, ⟨p1, p2, p3, p4⟩, ⟨l1, l2, l3, l4⟩, ⟨t1, t2, t3, t4, t5⟩, hK, hG⟩ := H
  have hgh : g = h + 162 := hS.2.2.2.1
  refine ⟨hS, hN, hR, hSg, hTi, ⟨(hc _ _ (by omega)).trans p1, (hm _ _ (by omega)).trans p2, p3, fun q hq => (p4 q hq).keep (fun b j q1 q2 => hc _ _ (by omega)) (fun b j q1 q2 => hm _ _ (by omega))⟩, ⟨(hc _ _ (by omega)).trans l1, (hm _ _ (by omega)).trans l2, l3, fun j hj => (l4 j hj).keep (fun b q1 q2 => hc _ _ (by omega)) (fun b q1 q2 => hm _ _ (by omega))⟩, ⟨(hc _ _ (by omega)).trans t1, (hm _ _ (by omega)).trans t2, t3, fun j => by rw [hc _ _ (by omega), hm _ _ (by omega)]; exact t4 j, fun j hj => by rw [hm _ _ (by omega)]; exact t5 j hj⟩, ?_, ?_⟩
  · rcases hK with ⟨k1, k2⟩ | ⟨K, n', c', s', e', hK⟩
    · exact Or.inl ⟨k1, (hm _ _ (by omega)).trans k2⟩
    · have k2 : g + 148 ≤ K := hK.1.2.1
      exact Or.inr ⟨K, n', c', s', e', hK.mem (fun b j q1 q2 => hc _ _ (by omega)) (fun i j hi _ => hc _ _ (by have := rw_in hS hi; omega)) (fun b j q => hm _ _ (by omega)) (fun i b j hi q1 q2 => hk i b j hi q1 q2) (Nat.le_refl _) he1⟩
  · have hG1 := hG.keep p3 (fun q hq => (p4 q hq).2.1) (fun j q => hc _ _ (by omega)) (fun b j q1 q2 => hc _ _ (by omega)) (I1' := I1') ⟨hg1, hg2, hg3, fun q hq => ⟨hm _ _ (by omega), fun j q1 q2 => ⟨hm _ _ (by omega), hm _ _ (by omega)⟩, fun j q1 q2 => ⟨hm _ _ (by omega), hm _ _ (by omega), hm _ _ (by omega)⟩⟩⟩ hn0 hn1
    rcases hG1 with q | ⟨i, q, gs, a1, a2⟩
    · exact Or.inl q
    · exact Or.inr ⟨i, q, gs, by omega, a2⟩
theorem TimOK.n0 {I' : Mem} {u n1 : Nat} (hT : TimOK I' u n 0) : TimOK I' u n1 0 := by
  obtain ⟨⟨l, a1, a2, a3, a4, a5, a6, a7⟩, a8⟩ := hT
  exact ⟨⟨l, a1, a2, a3, a4, a5, a6, fun q => by rw [a8 rfl] at q; exact absurd q (by decide)⟩, a8⟩
theorem do_leg (H : Rel S V N I I' h g n c s e np k z) (x y : Int32) : (hLeg I h n x y).1 = (mLeg I' g n x y).1 ∧ ∃ n1, Rel S V N (hLeg I h n x y).2 (mLeg I' g n x y).2 h g n1 c s e np k z := by
  obtain ⟨H, T1, T2, T3⟩ := H
  have hgh := H.mn
  have n12 := H.n12
  have c6 := H.c6
  have HH := H
  obtain ⟨hS, ⟨n1, n2, n3, n4, n5⟩, ⟨⟨q1, q2, q3, q4, q5, q6, q7, q8⟩, ⟨w1, w2, w3, w4⟩, hT⟩, hSg, hTi, hPl, hLw, hTp, hK, hG⟩ := H
  rw [hLeg, mLeg, q3, n4]
  by_cases h0 : nI s ≤ 0
  · rw [if_pos h0, if_pos h0]
    have s0 : s = 0 := by
      have := (nI_leI (a := s) (b := 0) (by omega) (by decide)).mp h0
      omega
    subst s0
    by_cases hb : inB x 10 2000 = true ∧ inB y 50 200 = true
    · rw [if_pos hb, if_pos hb]
      by_cases hn : n < 12
      · rw [if_pos hn, if_pos hn]
        refine ⟨rfl, n + 1, ?_⟩
        obtain ⟨xx, x1, x2, rfl⟩   := inB_rng (a := 10) (b := 2000) (by decide) (by decide) hb.1
        obtain ⟨yy, y1, y2, rfl⟩   := inB_rng (a := 50) (b := 200) (by decide) (by decide) hb.2
        refine rel_trb ?_ ?_ (by decide)
        · have cI : ∀ b j, (b < h + 9 + 1 ∨ h + 9 + 4 < b) → trAdd I (h + 9 + 1) n (nI xx) (nI yy) b j = I b j := fun b j q => by
            rw [trAdd, up2_f (by omega), up2_f (by omega), up2_f (by omega), up2_f (by omega)]
          have mI : ∀ b j, ¬ (b = g + 1 ∨ b = g + 2 ∨ (b = g ∧ j = 4)) → up2 (up2 (up2 I' (g + 1) n (nI xx)) (g + 2) n (nI yy)) g 4 (nI (n + 1)) b j = I' b j := fun b j q => by
            rw [up2_f (by omega), up2_f (by omega), up2_f (by omega)]
          refine HH.upd (n1 := n + 1) (c1 := c) (e1 := e) ⟨(mI _ _ (by omega)).trans n1, up2_same _ _ _ _, (mI _ _ (by omega)).trans n3, (mI _ _ (by omega)).trans n4, (mI _ _ (by omega)).trans n5⟩ ⟨⟨(cI _ _ (by omega)).trans q1, q2, (cI _ _ (by omega)).trans q3, q4, (cI _ _ (by omega)).trans q5, q6, q7, by omega⟩, ⟨⟨up2_same _ _ _ _, by omega, fun j hj => ?_, fun j hj => ?_⟩, ⟨?_, fun j hj => ?_⟩, ⟨fun j hj => ?_, fun j hj => ?_⟩, fun j hj => ?_⟩, fun i hi => ?_⟩ ⟨fun q => absurd q (by omega), fun i hi => (hSg.2 i hi).kp (fun j => cI _ _ (by have := rw_in hS (show i < 6 by omega); omega)) (fun b j q => mI _ _ (by have := mt_e g i; omega))⟩ (fun i hi => ((hTi i hi).kp (fun b j q1 q2 => mI _ _ (by have := mt_e g i; omega))).n0) (fun b j q => cI _ _ (by omega)) (fun b j q => mI _ _ (by omega)) (fun i b j hi q1 q2 => mI _ _ (by have := kt_e g i; omega)) (fun i j hi q => mI _ _ (by have := mt_e g i; omega)) (fun q => absurd q (by omega)) (fun j q => mI _ _ (by omega)) (fun q => absurd q (by omega)) (by omega) (Nat.le_refl _) (fun _ => rfl)
          · rw [trAdd]
            by_cases hj2 : j = n
            · subst hj2
              exact ⟨by simp [up2], by simp [up2]⟩
            · obtain ⟨z1, z2⟩ := w1.2.2.1 j (by omega)
              rw [up2_f (by omega), up2_f (by omega), up2_f (by omega), up2_f (by omega), up2_f (by omega), up2_f (by omega), up2_f (by omega), up2_f (by omega), up2_f (by omega), up2_f (by omega), up2_f (by omega), up2_f (by omega), up2_f (by omega), up2_f (by omega)]
              exact ⟨z1, z2⟩
          · rw [cI _ _ (by omega), mI _ _ (by omega)]; exact w1.2.2.2 j hj
          · rw [trAdd, up2_f (by omega), up2_f (by omega), up2_f (by omega), up2_f (by omega)]; exact w2.1
          · rw [trAdd]
            by_cases hj2 : j = n
            · subst hj2
              rw [up2_f (by omega), up2_same, up2_f (by omega), up2_f (by omega), up2_f (by omega), up2_f (by omega), up2_f (by omega), up2_f (by omega), up2_f (by omega), up2_same]
            · have := w2.2 j (by omega)
              rw [up2_f (by omega), up2_f (by omega), up2_f (by omega), up2_f (by omega), up2_f (by omega), up2_f (by omega), up2_f (by omega), up2_f (by omega), up2_f (by omega), up2_f (by omega), up2_f (by omega), up2_f (by omega)]
              exact this
          · by_cases hj2 : j = n
            · subst hj2
              exact ⟨yy, y1, y2, by simp [up2]⟩
            · rw [up2_f (by omega), up2_f (by omega), up2_f (by omega)]; exact w3.1 j (by omega)
          · rw [mI _ _ (by omega)]; exact w3.2 j hj
          · by_cases hj2 : j = n
            · subst hj2
              exact ⟨xx, x2, by simp [up2]⟩
            · rw [up2_f (by omega), up2_f (by omega), up2_f (by omega)]; exact w4 j (by omega)
          · exact ((hT i hi).more (n1 := n + 1) (by omega) (Nat.le_refl _) (Nat.le_refl _)).keep (fun b j z1 z2 => cI _ _ (by omega)) (fun b j q => mI _ _ (by have := mt_e g i; omega))
        · rw [trAdd, up2_f (by omega), up2_f (by omega), up2_f (by omega), up2_f (by omega), up2_f (by omega), up2_f (by omega), up2_f (by omega)]
          exact T2
      · rw [if_neg hn, if_neg hn]
        exact ⟨rfl, n, rel_trb HH T2 (by decide)⟩
    · rw [if_neg hb, if_neg hb]
      exact ⟨rfl, n, rel_trb HH T2 (by decide)⟩
  · rw [if_neg h0, if_neg h0]
    exact ⟨rfl, n, rel_trb HH T2 (by decide)⟩
end DO
