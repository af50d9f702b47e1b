/-! ===== phase 2: replay ===== -/
section DO11
variable {S : Nat → Option (Nat × Nat)} {V : Nat → Nat → Option Nat} {N : Nat} {I I' : Mem} {h g n c s e np k z : Nat}
theorem RelA.gh {I1 I1' : Mem} (H : RelA S V N I I' h g n c s e np k z) (hc : ∀ b j, (b < h + 77 ∨ h + 86 < b) → ¬ (b = h ∧ 9 ≤ j) → I1 b j = I b j) (hm : ∀ b j, b < g + 9 ∨ g + 18 < b → I1' b j = I' b j) (hG1 : Ghost I1 I1' h g n c s np) : RelA S V N I1 I1' h g n c s e np k z := by
  obtain ⟨hS, ⟨n1, n2, n3, n4, n5⟩, hN, ⟨g1, g2⟩, hTi, ⟨p1, p2, p3, p4⟩, ⟨l1, l2, l3, l4⟩, ⟨t1, t2, t3, t4, t5⟩, hK, hG⟩ := H
  have hgh : g = h + 162 := hS.2.2.2.1
  have c6 : c ≤ 6 := hN.1.2.1
  have mo : ∀ i b j, i < 6 → (mt g i ≤ b ∧ b ≤ mt g i + 9) ∨ (kt g i ≤ b ∧ b ≤ kt g i + 9) → I1' b j = I' b j := fun i b j hi z => by
    have e1 := mt_e g i
    have e2 := kt_e g i
    exact hm _ _ (by omega)
  refine ⟨hS, ⟨(hm _ _ (by omega)).trans n1, (hm _ _ (by omega)).trans n2, (hm _ _ (by omega)).trans n3, (hm _ _ (by omega)).trans n4, (hm _ _ (by omega)).trans n5⟩, hN.keep (fun b j q1 q2 => hc _ _ (by omega) (by omega)) (fun b j q => hm _ _ (by omega)) (fun i b j hi q => mo i b j (by omega) (by omega)), ⟨g1, fun i hi => (g2 i hi).kp (fun j => hc _ _ (by have := rw_in hS (show i < 6 by omega); omega) (by have := rw_in hS (show i < 6 by omega); omega)) (fun b j q => mo i b j (by omega) (by omega))⟩, fun i hi => (hTi i hi).kp (fun b j q1 q2 => mo i b j (by omega) (by omega)), ⟨(hc _ _ (by omega) (by omega)).trans p1, (hm _ _ (by omega)).trans p2, p3, fun q hq => (p4 q hq).keep (fun b j q1 q2 => hc _ _ (by omega) (by omega)) (fun b j q1 q2 => hm _ _ (by omega))⟩, ⟨(hc _ _ (by omega) (by omega)).trans l1, (hm _ _ (by omega)).trans l2, l3, fun j hj => (l4 j hj).keep (fun b q1 q2 => hc _ _ (by omega) (by omega)) (fun b q1 q2 => hm _ _ (by omega))⟩, ⟨(hc _ _ (by omega) (by omega)).trans t1, (hm _ _ (by omega)).trans t2, t3, fun j => by rw [hc _ _ (by omega) (by omega), hm _ _ (by omega)]; exact t4 j, fun j hj => by rw [hm _ _ (by omega)]; exact t5 j hj⟩, ?_, hG1⟩
  rcases hK with ⟨k1, k2⟩ | ⟨K, n', c', s', e', hK⟩
  · exact Or.inl ⟨k1, (hm _ _ (by omega)).trans k2⟩
  · have k2 : g + 148 ≤ K := hK.1.2.1
    exact Or.inr ⟨K, n', c', s', e', hK.mem (fun b j q1 q2 => hc _ _ (by omega) (by omega)) (fun i j hi _ => hc _ _ (by have := rw_in hS hi; omega) (by have := rw_in hS hi; omega)) (fun b j q => hm _ _ (by omega)) (fun i b j hi q1 q2 => mo i b j hi (by omega)) (Nat.le_refl _) (fun _ => rfl)⟩
theorem gh_steps {B : Mem} {i q gs s0 : Nat} (H : RelA S V N I I' h g n c s e np k z) (hB : ∀ b j, ¬ (g + 9 ≤ b ∧ b ≤ g + 18) → B b j = I' b j) (hq : q < np) {A : Mem} (hA : ∀ b j, (h + 10 ≤ b ∧ b ≤ h + 14) ∨ (h + 87 ≤ b ∧ b ≤ h + 149) → A b j = I b j) (h0 : TmR A (mGh B g i n (nI q) gs) (h + 77) (g + 9) n np s0) : ∀ j, gs + j ≤ 2000 → TmR (ghRun A h (h + 87 + 7 * q) gs j) (mGh B g i n (nI q) (gs + j)) (h + 77) (g + 9) n np s0
  | 0, _ => h0
  | j + 1, hj => by
    have ih := gh_steps H hB hq hA h0 j (by omega)
    have hgh := H.mn
    obtain ⟨-, -, ⟨-, ⟨w1, w2, w3, w4⟩, -⟩, -, -, ⟨p1, p2, p3, p4⟩, -⟩ := H
    have ka : ∀ b x, (h + 10 ≤ b ∧ b ≤ h + 14) ∨ (h + 87 ≤ b ∧ b ≤ h + 149) → ghRun A h (h + 87 + 7 * q) gs j b x = I b x := fun b x w => (gh_kp A h (h + 87 + 7 * q) gs j b x (by unfold PG; omega)).trans (hA b x w)
    have kb : ∀ b x, b < g + 9 ∨ g + 18 < b → mGh B g i n (nI q) (gs + j) b x = I' b x := fun b x w => (kp_mGh (gs + j) b x w).trans (hB b x (by omega))
    have h4 : mPl (mGh B g i n (nI q) (gs + j)) (g + 9) = q := by rw [mPl, gh_4]; exact nI_clamp (by omega)
    have hpq := (ih.ints w1.2.1).2.2.2.1
    rw [h4] at hpq
    rw [ghRun, show gs + (j + 1) = (gs + j) + 1 by omega, mGh]
    generalize ghRun A h (h + 87 + 7 * q) gs j = C at *
    generalize mGh B g i n (nI q) (gs + j) = M at *
    have st := tm_step (r := h + 9 + 1) (g := g) (s := gs + j) (h := h) ih (w1.keep (fun b x w => ka _ _ (by omega)) (fun b x w => kb _ _ (by omega))) (w3.keep (fun b x w => kb _ _ (by omega))) (w4.keep (fun x => kb _ _ (by omega))) (by omega) (fun y hy => (p4 y hy).keep (fun b x z1 z2 => ka _ _ (by omega)) (fun b x z1 z2 => kb _ _ (by omega))) (by omega) (by omega) (by omega) (by omega)
    rw [hpq] at st
    exact st.keep (fun b x z1 z2 => up2_a (by omega)) (fun b x _ => rfl)
theorem ghost_at {i q : Nat} (H : RelA S V N I I' h g n c s e np k z) (hi : i < c) (hq : q < np) : (∀ B : Mem, (∀ b j, ¬ (g + 9 ≤ b ∧ b ≤ g + 18) → B b j = I' b j) → TmR (hGhost I h i q s) (mGh B g i n (nI q) s) (h + 77) (g + 9) n np s) ∧ hGhost I h i q s h 9 = nI i ∧ hGhost I h i q s h 10 = nI q ∧ hGhost I h i q s h 11 = nI s := by
  have hgh := H.mn
  have c6 := H.c6
  have n12 := H.n12
  have p8 : np ≤ 8 := H.2.2.2.2.2.1.2.2.1
  have s20 : s ≤ 2000 := H.2.2.1.1.2.2.2.1
  have hn0 : 0 < n := H.2.2.1.1.2.2.2.2.2.2.2 (by omega)
  unfold hGhost
  by_cases hca : I h 9 = nI i ∧ I h 10 = nI q
  · rw [if_pos hca]
    rcases H.2.2.2.2.2.2.2.2.2 with w | ⟨i', q', gs, a1, a2, a3, a4, a5, a6, a7⟩
    · rw [hca.1] at w
      exact absurd w (fun y => nI_m1 (by omega) y)
    · obtain rfl : i' = i := (nI_eq (by omega) (by omega)).mp (a4.symm.trans hca.1)
      obtain rfl : q' = q := (nI_eq (by omega) (by omega)).mp (a5.symm.trans hca.2)
      have egs : ghS I h = gs := by rw [ghS, a6]; exact nI_clamp (by omega)
      rw [egs]
      refine ⟨fun B hB => ?_, ?_, ?_, ?_⟩
      · have := gh_steps H hB hq (fun _ _ _ => rfl) (a7 B hB) (s - gs) (by omega)
        rw [show gs + (s - gs) = s by omega] at this
        exact this
      · rw [gh_kp _ _ _ _ _ _ _ (by unfold PG; omega)]; exact a4
      · rw [gh_kp _ _ _ _ _ _ _ (by unfold PG; omega)]; exact a5
      · rw [gh_at a6, show gs + (s - gs) = s by omega]
  · rw [if_neg hca]
    obtain ⟨i1, i2, i3, i4, i5, i6, i7, i8, hTR⟩ := (H.tm hi).ints n12
    obtain ⟨m, m0, t1, t2, t3, t4, t5, t6⟩ := H.tm hi
    obtain ⟨st, st1, st2⟩ := t5.2
    obtain ⟨g1, g2, g3, g4, -⟩ := t6
    have f4 : I (tm h i) 4 = nI (mOw I' (mt g i)) := hTR.2.1.1.trans g3
    have f6 : I (tm h i) 6 = nI st := hTR.2.1.2.2.1.trans st2
    have f5 : I (tm h i) 5 = I' (mt g i) 14 := hTR.2.1.2.1
    have mi := mt_e g i
    have hbg : ∀ b j, b < h + 77 ∨ h + 86 < b → ¬ (b = h ∧ 9 ≤ j) → ghBeg I h i q (tMm I (tm h i)) b j = I b j := fun b j w1 w2 => by
      rw [ghBeg, up2_f (by omega), up2_f (by omega), up2_f (by omega), tBegin_o (by omega)]
      unfold fillTo
      rw [if_neg (by omega), if_neg (by omega), up2_f (by omega), dBegin, dBeg_a (by omega), up2_f (by omega), up2_f (by omega), up2_f (by omega)]
    have h9 : ghBeg I h i q (tMm I (tm h i)) h 9 = nI i := by rw [ghBeg, up2_k (by decide), up2_k (by decide), up2_same]
    have h10 : ghBeg I h i q (tMm I (tm h i)) h 10 = nI q := by rw [ghBeg, up2_k (by decide), up2_same]
    have h11 : ghBeg I h i q (tMm I (tm h i)) h 11 = nI 0 := by rw [ghBeg, up2_same]
    refine ⟨fun B hB => ?_, ?_, ?_, ?_⟩
    · have hb0 : TmR (ghBeg I h i q (tMm I (tm h i))) (mGh B g i n (nI q) 0) (h + 77) (g + 9) n np s := by
        rw [mGh, hB _ _ (by omega), hB _ _ (by omega), hB _ _ (by omega), hB _ _ (by omega), g1, g3, st2, ghBeg, i5, f4, f6, f5]
        exact (tm_begin g2 i8 g4 hq p8 st1 hn0).keep (fun b j w1 w2 => by rw [up2_f (by omega), up2_f (by omega), up2_f (by omega)]) (fun b j _ => rfl)
      have := gh_steps H hB hq (fun b j w => hbg b j (by omega) (by omega)) hb0 s (by omega)
      rw [Nat.zero_add] at this
      exact this
    · rw [gh_kp _ _ _ _ _ _ _ (by unfold PG; omega)]; exact h9
    · rw [gh_kp _ _ _ _ _ _ _ (by unfold PG; omega)]; exact h10
    · rw [gh_at h11, Nat.zero_add]
theorem do_replay (H : Rel S V N I I' h g n c s e np k z) (x y a : Int32) : (hReplay I h c np s n x y a).1 = (mReplay I' g c np n s x y a).1 ∧ Rel S V N (hReplay I h c np s n x y a).2 (mReplay I' g c np n s x y a).2 h g n c s e np k z := by
  obtain ⟨H, T1, T2, T3⟩ := H
  have c6 := H.c6
  have n12 := H.n12
  have hgh := H.mn
  have p8 : np ≤ 8 := H.2.2.2.2.2.1.2.2.1
  rw [hReplay, mReplay]
  rcases hx : ixI x c with _ | i
  · exact ⟨rfl, rel_trb H T2 (by decide)⟩
  · obtain ⟨hi, rfl⟩ := ixI_some (by omega) hx
    rcases hy : ixI y np with _ | q
    · exact ⟨rfl, rel_trb H T2 (by decide)⟩
    · obtain ⟨hq, rfl⟩ := ixI_some (by omega) hy
      simp only []
      by_cases hb : inB a 0 3 = true
      · rw [if_pos hb, if_pos hb]
        obtain ⟨hg1, hg2, hg3, hg4⟩ := ghost_at H hi hq
        have hT := hg1 I' (fun _ _ _ => rfl)
        have kc : ∀ b j, (b < h + 77 ∨ h + 86 < b) → ¬ (b = h ∧ 9 ≤ j) → hGhost I h i q s b j = I b j := fun b j w1 w2 => kp_hGhost I h i q s b j ⟨w1, w2⟩
        have km : ∀ b j, b < g + 9 ∨ g + 18 < b → mGh I' g i n (nI q) s b j = I' b j := fun b j w => kp_mGh s b j w
        refine ⟨?_, rel_trb (H.gh kc km (Or.inr ⟨i, q, s, hi, hq, Nat.le_refl _, hg2, hg3, hg4, fun B hB => hg1 B (fun b j w => (hB b j w).trans (km b j (by omega)))⟩)) ?_ (by decide)⟩
        · obtain ⟨i1, i2, i3, i4, i5, i6, i7, i8, hTR⟩ := hT.ints n12
          obtain ⟨-, -, ⟨-, ⟨w1, w2, w3, w4⟩, -⟩, -⟩ := H
          have hw := way_eq (w1.keep (fun b x w => kc _ _ (by omega) (by omega)) (fun b x w => km _ _ (by omega))) (w2.keep (fun b x w => kc _ _ (by omega) (by omega))) hTR.2.1.2.2.2.2.2.2.2.1 (mLn (mGh I' g i n (nI q) s) (g + 9)) (i6 ▸ i1.2.2.2.1)
          have hc := (hTR.2.2.2.1 n (by omega)).1
          show hRepV _ h n a = mGhA _ g n a
          rw [hRepV, mGhA, i6, hw, hTR.2.2.1.1, hTR.2.1.2.2.2.2.1, hc]
        · rw [kc _ _ (by omega) (by omega), km _ _ (by omega)]; exact T2
      · rw [if_neg hb, if_neg hb]
        exact ⟨rfl, rel_trb H T2 (by decide)⟩
end DO11
