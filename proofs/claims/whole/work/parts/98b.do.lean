/-! ===== phase 2: cold, each ===== -/
section DO2
variable {S : Nat → Option (Nat × Nat)} {V : Nat → Nat → Option Nat} {N : Nat} {I I' : Mem} {h g n c s e np k z : Nat}
theorem do_cold (H : Rel S V N I I' h g n c s e np k z) (x y d : Int32) : (hCold I h s x y d).1 = (mCold I' g s x y d).1 ∧ Rel S V N (hCold I h s x y d).2 (mCold I' g s x y d).2 h g n c s e np k z := by
  obtain ⟨H, T1, T2, T3⟩ := H
  have hgh := H.mn
  have n12 := H.n12
  have c6 := H.c6
  have HH := H
  obtain ⟨hS, ⟨n1, n2, n3, n4, n5⟩, ⟨⟨q1, q2, q3, q4, q5, q6, q7, q8⟩, ⟨w1, w2, w3, w4⟩, hT⟩, hSg, hTi, hPl, hLw, hTp, hK, hG⟩ := H
  rw [hCold, mCold]
  by_cases hb : 0 ≤ x ∧ y < 334 ∧ x ≤ y ∧ inB d (-50) 20 = true
  · rw [if_pos hb, if_pos hb]
    refine ⟨rfl, ?_⟩
    obtain ⟨b1, b2, b3, b4⟩ := hb
    obtain ⟨xx, hxx, rfl⟩ := nI_of (x := x) (fun q => absurd b1 (Int32.not_le.mpr q))
    obtain ⟨yy, hyy, rfl⟩ := nI_of (x := y) (fun q => absurd (Int32.le_trans b1 b3) (Int32.not_le.mpr q))
    have e1 := (nI_leI hxx hyy).mp b3
    have e2 := (nI_ltI (b := 334) hyy (by decide)).mp b2
    rw [nI_clamp hxx, nI_clamp hyy]
    have hd : -50 ≤ d ∧ d ≤ 20 := by
      unfold inB at b4
      rw [Bool.and_eq_true] at b4
      exact ⟨of_decide_eq_true b4.1, of_decide_eq_true b4.2⟩
    generalize hlo : max xx ((s + 5) / 6) = lo
    generalize hhi : max lo (yy + 1) = hi
    have cI : ∀ b j, ¬ (b = h + 9 + 1 + 4) → coldTo I (h + 9 + 1) lo hi d b j = I b j := fun b j q => by
      unfold coldTo; rw [if_neg (by omega)]
    have mI : ∀ b j, ¬ (b = g + 3 ∧ s ≤ 6 * j) → mColdTo I' g s xx (yy + 1) d b j = I' b j := fun b j q => by
      unfold mColdTo; rw [if_neg (by omega)]
    have hco : ∀ j, j < 334 → coldTo I (h + 9 + 1) lo hi d (h + 9 + 1 + 4) j = mColdTo I' g s xx (yy + 1) d (g + 3) j := fun j hj => by
      unfold coldTo mColdTo
      by_cases hq : lo ≤ j ∧ j < hi
      · rw [if_pos ⟨rfl, hq⟩, if_pos ⟨rfl, by omega⟩]
      · rw [if_neg (fun q => hq q.2), if_neg (by omega)]
        exact w1.2.2.2 j hj
    have hcb : ∀ j, j < 334 → -50 ≤ mColdTo I' g s xx (yy + 1) d (g + 3) j ∧ mColdTo I' g s xx (yy + 1) d (g + 3) j ≤ 20 := fun j hj => by
      unfold mColdTo
      split
      · exact hd
      · exact w3.2 j hj
    refine rel_trb ?_ (by rw [cI _ _ (by omega), mI _ _ (by omega)]; exact T2) (by decide)
    generalize coldTo I (h + 9 + 1) lo hi d = I1 at *
    generalize mColdTo I' g s xx (yy + 1) d = I1' at *
    refine HH.upd (n1 := n) (c1 := c) (e1 := e) ⟨(mI _ _ (by omega)).trans n1, (mI _ _ (by omega)).trans n2, (mI _ _ (by omega)).trans n3, (mI _ _ (by omega)).trans n4, (mI _ _ (by omega)).trans n5⟩ ⟨⟨(cI _ _ (by omega)).trans q1, q2, (cI _ _ (by omega)).trans q3, q4, (cI _ _ (by omega)).trans q5, q6, q7, q8⟩, ⟨⟨(cI _ _ (by omega)).trans w1.1, w1.2.1, fun j hj => ?_, hco⟩, w2.keep (fun b j q => cI _ _ (by omega)), ⟨fun j hj => ?_, hcb⟩, w4.keep (fun j => mI _ _ (by omega))⟩, fun i hi => (hT i hi).keep (fun b j z1 z2 => cI _ _ (by omega)) (fun b j q => mI _ _ (by have := mt_e g i; omega))⟩ ⟨hSg.1, fun i hi => (hSg.2 i hi).kp (fun j => cI _ _ (by have := rw_in hS (show i < 6 by omega); omega)) (fun b j q => mI _ _ (by have := mt_e g i; omega))⟩ (fun i hi => (hTi i hi).kp (fun b j q1 q2 => mI _ _ (by have := mt_e g i; omega))) (fun b j q => cI _ _ (by omega)) (fun b j q => mI _ _ (by omega)) (fun i b j hi q1 q2 => mI _ _ (by have := kt_e g i; omega)) (fun i j hi q => mI _ _ (by have := mt_e g i; omega)) (fun q j => ⟨mI _ _ (by omega), mI _ _ (by omega)⟩) (fun j q => mI _ _ (by omega)) (fun _ => rfl) (Nat.le_refl _) (Nat.le_refl _) (fun _ => rfl)
    · rw [cI _ _ (by omega), cI _ _ (by omega), mI _ _ (by omega), mI _ _ (by omega)]; exact w1.2.2.1 j hj
    · rw [mI _ _ (by omega)]; exact w3.1 j hj
  · rw [if_neg hb, if_neg hb]
    exact ⟨rfl, rel_trb HH T2 (by decide)⟩
theorem do_each (H : Rel S V N I I' h g n c s e np k z) (x : Int32) : (hEach I h x).1 = (mEach I' g x).1 ∧ ∃ e1, Rel S V N (hEach I h x).2 (mEach I' g x).2 h g n c s e1 np k z := by
  obtain ⟨H, T1, T2, T3⟩ := H
  have hgh := H.mn
  have n12 := H.n12
  have c6 := H.c6
  have HH := H
  obtain ⟨hS, ⟨n1, n2, n3, n4, n5⟩, ⟨⟨q1, q2, q3, q4, q5, q6, q7, q8⟩, ⟨w1, w2, w3, w4⟩, hT⟩, hSg, hTi, hPl, hLw, hTp, hK, hG⟩ := H
  rw [hEach, mEach, q3, n4]
  by_cases h0 : nI s ≤ 0
  · rw [if_pos h0, if_pos h0]
    have s0 : s = 0 := by
      have := (nI_leI (a := s) (b := 0) (by omega) (by decide)).mp h0
      omega
    subst s0
    by_cases hb : inB x 1 48 = true
    · rw [if_pos hb, if_pos hb]
      obtain ⟨xx, x1, x2, rfl⟩ := inB_rng (a := 1) (b := 48) (by decide) (by decide) hb
      refine ⟨rfl, xx, ?_⟩
      have cI : ∀ b j, ¬ (b = h + 9 ∧ j = 4) → up2 I (h + 9) 4 (nI xx) b j = I b j := fun b j q => up2_f q
      have mI : ∀ b j, ¬ (b = g ∧ j = 7) → up2 I' g 7 (nI xx) b j = I' b j := fun b j q => up2_f q
      have c4 : up2 I (h + 9) 4 (nI xx) (h + 9) 4 = nI xx := up2_same _ _ _ _
      have m7 : up2 I' g 7 (nI xx) g 7 = nI xx := up2_same _ _ _ _
      refine rel_trb ?_ (by rw [cI _ _ (by omega), mI _ _ (by omega)]; exact T2) (by decide)
      generalize up2 I (h + 9) 4 (nI xx) = I1 at *
      generalize up2 I' g 7 (nI xx) = I1' at *
      refine HH.upd (n1 := n) (c1 := c) (e1 := xx) ⟨(mI _ _ (by omega)).trans n1, (mI _ _ (by omega)).trans n2, (mI _ _ (by omega)).trans n3, (mI _ _ (by omega)).trans n4, m7⟩ ⟨⟨(cI _ _ (by omega)).trans q1, q2, (cI _ _ (by omega)).trans q3, q4, c4, by omega, by omega, q8⟩, ⟨w1.keep (fun b j q => cI _ _ (by omega)) (fun b j q => mI _ _ (by omega)), w2.keep (fun b j q => cI _ _ (by omega)), w3.keep (fun b j q => mI _ _ (by omega)), w4.keep (fun j => mI _ _ (by omega))⟩, fun i hi => (hT i hi).keep (fun b j z1 z2 => cI _ _ (by omega)) (fun b j q => mI _ _ (by have := mt_e g i; omega))⟩ ⟨fun q => absurd q (by omega), fun i hi => ?_⟩ (fun i hi => (hTi i hi).kp (fun b j q1 q2 => mI _ _ (by have := mt_e g i; omega))) (fun b j q => cI _ _ (by omega)) (fun b j q => mI _ _ (by omega)) (fun i b j hi q1 q2 => mI _ _ (by have := kt_e g i; omega)) (fun i j hi q => mI _ _ (by have := mt_e g i; omega)) (fun q j => ⟨mI _ _ (by omega), mI _ _ (by omega)⟩) (fun j q => mI _ _ (by omega)) (fun _ => rfl) (Nat.le_refl _) (Nat.le_refl _) (fun q => absurd q (by omega))
      have h1 := (hSg.2 i hi).1
      rw [pP_0 q6 (Nat.zero_mod e), Nat.zero_div] at h1
      have p0 : pP xx 0 = 0 := by rw [pP_0 (by omega) (Nat.zero_mod xx), Nat.zero_div]
      refine ⟨?_, fun j hj => absurd hj (by omega)⟩
      rw [p0, mI _ _ (by have := mt_e g i; omega)]; exact h1
    · rw [if_neg hb, if_neg hb]
      exact ⟨rfl, e, rel_trb HH T2 (by decide)⟩
  · rw [if_neg h0, if_neg h0]
    exact ⟨rfl, e, rel_trb HH T2 (by decide)⟩
/-- one team of the race now is changed -/
theorem rel_one {I1 I1' : Mem} {i : Nat} (H : RelA S V N I I' h g n c s e np k z) (hi : i < c) (hT1 : TmR I1 I1' ((h + 9 + 7 + 10 * i)) (mt g i) n np s) (hc : ∀ b j, b < (h + 9 + 7 + 10 * i) ∨ (h + 9 + 7 + 10 * i) + 9 < b → I1 b j = I b j) (hm : ∀ b j, b < mt g i ∨ mt g i + 9 < b ∨ (b = mt g i ∧ (j = 0 ∨ j = 3 ∨ j = 5 ∨ j = 6 ∨ j = 7 ∨ j = 11 ∨ j = 13 ∨ j = 14)) ∨ (mt g i + 4 ≤ b ∧ b ≤ mt g i + 7) → I1' b j = I' b j) : RelA S V N I1 I1' h g n c s e np k z := by
  have hgh := H.mn
  have c6 := H.c6
  have mi := mt_e g i
  have HH := H
  obtain ⟨hS, ⟨n1, n2, n3, n4, n5⟩, ⟨⟨q1, q2, q3, q4, q5, q6, q7, q8⟩, ⟨w1, w2, w3, w4⟩, hT⟩, hSg, hTi, hPl, hLw, hTp, hK, hG⟩ := H
  refine HH.upd (n1 := n) (c1 := c) (e1 := e) ⟨(hm _ _ (by omega)).trans n1, (hm _ _ (by omega)).trans n2, (hm _ _ (by omega)).trans n3, (hm _ _ (by omega)).trans n4, (hm _ _ (by omega)).trans n5⟩ ⟨⟨(hc _ _ (by omega)).trans q1, q2, (hc _ _ (by omega)).trans q3, q4, (hc _ _ (by omega)).trans q5, q6, q7, q8⟩, ⟨w1.keep (fun b j q => hc _ _ (by omega)) (fun b j q => hm _ _ (by omega)), w2.keep (fun b j q => hc _ _ (by omega)), w3.keep (fun b j q => hm _ _ (by omega)), w4.keep (fun j => hm _ _ (by omega))⟩, fun a ha => ?_⟩ ⟨hSg.1, fun a ha => (hSg.2 a ha).kp (fun j => hc _ _ (by have := rw_in hS (show a < 6 by omega); omega)) (fun b j q => ?_)⟩ (fun a ha => ?_) (fun b j q => hc _ _ (by omega)) (fun b j q => hm _ _ (by omega)) (fun a b j ha q1 q2 => hm _ _ (by have := kt_e g a; omega)) (fun a j ha q => ?_) (fun q j => ⟨hm _ _ (by omega), hm _ _ (by omega)⟩) (fun j q => hm _ _ (by omega)) (fun _ => rfl) (Nat.le_refl _) (Nat.le_refl _) (fun _ => rfl)
  · by_cases hai : a = i
    · subst hai; exact hT1
    · exact (hT a ha).keep (fun b j z1 z2 => hc _ _ (by omega)) (fun b j q => hm _ _ (by have := mt_e g a; omega))
  · have := mt_e g a
    by_cases hai : a = i
    · subst hai; exact hm _ _ (by omega)
    · exact hm _ _ (by omega)
  · have := mt_e g a
    by_cases hai : a = i
    · subst hai
      exact ⟨(hTi a ha).1.c (Nat.le_refl _) (fun j q => hm _ _ (by omega)) (fun j => hm _ _ (by omega)) (fun j => hm _ _ (by omega)), fun q => by rw [hm _ _ (by omega)]; exact (hTi a ha).2 q⟩
    · exact (hTi a ha).kp (fun b j q1 q2 => hm _ _ (by omega))
  · have := mt_e g a
    by_cases hai : a = i
    · subst hai; exact hm _ _ (by omega)
    · exact hm _ _ (by omega)
end DO2
