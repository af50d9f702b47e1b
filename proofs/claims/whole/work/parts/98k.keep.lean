/-! ===== phase 2: keep, back ===== -/
section DO8
variable {S : Nat → Option (Nat × Nat)} {V : Nat → Nat → Option Nat} {N : Nat} {I I' : Mem} {h g n c s e np k z : Nat}
theorem mKeep_f (c6 : c ≤ 6) : (∀ b j, ¬ (b = g ∧ 12 ≤ j ∧ j ≤ 15) → b ≠ g + 5 → b ≠ g + 6 → b ≠ g + 7 → (∀ i, i < 6 → b < kt g i ∨ kt g i + 9 < b) → mKeep I' g c b j = I' b j) ∧ (mKeep I' g c g 12 = I' g 4 ∧ mKeep I' g c g 13 = I' g 5 ∧ mKeep I' g c g 14 = I' g 6 ∧ mKeep I' g c g 15 = I' g 7) ∧ MR (mKeep I' g c) I' (g + 5) (g + 6) (g + 7) (g + 1) (g + 2) (g + 3) ∧ ∀ i, i < c → MC (mKeep I' g c) I' (kt g i) (mt g i) (mSg I' (mt g i)) (mG I' (mt g i)) := by
  have ko : ∀ b j, (∀ i, i < 6 → b < kt g i ∨ kt g i + 9 < b) → mKeep I' g c b j = mK2 I' g b j := fun b j q => mKT_a c (fun i hi => q i (by omega))
  have k2 : ∀ b j, ¬ (b = g ∧ 12 ≤ j ∧ j ≤ 15) → b ≠ g + 5 → b ≠ g + 6 → b ≠ g + 7 → mK2 I' g b j = I' b j := fun b j q1 q2 q3 q4 => by
    rw [mK2, cp1_a (by omega), mK1, cp2_a (by omega) (by omega), mK0, up2_f (by omega), up2_f (by omega), up2_f (by omega), up2_f (by omega)]
  have kg : ∀ b j, g ≤ b → b ≤ g + 27 → mKeep I' g c b j = mK2 I' g b j := fun b j q1 q2 => ko b j (fun i hi => by have := kt_e g i; omega)
  refine ⟨fun b j q1 q2 q3 q4 q5 => (ko b j q5).trans (k2 b j q1 q2 q3 q4), ⟨?_, ?_, ?_, ?_⟩, ⟨fun j hj => ⟨?_, ?_⟩, fun j hj => ?_⟩, fun i hi => ?_⟩
  · rw [kg _ _ (by omega) (by omega), mK2, cp1_a (by omega), mK1, cp2_a (by omega) (by omega), mK0, up2_k (by decide), up2_k (by decide), up2_k (by decide), up2_same]
  · rw [kg _ _ (by omega) (by omega), mK2, cp1_a (by omega), mK1, cp2_a (by omega) (by omega), mK0, up2_k (by decide), up2_k (by decide), up2_same]
  · rw [kg _ _ (by omega) (by omega), mK2, cp1_a (by omega), mK1, cp2_a (by omega) (by omega), mK0, up2_k (by decide), up2_same]
  · rw [kg _ _ (by omega) (by omega), mK2, cp1_a (by omega), mK1, cp2_a (by omega) (by omega), mK0, up2_same]
  · rw [kg _ _ (by omega) (by omega), mK2, cp1_a (by omega), mK1, cp2, cp1_a (by omega), cp1_in hj, mK0, up2_f (by omega), up2_f (by omega), up2_f (by omega), up2_f (by omega)]
  · rw [kg _ _ (by omega) (by omega), mK2, cp1_a (by omega), mK1, cp2, cp1_in hj, cp1_a (by omega), mK0, up2_f (by omega), up2_f (by omega), up2_f (by omega), up2_f (by omega)]
  · rw [kg _ _ (by omega) (by omega), mK2, cp1_in hj, mK1, cp2_a (by omega) (by omega), mK0, up2_f (by omega), up2_f (by omega), up2_f (by omega), up2_f (by omega)]
  · have e1 := mt_e g i
    have hI : ∀ b j, mt g i ≤ b → b ≤ mt g i + 9 → mK2 I' g b j = I' b j := fun b j q1 q2 => k2 b j (by omega) (by omega) (by omega) (by omega)
    have := mkt_mc (I := mK2 I' g) (g := g) c c6 i hi
    rw [mSg, hI _ _ (by omega) (by omega), mG, hI _ _ (by omega) (by omega)] at this
    exact this.c (fun b j _ _ => rfl) hI
theorem mBk_f (c6 : c ≤ 6) : (∀ b j, ¬ (b = g ∧ 4 ≤ j ∧ j ≤ 7) → b ≠ g + 1 → b ≠ g + 2 → b ≠ g + 3 → (∀ i, i < 6 → b < mt g i ∨ mt g i + 9 < b) → mBT (mB2 I' g) g c b j = I' b j) ∧ (mBT (mB2 I' g) g c g 4 = I' g 12 ∧ mBT (mB2 I' g) g c g 5 = I' g 13 ∧ mBT (mB2 I' g) g c g 6 = I' g 14 ∧ mBT (mB2 I' g) g c g 7 = I' g 15) ∧ MR (mBT (mB2 I' g) g c) I' (g + 1) (g + 2) (g + 3) (g + 5) (g + 6) (g + 7) ∧ ∀ i, i < c → MC (mBT (mB2 I' g) g c) I' (mt g i) (kt g i) (mSg I' (kt g i)) (mG I' (kt g i)) := by
  have ko : ∀ b j, (∀ i, i < 6 → b < mt g i ∨ mt g i + 9 < b) → mBT (mB2 I' g) g c b j = mB2 I' g b j := fun b j q => mBT_a c (fun i hi => q i (by omega))
  have k2 : ∀ b j, ¬ (b = g ∧ 4 ≤ j ∧ j ≤ 7) → b ≠ g + 1 → b ≠ g + 2 → b ≠ g + 3 → mB2 I' g b j = I' b j := fun b j q1 q2 q3 q4 => by
    rw [mB2, cp1_a (by omega), mB1, cp2_a (by omega) (by omega), mB0, up2_f (by omega), up2_f (by omega), up2_f (by omega), up2_f (by omega)]
  have kg : ∀ b j, g ≤ b → b ≤ g + 27 → mBT (mB2 I' g) g c b j = mB2 I' g b j := fun b j q1 q2 => ko b j (fun i hi => by have := mt_e g i; omega)
  refine ⟨fun b j q1 q2 q3 q4 q5 => (ko b j q5).trans (k2 b j q1 q2 q3 q4), ⟨?_, ?_, ?_, ?_⟩, ⟨fun j hj => ⟨?_, ?_⟩, fun j hj => ?_⟩, fun i hi => ?_⟩
  · rw [kg _ _ (by omega) (by omega), mB2, cp1_a (by omega), mB1, cp2_a (by omega) (by omega), mB0, up2_k (by decide), up2_k (by decide), up2_k (by decide), up2_same]
  · rw [kg _ _ (by omega) (by omega), mB2, cp1_a (by omega), mB1, cp2_a (by omega) (by omega), mB0, up2_k (by decide), up2_k (by decide), up2_same]
  · rw [kg _ _ (by omega) (by omega), mB2, cp1_a (by omega), mB1, cp2_a (by omega) (by omega), mB0, up2_k (by decide), up2_same]
  · rw [kg _ _ (by omega) (by omega), mB2, cp1_a (by omega), mB1, cp2_a (by omega) (by omega), mB0, up2_same]
  · rw [kg _ _ (by omega) (by omega), mB2, cp1_a (by omega), mB1, cp2, cp1_a (by omega), cp1_in hj, mB0, up2_f (by omega), up2_f (by omega), up2_f (by omega), up2_f (by omega)]
  · rw [kg _ _ (by omega) (by omega), mB2, cp1_a (by omega), mB1, cp2, cp1_in hj, cp1_a (by omega), mB0, up2_f (by omega), up2_f (by omega), up2_f (by omega), up2_f (by omega)]
  · rw [kg _ _ (by omega) (by omega), mB2, cp1_in hj, mB1, cp2_a (by omega) (by omega), mB0, up2_f (by omega), up2_f (by omega), up2_f (by omega), up2_f (by omega)]
  · have e1 := kt_e g i
    have hI : ∀ b j, kt g i ≤ b → b ≤ kt g i + 9 → mB2 I' g b j = I' b j := fun b j q1 q2 => k2 b j (by omega) (by omega) (by omega) (by omega)
    have := mbt_mc (I := mB2 I' g) (g := g) c c6 i hi
    rw [mSg, hI _ _ (by omega) (by omega), mG, hI _ _ (by omega) (by omega)] at this
    exact this.c (fun b j _ _ => rfl) hI
end DO8
section DO9
variable {S : Nat → Option (Nat × Nat)} {V : Nat → Nat → Option Nat} {N : Nat} {I I' : Mem} {h g n c s e np k z : Nat}
theorem keep_core {S1 : Nat → Option (Nat × Nat)} {V1 : Nat → Nat → Option Nat} {N1 K : Nat} {A : Mem} (H : RelA S V N I I' h g n c s e np k z) (hS1 : Shp S1 V1 N1 h g) (hrow : ∀ i, i < 6 → rwA V1 h i = rwA V h i ∧ rwL S1 V1 h i = rwL S V h i) (hK : V1 h 6 = some K ∧ g + 148 ≤ K ∧ K + 66 < N1 ∧ RaceSh S1 V1 K ∧ ∀ i, i < 6 → rwA V1 h i < K ∨ K + 66 < rwA V1 h i) (hA : ∀ b j, b < N → b < K ∨ K + 66 < b → A b j = I b j) (hRC : RC A I K (h + 9) c) : RelA S1 V1 N1 A (mKeep I' g c) h g n c s e np k z := by
  have c6 := H.c6
  have hgh := H.mn
  obtain ⟨f1, ⟨f2, f3, f4, f5⟩, f6, f7⟩ := mKeep_f (I' := I') (g := g) c6
  have HH := H
  obtain ⟨hS, ⟨n1, n2, n3, n4, n5⟩, hN, hSg, hTi, ⟨p1, p2, p3, p4⟩, ⟨l1, l2, l3, l4⟩, ⟨t1, t2, t3, t4, t5⟩, -, hG⟩ := H
  have hgN : g + 148 ≤ N := hS.2.2.2.2.1
  obtain ⟨k1, k2, k3, k4, k5⟩ := hK
  have fm : ∀ b j, ¬ (b = g ∧ 12 ≤ j ∧ j ≤ 15) → (b ≤ g + 4 ∨ (g + 8 ≤ b ∧ b ≤ g + 27)) → mKeep I' g c b j = I' b j := fun b j q1 q2 => f1 b j q1 (by omega) (by omega) (by omega) (fun i hi => by have := kt_e g i; omega)
  have ft : ∀ i b j, i < 6 → mt g i ≤ b → b ≤ mt g i + 9 → mKeep I' g c b j = I' b j := fun i b j hi q1 q2 => by
    have := mt_e g i
    exact f1 b j (by omega) (by omega) (by omega) (by omega) (fun a ha => by have := kt_e g a; omega)
  have fc : ∀ b j, b < g → A b j = I b j := fun b j q => hA b j (by omega) (by omega)
  have fr : ∀ i j, i < 6 → A (rwA V h i) j = I (rwA V h i) j := fun i j hi => by
    have h1 := (hS.2.2.2.2.2.1 i hi).2.2
    have h2 := k5 i hi
    rw [(hrow i hi).1] at h2
    exact hA _ _ h1 h2
  refine ⟨hS1, ⟨(fm _ _ (by omega) (by omega)).trans n1, (fm _ _ (by omega) (by omega)).trans n2, (fm _ _ (by omega) (by omega)).trans n3, (fm _ _ (by omega) (by omega)).trans n4, (fm _ _ (by omega) (by omega)).trans n5⟩, hN.keep (fun b j q1 q2 => fc _ _ (by omega)) (fun b j q => fm _ _ (by omega) (by omega)) (fun i b j hi q => ft i b j (by omega) (by omega) (by omega)), ⟨fun q i hi => by rw [(hrow i (by omega)).2]; exact hSg.1 q i hi, fun i hi => ?_⟩, fun i hi => (hTi i hi).kp (fun b j q1 q2 => ft i b j (by omega) q1 (by omega)), ⟨(fc _ _ (by omega)).trans p1, (fm _ _ (by omega) (by omega)).trans p2, p3, fun q hq => (p4 q hq).keep (fun b j q1 q2 => fc _ _ (by omega)) (fun b j q1 q2 => fm _ _ (by omega) (by omega))⟩, ⟨(fc _ _ (by omega)).trans l1, (fm _ _ (by omega) (by omega)).trans l2, l3, fun j hj => (l4 j hj).keep (fun b q1 q2 => fc _ _ (by omega)) (fun b q1 q2 => fm _ _ (by omega) (by omega))⟩, ⟨(fc _ _ (by omega)).trans t1, (fm _ _ (by omega) (by omega)).trans t2, t3, fun j => by rw [fc _ _ (by omega), fm _ _ (by omega) (by omega)]; exact t4 j, fun j hj => by rw [fm _ _ (by omega) (by omega)]; exact t5 j hj⟩, Or.inr ⟨K, n, c, s, e, ⟨k1, k2, k3, k4, k5⟩, hN.copy hRC f6 f7, ⟨f2.trans n2, f3.trans n3, f4.trans n4, f5.trans n5⟩, Nat.le_refl _, fun q => ⟨rfl, fun i hi => by rw [(hrow i (by omega)).2]; exact hSg.1 q i hi⟩, fun i hi => ?_, fun i hi => (hTi i hi).copy (f7 i hi)⟩, hG.keep p3 (fun q hq => (p4 q hq).2.1) (fun j q => fc _ _ (by omega)) (fun b j q1 q2 => fc _ _ (by omega)) (GhK.all fun b j q => ?_) (fun _ => rfl) (Nat.le_refl _)⟩
  · rw [(hrow i (by omega)).1]
    exact (hSg.2 i hi).kp (fun j => fr i j (by omega)) (fun b j q => ft i b j (by omega) (by omega) (by omega))
  · rw [(hrow i (by omega)).1]
    exact (hSg.2 i hi).copy hN.1.2.2.2.1 hN.1.2.2.2.2.2.1 hN.1.2.2.2.2.2.2.1 (fun j => fr i j (by omega)) (f7 i hi)
  · rcases q with q | ⟨i, hi, q1, q2⟩
    · exact fm _ _ (by omega) (by omega)
    · exact ft i _ _ (by omega) (by omega) (by omega)
theorem do_keep1 {K : Nat} (H : Rel S V N I I' h g n c s e np k z) (hV : V h 6 = some K) : Rel S V N (rCopy I K (h + 9) c) (mKeep I' g c) h g n c s e np k z := by
  obtain ⟨H, T1, T2, T3⟩ := H
  have c6 := H.c6
  have hgh := H.mn
  have hgN : g + 148 ≤ N := H.1.2.2.2.2.1
  have hKp := H.2.2.2.2.2.2.2.2.1
  rcases hKp with ⟨q, -⟩ | ⟨K', n', c', s', e', hK⟩
  · rw [hV] at q; cases q
  · have hKK : K' = K := Option.some.inj (hK.1.1.symm.trans hV)
    subst hKK
    have k2 : g + 148 ≤ K' := hK.1.2.1
    refine ⟨keep_core H H.1 (fun i _ => ⟨rfl, rfl⟩) hK.1 (fun b j _ q => rCopy_o c6 q) (rc_copy (by omega) c6), ?_, ?_, ?_⟩
    · rw [rCopy_o c6 (by omega), (mKeep_f c6).1 _ _ (by omega) (by omega) (by omega) (by omega) (fun i hi => by have := kt_e g i; omega)]; exact T1
    · rw [rCopy_o c6 (by omega), (mKeep_f c6).1 _ _ (by omega) (by omega) (by omega) (by omega) (fun i hi => by have := kt_e g i; omega)]; exact T2
    · rw [rCopy_o c6 (by omega), rCopy_o c6 (by omega), (mKeep_f c6).1 _ _ (by omega) (by omega) (by omega) (by omega) (fun i hi => by have := kt_e g i; omega)]; exact T3
theorem do_back0 (H : Rel S V N I I' h g n c s e np k z) (hV : V h 6 = none) (c0 : Nat) : mBack I' g c0 = (0, mTrb I' g 1) ∧ Rel S V N (up2 I h 8 1) (mTrb I' g 1) h g n c s e np k z := by
  obtain ⟨H, T1, T2, T3⟩ := H
  have hKp := H.2.2.2.2.2.2.2.2.1
  rcases hKp with ⟨-, q⟩ | ⟨K', n', c', s', e', hK⟩
  · exact ⟨by rw [mBack, if_pos q], rel_trb H T2 (by decide)⟩
  · have := hK.1.1
    rw [hV] at this; cases this
theorem do_back1 {K : Nat} (H : Rel S V N I I' h g n c s e np k z) (hV : V h 6 = some K) : ∃ n1 c1 s1 e1, (I K 2 = nI c1 ∧ c1 ≤ 6 ∧ I' g 13 = nI c1 ∧ ¬ I' g 12 = -1 ∧ RaceSh S V K ∧ h + 162 ≤ K ∧ (∀ i, i < c1 → (I' (kt g i) 11 = nI (mSg I' (kt g i)) ∧ mSg I' (kt g i) ≤ 2000) ∧ I' (kt g i) 12 = nI (mG I' (kt g i)) ∧ mG I' (kt g i) ≤ 4)) ∧ Rel S V N (hBack I h K c1) (mTrb (mBT (mB2 I' g) g c1) g 0) h g n1 c1 s1 e1 np k z := by
  obtain ⟨H, T1, T2, T3⟩ := H
  have hgh := H.mn
  have hKp := H.2.2.2.2.2.2.2.2.1
  rcases hKp with ⟨q, -⟩ | ⟨K', n', c', s', e', hK⟩
  · rw [hV] at q; cases q
  · have hKK : K' = K := Option.some.inj (hK.1.1.symm.trans hV)
    subst hKK
    obtain ⟨⟨k1, k2, k3, k4, k5⟩, hR, ⟨b1, b2, b3, b4⟩, hs, hse, hsg, hti⟩ := hK
    have c6 : c' ≤ 6 := hR.1.2.1
    have n12 : n' ≤ 12 := hR.2.1.1.2.1
    have s2000 : s' ≤ 2000 := hR.1.2.2.2.1
    refine ⟨n', c', s', e', ⟨hR.1.1, c6, b2, by rw [b1]; exact fun q => nI_m1 (by omega) q, k4, by omega, fun i hi => ?_⟩, ?_⟩
    · obtain ⟨m, m0, t1, t2, t3, t4, t5, t6⟩ := hR.2.2 i hi
      obtain ⟨g1, g2, g3, g4, g5, g6, g7, g8, g9, g10, g11⟩ := t6
      exact ⟨⟨g9, by omega⟩, g7, g8⟩
    · have HH := H
      obtain ⟨hS, ⟨n1, n2, n3, n4, n5⟩, hN, hSg, hTi, ⟨p1, p2, p3, p4⟩, ⟨l1, l2, l3, l4⟩, ⟨t1, t2, t3, t4, t5⟩, -, hG⟩ := H
      have hgN : g + 148 ≤ N := hS.2.2.2.2.1
      obtain ⟨f1, ⟨f2, f3, f4, f5⟩, f6, f7⟩ := mBk_f (I' := I') (g := g) c6
      have fm : ∀ b j, ¬ (b = g ∧ 4 ≤ j ∧ j ≤ 7) → (b ≤ g ∨ (g + 4 ≤ b ∧ b ≤ g + 27)) → mBT (mB2 I' g) g c' b j = I' b j := fun b j q1 q2 => f1 b j q1 (by omega) (by omega) (by omega) (fun i hi => by have := mt_e g i; omega)
      have ft : ∀ i b j, i < 6 → kt g i ≤ b → b ≤ kt g i + 9 → mBT (mB2 I' g) g c' b j = I' b j := fun i b j hi q1 q2 => by
        have := kt_e g i
        exact f1 b j (by omega) (by omega) (by omega) (by omega) (fun a ha => by have := mt_e g a; omega)
      have hRC : RC (rCopy I (h + 9) K' c') I (h + 9) K' c' := rc_copy (by omega) c6
      have fc : ∀ b j, b < h + 9 ∨ h + 75 < b → rCopy I (h + 9) K' c' b j = I b j := fun b j q => rCopy_o c6 (by omega)
      unfold hBack
      refine rel_trb ?_ ?_ (by decide)
      · generalize mBT (mB2 I' g) g c' = A' at *
        have cU : ∀ b j, ¬ (b = h ∧ j = 9) → up2 (rCopy I (h + 9) K' c') h 9 (-1) b j = rCopy I (h + 9) K' c' b j := fun b j q => up2_f q
        have c9 : up2 (rCopy I (h + 9) K' c') h 9 (-1) h 9 = -1 := up2_same _ _ _ _
        generalize rCopy I (h + 9) K' c' = A at *
        generalize up2 A h 9 (-1) = A1 at *
        have fd : ∀ b j, ¬ (b = h ∧ j = 9) → b < h + 9 ∨ h + 75 < b → A1 b j = I b j := fun b j q1 q2 => (cU b j q1).trans (fc b j q2)
        have hRc1 : Race A1 A' (h + 9) (g + 1) (g + 2) (g + 3) (mt g) n' c' s' e' np := (hR.copy hRC f6 f7).keep (fun b j q1 q2 => cU _ _ (by omega)) (fun b j _ => rfl) (fun i b j _ _ => rfl)
        refine ⟨hS, ⟨(fm _ _ (by omega) (by omega)).trans n1, f2.trans b1, f3.trans b2, f4.trans b3, f5.trans b4⟩, hRc1, ⟨fun q i hi => (hse q).2 i hi, fun i hi => ?_⟩, fun i hi => (hti i hi).copy (f7 i hi), ⟨(fd _ _ (by omega) (by omega)).trans p1, (fm _ _ (by omega) (by omega)).trans p2, p3, fun q hq => (p4 q hq).keep (fun b j q1 q2 => fd _ _ (by omega) (by omega)) (fun b j q1 q2 => fm _ _ (by omega) (by omega))⟩, ⟨(fd _ _ (by omega) (by omega)).trans l1, (fm _ _ (by omega) (by omega)).trans l2, l3, fun j hj => (l4 j hj).keep (fun b q1 q2 => fd _ _ (by omega) (by omega)) (fun b q1 q2 => fm _ _ (by omega) (by omega))⟩, ⟨(fd _ _ (by omega) (by omega)).trans t1, (fm _ _ (by omega) (by omega)).trans t2, t3, fun j => by rw [fd _ _ (by omega) (by omega), fm _ _ (by omega) (by omega)]; exact t4 j, fun j hj => by rw [fm _ _ (by omega) (by omega)]; exact t5 j hj⟩, Or.inr ⟨K', n', c', s', e', ⟨k1, k2, k3, k4, k5⟩, hR.keep (fun b j q1 q2 => fd _ _ (by omega) (by omega)) (fun b j q => fm _ _ (by omega) (by omega)) (fun i b j hi q => ft i b j (by omega) (by omega) (by omega)), ⟨(fm _ _ (by omega) (by omega)).trans b1, (fm _ _ (by omega) (by omega)).trans b2, (fm _ _ (by omega) (by omega)).trans b3, (fm _ _ (by omega) (by omega)).trans b4⟩, Nat.le_refl _, fun q => ⟨rfl, (hse q).2⟩, fun i hi => (hsg i hi).kp (fun j => ?_) (fun b j q => ft i b j (by omega) (by omega) (by omega)), fun i hi => (hti i hi).kp (fun b j q1 q2 => ft i b j (by omega) q1 (by omega))⟩, Or.inl c9⟩
        · refine (hsg i hi).copy hR.1.2.2.2.1 hR.1.2.2.2.2.2.1 hR.1.2.2.2.2.2.2.1 (fun j => ?_) (f7 i hi)
          have := rw_in hS (show i < 6 by omega)
          exact fd _ _ (by omega) (by omega)
        · have := rw_in hS (show i < 6 by omega)
          exact fd _ _ (by omega) (by omega)
      · rw [up2_f (by omega), fc _ _ (by omega), fm _ _ (by omega) (by omega)]; exact T2
end DO9
