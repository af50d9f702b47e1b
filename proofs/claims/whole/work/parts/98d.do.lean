/-! ===== phase 2: team ===== -/
section DO4
variable {S : Nat → Option (Nat × Nat)} {V : Nat → Nat → Option Nat} {N : Nat} {I I' : Mem} {h g n c s e np k z : Nat}
theorem do_team (H : Rel S V N I I' h g n c s e np k z) (d l m st p : Int32) : (hTeam I h c n np d l m st p).1 = (mTeam I' g c n np d l m st p).1 ∧ ∃ c1, Rel S V N (hTeam I h c n np d l m st p).2 (mTeam I' g c n np d l m st p).2 h g n c1 s e np k z := by
  obtain ⟨H, T1, T2, T3⟩ := H
  have hgh := H.mn
  have n12 := H.n12
  have c6 := H.c6
  have HH := H
  obtain ⟨hS, ⟨n1, n2, n3, n4, n5⟩, ⟨⟨q1, q2, q3, q4, q5, q6, q7, q8⟩, ⟨w1, w2, w3, w4⟩, hT⟩, hSg, hTi, hPl, hLw, hTp, hK, hG⟩ := H
  have p8 : np ≤ 8 := hPl.2.2.1
  rw [hTeam, mTeam, q3, n4]
  by_cases h0 : 0 < nI s ∨ n = 0
  · rw [if_pos h0, if_pos h0]
    exact ⟨rfl, c, rel_trb HH T2 (by decide)⟩
  · rw [if_neg h0, if_neg h0]
    have s0 : s = 0 := by
      rcases Nat.eq_zero_or_pos s with w | w
      · exact w
      · exact absurd (Or.inl ((nI_ltI (a := 0) (b := s) (by decide) (by omega)).mpr w)) h0
    have hn0 : 0 < n := by omega
    subst s0
    rcases hy : ixI p np with _ | q
    · exact ⟨rfl, c, rel_trb HH T2 (by decide)⟩
    · obtain ⟨hq, rfl⟩ := ixI_some (by omega) hy
      have hso : (some q).isSome = true := rfl
      rw [if_pos hso, if_pos hso]
      by_cases hb : inB d 4 16 = true ∧ inB l 20 300 = true ∧ inB m 0 60 = true ∧ inB st 0 100 = true
      · rw [if_pos hb, if_pos hb]
        by_cases hc : c < 6
        · rw [if_pos hc, if_pos hc]
          refine ⟨rfl, c + 1, ?_⟩
          obtain ⟨dd, d1, d2, rfl⟩ := inB_rng (a := 4) (b := 16) (by decide) (by decide) hb.1
          obtain ⟨ll, l1, l2, rfl⟩ := inB_rng (a := 20) (b := 300) (by decide) (by decide) hb.2.1
          obtain ⟨ss, s1, s2, rfl⟩ := inB_rng (a := 0) (b := 100) (by decide) (by decide) hb.2.2.2
          rw [nI_clamp (by omega)]
          have mi := mt_e g c
          have ti : tm h c = h + 9 + 7 + 10 * c := rfl
          have hTn : TmR (tBegin I (tm h c) dd (nI ll) m (nI ss) (nI q)) (mBegin I' (mt g c) (nI dd) (nI ll) m (nI ss) (nI q)) (tm h c) (mt g c) n np 0 := tm_begin d2 (by omega) l2 hq p8 s2 hn0
          have hTn2 : TimOK (mBegin I' (mt g c) (nI dd) (nI ll) m (nI ss) (nI q)) (mt g c) n 0 := tim_begin
          have h11 : mBegin I' (mt g c) (nI dd) (nI ll) m (nI ss) (nI q) (mt g c) 11 = 0 := by rw [mBegin_f]; exact (mPuts_f _ _ _ _ _ _ _).2.2.2.2.2.2.2.2.2.2.2.1
          have cI : ∀ b j, b < tm h c ∨ tm h c + 9 < b → tBegin I (tm h c) dd (nI ll) m (nI ss) (nI q) b j = I b j := fun b j w => by
            rw [tBegin_o (by omega)]
            unfold fillTo
            rw [if_neg (by omega), if_neg (by omega), up2_f (by omega), dBegin, dBeg_a (by omega), up2_f (by omega), up2_f (by omega), up2_f (by omega)]
          have mI : ∀ b j, b < mt g c ∨ mt g c + 9 < b → mBegin I' (mt g c) (nI dd) (nI ll) m (nI ss) (nI q) b j = I' b j := fun b j w => mBegin_a w
          generalize tBegin I (tm h c) dd (nI ll) m (nI ss) (nI q) = A at *
          generalize mBegin I' (mt g c) (nI dd) (nI ll) m (nI ss) (nI q) = B at *
          have c2 : up2 A (h + 9) 2 (nI (c + 1)) (h + 9) 2 = nI (c + 1) := up2_same _ _ _ _
          have m5 : up2 B g 5 (nI (c + 1)) g 5 = nI (c + 1) := up2_same _ _ _ _
          have cJ : ∀ b j, ¬ (b = h + 9 ∧ j = 2) → up2 A (h + 9) 2 (nI (c + 1)) b j = A b j := fun b j w => up2_f w
          have mJ : ∀ b j, ¬ (b = g ∧ j = 5) → up2 B g 5 (nI (c + 1)) b j = B b j := fun b j w => up2_f w
          generalize up2 A (h + 9) 2 (nI (c + 1)) = I1 at *
          generalize up2 B g 5 (nI (c + 1)) = I1' at *
          have cF : ∀ b j, ¬ (b = h + 9 ∧ j = 2) → b < tm h c ∨ tm h c + 9 < b → I1 b j = I b j := fun b j w1 w2 => (cJ b j w1).trans (cI b j w2)
          have mF : ∀ b j, ¬ (b = g ∧ j = 5) → b < mt g c ∨ mt g c + 9 < b → I1' b j = I' b j := fun b j w1 w2 => (mJ b j w1).trans (mI b j w2)
          refine rel_trb ?_ (by rw [cF _ _ (by omega) (by omega), mF _ _ (by omega) (by omega)]; exact T2) (by decide)
          refine HH.upd (n1 := n) (c1 := c + 1) (e1 := e) ⟨(mF _ _ (by omega) (by omega)).trans n1, (mF _ _ (by omega) (by omega)).trans n2, m5, (mF _ _ (by omega) (by omega)).trans n4, (mF _ _ (by omega) (by omega)).trans n5⟩ ⟨⟨c2, by omega, (cF _ _ (by omega) (by omega)).trans q3, q4, (cF _ _ (by omega) (by omega)).trans q5, q6, q7, fun _ => hn0⟩, ⟨w1.keep (fun b j w => cF _ _ (by omega) (by omega)) (fun b j w => mF _ _ (by omega) (by omega)), w2.keep (fun b j w => cF _ _ (by omega) (by omega)), w3.keep (fun b j w => mF _ _ (by omega) (by omega)), w4.keep (fun j => mF _ _ (by omega) (by omega))⟩, fun i hi => ?_⟩ ⟨fun w => absurd w (by omega), fun i hi => ?_⟩ (fun i hi => ?_) (fun b j w => cF _ _ (by omega) (by omega)) (fun b j w => mF _ _ (by omega) (by omega)) (fun i b j hi w1 w2 => mF _ _ (by have := kt_e g i; omega) (by have := kt_e g i; omega)) (fun i j hi w => mF _ _ (by have := mt_e g i; omega) (by have := mt_e g i; omega)) (fun w j => ⟨mF _ _ (by omega) (by omega), mF _ _ (by omega) (by omega)⟩) (fun j w => mF _ _ (by omega) (by omega)) (fun _ => rfl) (Nat.le_refl _) (by omega) (fun _ => rfl)
          · have mj := mt_e g i
            by_cases hic : i = c
            · subst hic
              exact hTn.keep (fun b j z1 z2 => cJ _ _ (by omega)) (fun b j w => mJ _ _ (by omega))
            · exact (hT i (by omega)).keep (fun b j z1 z2 => cF _ _ (by omega) (by omega)) (fun b j w => mF _ _ (by omega) (by omega))
          · have mj := mt_e g i
            by_cases hic : i = c
            · subst hic
              refine ⟨?_, fun j hj => ?_⟩
              · rw [pP_0 q6 (Nat.zero_mod e), Nat.zero_div, mJ _ _ (by omega), h11]; rfl
              · rw [pP_0 q6 (Nat.zero_mod e), Nat.zero_div] at hj; exact absurd hj (by omega)
            · exact (hSg.2 i (by omega)).kp (fun j => cF _ _ (by have := rw_in hS (show i < 6 by omega); omega) (by have := rw_in hS (show i < 6 by omega); omega)) (fun b j w => mF _ _ (by omega) (by omega))
          · have mj := mt_e g i
            by_cases hic : i = c
            · subst hic
              exact hTn2.kp (fun b j z1 z2 => mJ _ _ (by omega))
            · exact (hTi i (by omega)).kp (fun b j z1 z2 => mF _ _ (by omega) (by omega))
        · rw [if_neg hc, if_neg hc]
          exact ⟨rfl, c, rel_trb HH T2 (by decide)⟩
      · rw [if_neg hb, if_neg hb]
        exact ⟨rfl, c, rel_trb HH T2 (by decide)⟩
end DO4
