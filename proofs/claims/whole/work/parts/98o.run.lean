/-! ===== phase 2: one step of both ===== -/
section RUN
variable {S : Nat → Option (Nat × Nat)} {V : Nat → Nat → Option Nat} {N : Nat} {I I' : Mem} {h g n c s e np k z : Nat}
/-- what the steps of the teams leave in the reference -/
def LdK (g : Nat) (I' M : Mem) : Prop := ∀ b k, (∀ i, i < 6 → b < mt g i ∨ mt g i + 5 < b ∨ (b = mt g i ∧ (k = 0 ∨ k = 3 ∨ k = 4 ∨ 11 ≤ k))) → M b k = I' b k
theorem run_lds {J : Nat → Nat → Int64} (H : RelA S V N I I' h g n c s e np k z) (hs : s < 2000) : ∀ j, j ≤ c → ∃ S1 V1 N1 I1 J1, osT h s e (S, I, V, J, N) j = (S1, I1, V1, J1, N1) ∧ RunI S V N I h g s e j S1 V1 N1 I1 ∧ LdK g I' (mLds I' g n s j) ∧ ∀ i, i < c → TmR I1 (mLds I' g n s j) (tm h i) (mt g i) n np s ∧ TimOK (mLds I' g n s j) (mt g i) n (if i < j then s + 1 else s)
  | 0, _ => by
    obtain ⟨hS, -, hN, hSg, hTi, -⟩ := H
    refine ⟨S, V, N, I, J, rfl, ⟨⟨Nat.le_refl _, fun _ _ => rfl, fun _ _ _ => rfl⟩, fun _ _ _ _ _ => rfl, fun i hi => ?_, hS.2.2.2.2.2.2⟩, fun _ _ _ => rfl, fun i hi => ⟨hN.2.2 i hi, by rw [if_neg (by omega)]; exact hTi i hi⟩⟩
    obtain ⟨r1, r2, r3⟩ := hS.2.2.2.2.2.1 i hi
    exact ⟨r1, Or.inl rfl, r3, Nat.le_refl _, fun _ _ => rfl, fun _ => ⟨rfl, fun _ => rfl⟩, fun q => absurd q (by omega)⟩
  | j + 1, hj => by
    have c6 := H.c6
    have hgh := H.mn
    have n12 := H.n12
    obtain ⟨S1, V1, N1, I1, J1, e1, hR, hL, hT⟩ := run_lds (J := J) H hs j (by omega)
    have HH := H
    obtain ⟨hS, ⟨n1, n2, n3, n4, n5⟩, ⟨⟨q1, q2, q3, q4, q5, q6, q7, q8⟩, ⟨w1, w2, w3, w4⟩, -⟩, hSg, hTi, ⟨p1, p2, p3, p4⟩, -⟩ := H
    have hgN : g + 148 ≤ N := hS.2.2.2.2.1
    have tj : tm h j = h + 9 + 7 + 10 * j := rfl
    have mj := mt_e g j
    have kI : ∀ b x, (h ≤ b ∧ b < h + 16) ∨ (h + 76 ≤ b ∧ b < h + 150) → I1 b x = I b x := fun b x w => hR.2.1 b x (by omega) (fun i hi => by have := rw_in hS hi; omega) (by omega)
    have kM : ∀ b x, b < g + 28 → mLds I' g n s j b x = I' b x := fun b x w => hL b x (fun i hi => by have := mt_e g i; omega)
    have st := tm_step (r := h + 9 + 1) (g := g) (s := s) (h := h) (hT j (by omega)).1 (w1.keep (fun b x w => kI _ _ (by omega)) (fun b x w => kM _ _ (by omega))) (w3.keep (fun b x w => kM _ _ (by omega))) (w4.keep (fun x => kM _ _ (by omega))) hs (fun y hy => (p4 y hy).keep (fun b x z1 z2 => kI _ _ (by omega)) (fun b x z1 z2 => kM _ _ (by omega))) (by omega) (by omega) (by omega) (by omega)
    have hmt : MtG (mLds I' g n s j) (mt g j) n np s := by
      obtain ⟨m, m0, t1, t2, t3, t4, t5, t6⟩ := (hT j (by omega)).1
      exact t6
    obtain ⟨l1, l2, l3⟩ := hmt.ln n12
    have hti := (hT j (by omega)).2
    rw [if_neg (by omega)] at hti
    have ti : TimOK (mLd (mLds I' g n s j) g (mt g j) n s) (mt g j) n (s + 1) := tim_lead hti l1 n12 (by omega) (fun w => (l3 w).1) hs
    have kS : ∀ b x, b < tm h j ∨ tm h j + 9 < b → tStp I1 (tm h j) (h + 9 + 1) (h + 87 + 7 * pq I1 (tm h j)) s b x = I1 b x := fun b x w => kp_stp (I := I1) (t := tm h j) (h + 9 + 1) (h + 87 + 7 * pq I1 (tm h j)) s b x (by unfold P0; omega)
    have hR2 := hR.stp hS (show j < 6 by omega) kS
    obtain ⟨S2, V2, N2, I2, J2, e2, hR3, hf⟩ := RunI.tell (J := J1) hS hR2 (show j < 6 by omega) q6 (fun w => hSg.1 w j (by omega))
    have kL : Kp (PM (mt g j)) (mLds I' g n s j) (mLds I' g n s (j + 1)) := kpm_lead
    refine ⟨S2, V2, N2, I2, J2, ?_, hR3, fun b x w => ?_, fun i hi => ?_⟩
    · rw [osT, e1]; exact e2
    · have := w j (by omega)
      exact (kL b x (by unfold PM; omega)).trans (hL b x w)
    · have mi := mt_e g i
      have tii : tm h i = h + 9 + 7 + 10 * i := rfl
      by_cases hij : i = j
      · subst hij
        rw [if_pos (by omega)]
        exact ⟨st.keep (fun b x z1 z2 => hf _ _ (by omega) (by omega)) (fun _ _ _ => rfl), ti⟩
      · have h1 : TmR I2 (mLds I' g n s (j + 1)) (tm h i) (mt g i) n np s := (hT i hi).1.keep (fun b x z1 z2 => (hf _ _ (by omega) (by omega)).trans (kS _ _ (by omega))) (fun b x w => kL _ _ (by unfold PM; omega))
        have h2 := (hT i hi).2
        refine ⟨h1, ?_⟩
        rw [show (if i < j + 1 then s + 1 else s) = (if i < j then s + 1 else s) by split <;> split <;> omega]
        exact h2.kp (fun b x z1 z2 => kL _ _ (by unfold PM; omega))
theorem tm_sgn {C X : Mem} {t u s' : Nat} (hT : TmR C X t u n np s') (hs : s' ≤ s) (hs2 : s < 2000) : TmR C (mSgn X g u s e) t u n np (s + 1) := by
  obtain ⟨m, m0, t1, t2, t3, t4, t5, t6⟩ := hT
  have hk := kpm_sgn (I := X) (g := g) (t := u) (u := s) (e := e)
  have k0 : ∀ b x, u ≤ b → b ≤ u + 5 → ¬ (b = u ∧ x = 11) → mSgn X g u s e b x = X b x := fun b x q1 q2 q3 => hk b x (Or.inr ⟨q2, q3⟩)
  have k8 : ∀ b x, u + 8 ≤ b → b ≤ u + 9 → mSgn X g u s e b x = X b x := fun b x q1 q2 => by
    unfold mSgn
    split
    · rw [up2_f (by omega), up2_f (by omega), up2_f (by omega)]
    · rfl
  obtain ⟨f, f1, f2⟩ := t4
  obtain ⟨st, st1, st2⟩ := t5.2
  refine ⟨m, m0, t1.keep (fun _ _ _ _ => rfl) (fun b x q => ?_), ?_, fun x hx => ?_, ⟨f, f1, (k0 _ _ (by omega) (by omega) (by omega)).trans f2⟩, ⟨t5.1.c (k0 _ _ (by omega) (by omega) (by omega)) (fun x _ => k0 _ _ (by omega) (by omega) (by omega)), st, st1, (k0 _ _ (by omega) (by omega) (by omega)).trans st2⟩, mtg_sgn t6 hs hs2⟩
  · rcases q with q | q | q
    · exact k0 _ _ (by omega) (by omega) (by omega)
    · exact k0 _ _ (by omega) (by omega) (by omega)
    · exact k8 _ _ (by omega) (by omega)
  · rw [k0 _ _ (by omega) (by omega) (by omega)]; exact t2
  · rw [k0 _ _ (by omega) (by omega) (by omega)]; exact t3 x hx
/-- the signs of a step -/
theorem run_sgs {S1 : Nat → Option (Nat × Nat)} {V1 : Nat → Nat → Option Nat} {N1 : Nat} {C M : Mem} (H : RelA S V N I I' h g n c s e np k z) (hs : s < 2000) (hR : RunI S V N I h g s e c S1 V1 N1 C) (hL : LdK g I' M) (hT : ∀ i, i < c → TmR C M (tm h i) (mt g i) n np s ∧ TimOK M (mt g i) n (s + 1)) : ∀ j, j ≤ c → ∀ i, i < c → TmR C (mSgs M g s e j) (tm h i) (mt g i) n np (s + 1) ∧ SgR C (mSgs M g s e j) (rwA V1 h i) (mt g i) e (if i < j then s + 1 else s) ∧ TimOK (mSgs M g s e j) (mt g i) n (s + 1)
  | 0, _, i, hi => by
    have c6 := H.c6
    obtain ⟨hS, -, ⟨⟨q1, q2, q3, q4, q5, q6, q7, q8⟩, -⟩, hSg, -⟩ := H
    have mi := mt_e g i
    rw [if_neg (by omega)]
    refine ⟨(hT i hi).1.more (Nat.le_refl _) (Nat.le_refl _) (by omega), ?_, (hT i hi).2⟩
    obtain ⟨r1, r2, r3, r4, r5, r6, r7⟩ := hR.2.2.1 i (by omega)
    refine (hSg.2 i hi).keep (fun x hx => ?_) (hL _ _ (fun a ha => by have := mt_e g a; omega)) (fun x _ => ⟨hL _ _ (fun a ha => by have := mt_e g a; omega), hL _ _ (fun a ha => by have := mt_e g a; omega)⟩)
    by_cases hm : s % e = 0
    · rw [pP_0 q6 hm] at hx
      exact r5 x hx
    · exact (r6 (Or.inr hm)).2 x
  | j + 1, hj, i, hi => by
    have c6 := H.c6
    have n12 := H.n12
    have hgh := H.mn
    have ih := run_sgs H hs hR hL hT j (by omega)
    obtain ⟨hS, -, ⟨⟨q1, q2, q3, q4, q5, q6, q7, q8⟩, ⟨w1, w2, w3, w4⟩, -⟩, hSg, -⟩ := H
    have hgN : g + 148 ≤ N := hS.2.2.2.2.1
    have mi := mt_e g i
    have mj := mt_e g j
    have hk := kpm_sgn (I := mSgs M g s e j) (g := g) (t := mt g j) (u := s) (e := e)
    by_cases hij : i = j
    · subst hij
      obtain ⟨t1, t2, t3⟩ := ih i hi
      rw [if_neg (by omega)] at t2
      rw [if_pos (by omega), mSgs]
      have kM : ∀ b x, b < g + 28 → mSgs M g s e i b x = I' b x := fun b x w => (kpm_sgs i b x (Or.inl (Or.inl w))).trans (hL b x (fun a ha => by have := mt_e g a; omega))
      have kI : ∀ b x, (h ≤ b ∧ b < h + 16) → C b x = I b x := fun b x w => hR.2.1 b x (by omega) (fun a ha => by have := rw_in hS ha; omega) (by omega)
      have hTs : TmR C (mSgs M g s e i) (tm h i) (mt g i) n np s := (hT i hi).1.keep (fun _ _ _ _ => rfl) (fun b x w => mSgs_sg (Nat.le_refl i) b x (by omega))
      refine ⟨tm_sgn hTs (Nat.le_refl _) hs, ?_, ⟨t3.1.c (Nat.le_refl _) (fun x hx => hk _ _ (Or.inr ⟨by omega, by omega⟩)) (fun x => hk _ _ (Or.inr ⟨by omega, by omega⟩)) (fun x => hk _ _ (Or.inr ⟨by omega, by omega⟩)), fun w => absurd w (by omega)⟩⟩
      · by_cases hm : s % e = 0
        · obtain ⟨r1, r2, r3, r4, r5, r6, r7⟩ := hR.2.2.1 i (by omega)
          exact sg_yes t2 q6 hm hTs (w1.keep (fun b x w => kI _ _ (by omega)) (fun b x w => kM _ _ (by omega))) (w2.keep (fun b x w => kI _ _ (by omega))) (w4.keep (fun x => kM _ _ (by omega))) (by omega) (fun _ _ => rfl) (r7 hi hm).2
        · have e1 : mSgn (mSgs M g s e i) g (mt g i) s e = mSgs M g s e i := by rw [mSgn, if_neg (fun w => hm w.1)]
          rw [e1]
          exact sg_no t2 q6 hm
    · have hk2 : ∀ b x, mt g i ≤ b → b ≤ mt g i + 9 → mSgs M g s e (j + 1) b x = mSgs M g s e j b x := fun b x z1 z2 => hk b x (Or.inl (by omega))
      obtain ⟨t1, t2, t3⟩ := ih i hi
      rw [show (if i < j + 1 then s + 1 else s) = (if i < j then s + 1 else s) by split <;> split <;> omega]
      exact ⟨t1.keep (fun _ _ _ _ => rfl) (fun b x w => hk2 _ _ (by omega) (by omega)), t2.kp (fun _ => rfl) (fun b x w => hk2 _ _ (by omega) (by omega)), t3.kp (fun b x z1 z2 => hk2 _ _ (by omega) (by omega))⟩
end RUN
section RUN2
variable {S : Nat → Option (Nat × Nat)} {V : Nat → Nat → Option Nat} {N : Nat} {I I' : Mem} {h g n c s e np k z : Nat}
abbrev RelW (w : Wd) (I' : Mem) (h g n c s e np k z : Nat) : Prop := RelA w.1 w.2.2.1 w.2.2.2.2 w.2.1 I' h g n c s e np k z
theorem one_sim {J : Nat → Nat → Int64} (H : RelA S V N I I' h g n c s e np k z) (hs : s < 2000) : RelW (osW h c s e (S, I, V, J, N)) (mStep I' g c e n s) h g n c (s + 1) e np k z ∧ (∀ b j, g ≤ b → b < g + 148 → (osW h c s e (S, I, V, J, N)).2.1 b j = I b j) ∧ (osW h c s e (S, I, V, J, N)).2.1 (h + 1) 7 = I (h + 1) 7 ∧ mStep I' g c e n s g 3 = I' g 3 ∧ N ≤ (osW h c s e (S, I, V, J, N)).2.2.2.2 := by
  have c6 := H.c6
  have n12 := H.n12
  have hgh := H.mn
  obtain ⟨S1, V1, N1, C, J1, e1, hR, hL, hT⟩ := run_lds (J := J) H hs c (Nat.le_refl _)
  have hT2 : ∀ i, i < c → TmR C (mLds I' g n s c) (tm h i) (mt g i) n np s ∧ TimOK (mLds I' g n s c) (mt g i) n (s + 1) := fun i hi => by
    have := hT i hi
    rw [if_pos hi] at this
    exact this
  have hG2 := run_sgs H hs hR hL hT2 c (Nat.le_refl _)
  have eW : osW h c s e (S, I, V, J, N) = (S1, up2 C (h + 9) 3 (nI (s + 1)), V1, J1, N1) := by rw [osW, e1]; rfl
  rw [eW, mStep]
  have kF : ∀ b x, (∀ i, i < 6 → b < mt g i ∨ mt g i + 9 < b ∨ (b = mt g i ∧ (x = 0 ∨ x = 3 ∨ x = 4 ∨ 12 ≤ x))) → mSgs (mLds I' g n s c) g s e c b x = I' b x := fun b x w => by
    refine (kpm_sgs c b x ?_).trans (hL b x (fun i hi => by have := w i hi; omega))
    rcases Classical.em (∃ i, i < c ∧ mt g i ≤ b ∧ b < mt g i + 20) with ⟨i, hi, y1, y2⟩ | w2
    · have := w i (by omega)
      exact Or.inr ⟨i, hi, y1, by omega, by omega⟩
    · refine Or.inl ?_
      rcases Nat.lt_or_ge b (g + 28) with y | y
      · exact Or.inl y
      · rcases Nat.lt_or_ge b (g + 28 + 20 * c) with y2 | y2
        · exfalso
          apply w2
          refine ⟨(b - g - 28) / 20, by omega, ?_, ?_⟩
          · have := mt_e g ((b - g - 28) / 20); omega
          · have := mt_e g ((b - g - 28) / 20); omega
        · exact Or.inr y2
  generalize hFe : mSgs (mLds I' g n s c) g s e c = F at *
  obtain ⟨⟨a0, a1, a1'⟩, a2, a3, a4⟩ := hR
  have HH := H
  obtain ⟨hS, ⟨n1, n2, n3, n4, n5⟩, ⟨⟨q1, q2, q3, q4, q5, q6, q7, q8⟩, ⟨w1, w2, w3, w4⟩, -⟩, hSg, -, ⟨p1, p2, p3, p4⟩, ⟨l1, l2, l3, l4⟩, ⟨t1, t2, t3, t4, t5⟩, hK, hG⟩ := H
  obtain ⟨s1, s2, s3, s4, s5, s6, s7⟩ := id hS
  have kI : ∀ b x, b < N → ¬ (b = h + 9 ∧ x = 3) → (∀ i, i < 6 → b ≠ rwA V h i) → (b < h + 16 ∨ h + 75 < b) → up2 C (h + 9) 3 (nI (s + 1)) b x = I b x := fun b x y1 y2 y3 y4 => (up2_f y2).trans (a2 b x y1 y3 y4)
  have kc : ∀ b x, (h ≤ b ∧ b < h + 16) ∨ (h + 76 ≤ b ∧ b < h + 150) → ¬ (b = h + 9 ∧ x = 3) → up2 C (h + 9) 3 (nI (s + 1)) b x = I b x := fun b x y1 y2 => kI b x (by omega) y2 (fun i hi => by have := rw_in hS hi; omega) (by omega)
  have kt' : ∀ b x, ¬ (b = h + 9 ∧ x = 3) → up2 C (h + 9) 3 (nI (s + 1)) b x = C b x := fun b x y => up2_f y
  have c3 : up2 C (h + 9) 3 (nI (s + 1)) (h + 9) 3 = nI (s + 1) := up2_same _ _ _ _
  have f6 : up2 F g 6 (nI (s + 1)) g 6 = nI (s + 1) := up2_same _ _ _ _
  have km : ∀ b x, ¬ (b = g ∧ x = 6) → b < g + 28 → up2 F g 6 (nI (s + 1)) b x = I' b x := fun b x y1 y2 => (up2_f y1).trans (kF b x (fun i hi => by have := mt_e g i; omega))
  have kk : ∀ i b x, i < 6 → kt g i ≤ b → b ≤ kt g i + 9 → up2 F g 6 (nI (s + 1)) b x = I' b x := fun i b x hi y1 y2 => by
    have := kt_e g i
    exact (up2_f (by omega)).trans (kF b x (fun a ha => by have := mt_e g a; omega))
  have kf : ∀ b x, b ≠ g → up2 F g 6 (nI (s + 1)) b x = F b x := fun b x y => up2_a y
  generalize up2 C (h + 9) 3 (nI (s + 1)) = C1 at *
  generalize up2 F g 6 (nI (s + 1)) = F1 at *
  refine ⟨?_, fun b j y1 y2 => kI b j (by omega) (by omega) (fun i hi => by have := rw_in hS hi; omega) (by omega), kc _ _ (by omega) (by omega), km _ _ (by omega) (by omega), a0⟩
  have hro : ∀ i, i < 6 → (h + 150 ≤ rwA V1 h i ∧ rwA V1 h i < g) ∨ g + 148 ≤ rwA V1 h i := fun i hi => RowI.out hS (a3 i hi) hi
  have hS1 : Shp S1 V1 N1 h g := by
    refine ⟨s1.ag (fun b y1 y2 => a1 b (by omega)) (fun b y1 y2 => a1' b (by omega) (fun i hi => by omega)), s2.ag (fun b y1 y2 => ⟨a1 b (by omega), a1' b (by omega) (fun i hi => by omega)⟩), s3.ag (fun b y1 y2 => ⟨a1 b (by omega), a1' b (by omega) (fun i hi => by omega)⟩), s4, by omega, fun i hi => ?_, a4⟩
    obtain ⟨r1, r2, r3, r4, r5, r6, r7⟩ := a3 i hi
    have := (s6 i hi).2.1
    exact ⟨r1, by omega, r3⟩
  show RelA S1 V1 N1 C1 F1 h g n c (s + 1) e np k z
  refine ⟨hS1, ⟨(km _ _ (by omega) (by omega)).trans n1, (km _ _ (by omega) (by omega)).trans n2, (km _ _ (by omega) (by omega)).trans n3, f6, (km _ _ (by omega) (by omega)).trans n5⟩, ⟨⟨(kc _ _ (by omega) (by omega)).trans q1, q2, c3, by omega, (kc _ _ (by omega) (by omega)).trans q5, q6, q7, q8⟩, ⟨w1.keep (fun b x y => kc _ _ (by omega) (by omega)) (fun b x y => km _ _ (by omega) (by omega)), w2.keep (fun b x y => kc _ _ (by omega) (by omega)), w3.keep (fun b x y => km _ _ (by omega) (by omega)), w4.keep (fun x => km _ _ (by omega) (by omega))⟩, fun i hi => (hG2 i hi).1.keep (fun b x y1 y2 => kt' _ _ (by have : tm h i = h + 9 + 7 + 10 * i := rfl; omega)) (fun b x y => kf _ _ (by have := mt_e g i; omega))⟩, ⟨fun _ i hi => ?_, fun i hi => ?_⟩, fun i hi => (hG2 i hi).2.2.kp (fun b x y1 y2 => kf _ _ (by have := mt_e g i; omega)), ⟨(kc _ _ (by omega) (by omega)).trans p1, (km _ _ (by omega) (by omega)).trans p2, p3, fun q hq => (p4 q hq).keep (fun b j y1 y2 => kc _ _ (by omega) (by omega)) (fun b j y1 y2 => km _ _ (by omega) (by omega))⟩, ⟨(kc _ _ (by omega) (by omega)).trans l1, (km _ _ (by omega) (by omega)).trans l2, l3, fun j hj => (l4 j hj).keep (fun b y1 y2 => kc _ _ (by omega) (by omega)) (fun b y1 y2 => km _ _ (by omega) (by omega))⟩, ⟨(kc _ _ (by omega) (by omega)).trans t1, (km _ _ (by omega) (by omega)).trans t2, t3, fun j => by rw [kc _ _ (by omega) (by omega), km _ _ (by omega) (by omega)]; exact t4 j, fun j hj => by rw [km _ _ (by omega) (by omega)]; exact t5 j hj⟩, ?_, ?_⟩
  · obtain ⟨r1, r2, r3, r4, r5, r6, r7⟩ := a3 i (by omega)
    by_cases hm : s % e = 0
    · exact (r7 hi hm).1
    · refine Nat.le_trans (hSg.1 ?_ i hi) r4
      rcases Nat.eq_zero_or_pos s with y | y
      · subst y; exact absurd (Nat.zero_mod e) hm
      · exact y
  · have := (hG2 i hi).2.1
    rw [if_pos hi] at this
    exact this.kp (fun x => kt' _ _ (by have := hro i (by omega); omega)) (fun b x y => kf _ _ (by have := mt_e g i; omega))
  · rcases hK with ⟨y1, y2⟩ | ⟨K, n', c', s', e', ⟨k1, k2, k3, k4, k5⟩, hRc, ⟨b1, b2, b3, b4⟩, hs', hse, hsg, hti⟩
    · exact Or.inl ⟨by rw [a1' h (by omega) (fun i hi => by omega)]; exact y1, (km _ _ (by omega) (by omega)).trans y2⟩
    · have c6' : c' ≤ 6 := hRc.1.2.1
      refine Or.inr ⟨K, n', c', s', e', ⟨by rw [a1' h (by omega) (fun i hi => by omega)]; exact k1, k2, by omega, k4.ag (fun b y1 y2 => ⟨a1 b (by omega), a1' b (by omega) (fun i hi => by omega)⟩), fun i hi => ?_⟩, hRc.keep (fun b x y1 y2 => kI b x (by omega) (by omega) (fun i hi => by have := k5 i hi; omega) (by omega)) (fun b x y => km _ _ (by omega) (by omega)) (fun i b x hi y => kk i b x (by omega) (by omega) (by omega)), ⟨(km _ _ (by omega) (by omega)).trans b1, (km _ _ (by omega) (by omega)).trans b2, (km _ _ (by omega) (by omega)).trans b3, (km _ _ (by omega) (by omega)).trans b4⟩, by omega, fun y => ⟨(hse y).1, fun i hi => Nat.le_trans ((hse y).2 i hi) (a3 i (by omega)).2.2.2.1⟩, fun i hi => ?_, fun i hi => (hti i hi).kp (fun b x y1 y2 => kk i b x (by omega) y1 (by omega))⟩
      · have h1 := k5 i hi
        have h2 := (a3 i hi).2.1
        omega
      · obtain ⟨r1, r2, r3, r4, r5, r6, r7⟩ := a3 i (by omega)
        refine (hsg i hi).keep (fun x hx => ?_) (kk i _ _ (by omega) (by omega) (by omega)) (fun x _ => ⟨kk i _ _ (by omega) (by omega) (by omega), kk i _ _ (by omega) (by omega) (by omega)⟩)
        rw [kt' _ _ (by have := hro i (by omega); omega)]
        by_cases hm : s % e = 0
        · rcases Nat.eq_zero_or_pos s' with y | y
          · subst y
            have he' : 0 < e' := hRc.1.2.2.2.2.2.1
            rw [pP_0 he' (Nat.zero_mod e'), Nat.zero_div] at hx
            exact absurd hx (by omega)
          · have hee := (hse y).1
            subst hee
            refine r5 x ?_
            have : pP e' s' ≤ pP e' s := by
              unfold pP
              exact Nat.div_le_div_right (by omega)
            rw [pP_0 q6 hm] at this
            omega
        · exact (r6 (Or.inr hm)).2 x
  · have hG1 := hG.keep (I1 := C1) (I1' := F1) (n1 := n) p3 (fun q hq => (p4 q hq).2.1) (fun j y => kc _ _ (by omega) (by omega)) (fun b j y1 y2 => kc _ _ (by omega) (by omega)) (GhK.all fun b j y => ?_) (fun _ => rfl) (Nat.le_refl _)
    · rcases hG1 with y | ⟨i, q, gs, b1, b2, b3, b4, b5, b6, b7⟩
      · exact Or.inl y
      · exact Or.inr ⟨i, q, gs, b1, b2, by omega, b4, b5, b6, fun B hB => (b7 B hB).more (Nat.le_refl _) (Nat.le_refl _) (by omega)⟩
    · rcases y with y | ⟨i, hi, y1, y2⟩
      · exact km _ _ (by omega) (by omega)
      · have := mt_e g i
        rw [kf _ _ (by omega)]
        exact kF b j (fun a ha => by have := mt_e g a; omega)
end RUN2
