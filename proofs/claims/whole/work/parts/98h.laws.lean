/-! ===== phase 2: laws ===== -/
/-- what the reading of laws from n on leaves in the reference -/
abbrev LaFr (g n : Nat) (I I1 : Mem) : Prop := ∀ b j, (b ≠ g ∨ j < 25 ∨ 29 < j) → b ≠ g + 19 → ¬ (b = g + 27 ∧ 4 * n ≤ j) → I1 b j = I b j
section LF
variable {g n : Nat} {K : MJ}
theorem LaFr.tr {I I1 I2 : Mem} (h : LaFr g n I I1) (h2 : LaFr g n I1 I2) : LaFr g n I I2 := fun b j q1 q2 q3 => (h2 b j q1 q2 q3).trans (h b j q1 q2 q3)
theorem LaFr.nx : LaFr g n K.1 (nxt K g).1 := fun b j q1 _ _ => nxt_o q1
theorem LaFr.st {y : Int32} : LaFr g n K.1 (stp K g y).1 := fun b j q1 q2 _ => by
  show mStp K.1 g y b j = K.1 b j
  rw [mStp, up2_a q2, up2_a q2]
theorem LaFr.pt {m : Nat} {kd a b c : Int32} (h : n ≤ m) : LaFr g n K.1 (lPut K g m kd a b c).1 := fun x j _ _ q3 => by
  show up2 (up2 (up2 (up2 K.1 (g + 27) (4 * m) kd) (g + 27) (4 * m + 1) a) (g + 27) (4 * m + 2) b) (g + 27) (4 * m + 3) c x j = K.1 x j
  rw [up2_f (by omega), up2_f (by omega), up2_f (by omega), up2_f (by omega)]
theorem la_n {f : Int32 → MJ → Bool × MJ} {I0 : Mem} (h0 : LaFr g n I0 K.1) (hf : ∀ (x : Int32) (K1 : MJ), LaFr g n I0 K1.1 → LaFr g n I0 (f x K1).2.1) : LaFr g n I0 (rLn K g f).2.1 := by
  unfold rLn
  split
  · exact hf _ _ (h0.tr LaFr.nx)
  · exact h0.tr LaFr.st
theorem la_t {f : MJ → Bool × MJ} {I0 : Mem} {bs : List Int32} (h0 : LaFr g n I0 K.1) (hf : ∀ (K1 : MJ), LaFr g n I0 K1.1 → LaFr g n I0 (f K1).2.1) : LaFr g n I0 (rLt K g bs f).2.1 := by
  unfold rLt
  split
  · exact hf _ (h0.tr LaFr.nx)
  · exact h0.tr LaFr.st
theorem la_w {m : Nat} {I0 : Mem} (hm : n ≤ m) (h0 : LaFr g n I0 K.1) : LaFr g n I0 (rLw K g m).2.1 := by
  unfold rLw
  split
  · exact h0.tr LaFr.st
  · split
    · exact h0.tr LaFr.st
    · refine la_n (h0.tr LaFr.nx) (fun x K1 h1 => ?_)
      split
      · exact h1.tr (LaFr.pt hm)
      · split
        · unfold rLf
          exact la_t h1 (fun K2 h2 => la_n h2 (fun y K3 h3 => h3.tr (LaFr.pt hm)))
        · unfold rLr
          split
          · exact la_n (h1.tr LaFr.nx) (fun y K3 h3 => h3.tr (LaFr.pt hm))
          · split
            · exact la_n (h1.tr LaFr.nx) (fun y K3 h3 => la_t h3 (fun K4 h4 => la_n h4 (fun w K5 h5 => h5.tr (LaFr.pt hm))))
            · exact h1.tr LaFr.st
end LF
theorem la_s {g n : Nat} {I0 : Mem} : ∀ (f m : Nat) (K : MJ), n ≤ m → LaFr g n I0 K.1 → LaFr g n I0 (rLs K g m f).1.2.1
  | 0, m, K, _, h => h
  | f + 1, m, K, hm, h => by
    rw [rLs]
    have h1 := la_w hm h
    split
    · split
      · exact la_s f (m + 1) _ (by omega) (h1.tr LaFr.nx)
      · split
        · exact h1
        · exact h1.tr LaFr.st
    · exact h1
section DO7
variable {S : Nat → Option (Nat × Nat)} {V : Nat → Nat → Option Nat} {N : Nat} {I I' : Mem} {h g n c s e np k z : Nat}
theorem fail_o {I : Mem} {a b j : Nat} {x : Int32} (hb : b ≠ a) : tFail I a x b j = I b j := (up2_a hb).trans (up2_a hb)
theorem num_f {I : Mem} {a y i b j : Nat} (hb : b ≠ a) (h : ¬ (b = y ∧ j = i)) : (rdNum I a y i).2 b j = I b j := by
  unfold rdNum
  split
  · exact (adv_o hb).trans (up2_f h)
  · exact fail_o hb
theorem tail_f {I : Mem} {a y i b j : Nat} {bs : List Int32} (hb : b ≠ a) (h : ¬ (b = y ∧ j = i)) : (rdTail I a y i bs).2 b j = I b j := by
  unfold rdTail
  split
  · exact (num_f hb h).trans (adv_o hb)
  · exact fail_o hb
theorem law_f {I : Mem} {a w i b j : Nat} (hb : b ≠ a) (h : ¬ (w + 1 ≤ b ∧ b ≤ w + 4 ∧ j = i)) : (rdLaw I a w i).2 b j = I b j := by
  unfold rdLaw
  split
  · exact fail_o hb
  · split
    · exact fail_o hb
    · have h1 : (rdLawN I a w i).2 b j = I b j := (num_f hb (by omega)).trans ((adv_o hb).trans (by rw [up2_f (by omega), up2_f (by omega)]))
      split
      · split
        · exact (up2_f (by omega)).trans h1
        · split
          · unfold rdPosts
            split
            · have h2 : (rdNum (adv (up2 (rdLawN I a w i).2 (w + 1) i 1) a) a (w + 3) i).2 b j = I b j := (num_f hb (by omega)).trans ((adv_o hb).trans ((up2_f (by omega)).trans h1))
              split
              · exact (tail_f hb (by omega)).trans h2
              · exact h2
            · exact (tail_f hb (by omega)).trans ((up2_f (by omega)).trans h1)
          · unfold rdSecond
            exact (tail_f hb (by omega)).trans ((up2_f (by omega)).trans h1)
      · exact h1
theorem lsf_f {a w : Nat} : ∀ (f i : Nat) (I : Mem) (b j : Nat), b ≠ a → ¬ (w + 1 ≤ b ∧ b ≤ w + 4 ∧ i ≤ j) → ¬ (b = w ∧ j = 4 ∧ (rdLs I a w i f).1 = true) → (rdLs I a w i f).2 b j = I b j
  | 0, i, I, b, j, hb, h, h4 => fail_o hb
  | f + 1, i, I, b, j, hb, h, h4 => by
    rw [rdLs] at h4 ⊢
    have h1 : (rdLaw I a w i).2 b j = I b j := law_f hb (by omega)
    by_cases q1 : (rdLaw I a w i).1 = true
    · rw [if_pos q1] at h4 ⊢
      by_cases q2 : (rdLaw I a w i).2 a 4 = 0
      · rw [if_pos q2] at h4 ⊢
        exact (up2_f (fun q => h4 ⟨q.1, q.2, rfl⟩)).trans h1
      · rw [if_neg q2] at h4 ⊢
        by_cases q3 : (rdLaw I a w i).2 a 4 = 5
        · rw [if_pos q3] at h4 ⊢
          exact (lsf_f f (i + 1) _ b j hb (by omega) h4).trans ((adv_o hb).trans h1)
        · rw [if_neg q3]; exact (fail_o hb).trans h1
    · rw [if_neg q1]; exact h1
theorem do_laws (H : Rel S V N I I' h g n c s e np k z) (J : Nat → Nat → Int64) (x : Int32) : (hLaws I h z k x).1 = (mLaF (I', J) g z k x).1 ∧ ∃ k1 z1, Rel S V N (hLaws I h z k x).2 (mLaF (I', J) g z k x).2.1 h g n c s e np k1 z1 := by
  obtain ⟨H, T1, T2, T3⟩ := H
  have hgh := H.mn
  obtain ⟨p1, p2, p3, p4⟩ := H.2.2.2.2.2.1
  obtain ⟨l1, l2, l3, l4⟩ := H.2.2.2.2.2.2.1
  have hTp := H.2.2.2.2.2.2.2.1
  have z4 : z ≤ 400 := hTp.2.2.1
  rw [hLaws, mLaF]
  rcases hx : ixI x (z + 1) with _ | m
  · exact ⟨rfl, k, z, rel_trb H T2 (by decide)⟩
  · obtain ⟨hm, rfl⟩ := ixI_some (by omega) hx
    simp only []
    obtain ⟨o1, o2, o3, o4, o5⟩ := open_sim (K := (I', J)) (n := m) hTp (by omega)
    have kO : ∀ b j, ¬ (b = g ∧ (j = 3 ∨ (23 ≤ j ∧ j ≤ 29))) → (mOpn (I', J) g m).1 b j = I' b j := fun b j q => by
      rw [mOpn, nxt_o (by omega)]
      exact strt_o (by omega)
    have hL0 : ∀ j, j < k → LwE (tOpen I (h + 1) m) (mOpn (I', J) g m).1 (h + 4) g j := fun j hj => (l4 j hj).keep (fun b q1 q2 => open_o (by omega)) (fun b q1 q2 => kO _ _ (by omega))
    obtain ⟨r1, r2, r3⟩ := ls_sim (b := h + 4) (by omega) (11 - k) _ _ k (by omega) l3 o1 hL0
    rw [rdLaws, rLa]
    have kC : ∀ b j, b ≠ h + 1 → ¬ (h + 5 ≤ b ∧ b ≤ h + 8 ∧ k ≤ j) → ¬ (b = h + 4 ∧ j = 4 ∧ (rdLs (tOpen I (h + 1) m) (h + 1) (h + 4) k (11 - k)).1 = true) → (rdLs (tOpen I (h + 1) m) (h + 1) (h + 4) k (11 - k)).2 b j = I b j := fun b j q1 q2 q3 => (lsf_f (11 - k) k _ b j q1 (by omega) q3).trans (open_o q1)
    have k1 : (rdLs (tOpen I (h + 1) m) (h + 1) (h + 4) k (11 - k)).2 (h + 1) 1 = 0 := (ls_1 (by omega) _ _ _).trans o3
    have k7 : (rdLs (tOpen I (h + 1) m) (h + 1) (h + 4) k (11 - k)).1 = true → (rdLs (tOpen I (h + 1) m) (h + 1) (h + 4) k (11 - k)).2 (h + 1) 7 = 0 := fun q => (ls_7 (by omega) (by omega) _ _ _ q).trans o2
    have kF : LaFr g k (mOpn (I', J) g m).1 (rLs (mOpn (I', J) g m) g k (11 - k)).1.2.1 := la_s (11 - k) k _ (Nat.le_refl _) (fun _ _ _ _ _ => rfl)
    generalize rdLs (tOpen I (h + 1) m) (h + 1) (h + 4) k (11 - k) = C at *
    generalize rLs (mOpn (I', J) g m) g k (11 - k) = M at *
    have kM : ∀ b j, ¬ (b = g ∧ (j = 3 ∨ (23 ≤ j ∧ j ≤ 29))) → b ≠ g + 19 → ¬ (b = g + 27 ∧ 4 * k ≤ j) → M.1.2.1 b j = I' b j := fun b j q1 q2 q3 => (kF b j (by omega) q2 q3).trans (kO b j q1)
    have m3 : M.1.2.1 g 3 = 0 := (kF g 3 (by omega) (by omega) (by omega)).trans o4
    have m23 : M.1.2.1 g 23 = 0 := (kF g 23 (by omega) (by omega) (by omega)).trans o5
    have hT0 : TapeR C.2 M.1.2.1 h g 0 := ⟨k1, m23, by omega, fun j => by rw [kC _ _ (by omega) (by omega) (by omega), kM _ _ (by omega) (by omega) (by omega)]; exact hTp.2.2.2.1 j, fun j hj => by rw [kM _ _ (by omega) (by omega) (by omega)]; exact hTp.2.2.2.2 j hj⟩
    have hP0 : Plans C.2 M.1.2.1 h g np := ⟨(kC _ _ (by omega) (by omega) (by omega)).trans p1, (kM _ _ (by omega) (by omega) (by omega)).trans p2, p3, fun q hq => (p4 q hq).keep (fun b j q1 q2 => kC _ _ (by omega) (by omega) (by omega)) (fun b j q1 q2 => kM _ _ (by omega) (by omega) (by omega))⟩
    have hpl0 : ∀ q, q < np → M.1.2.1 (g + 21) q = I' (g + 21) q ∧ (∀ k, 12 * q ≤ k → k < 12 * q + 12 → M.1.2.1 (g + 22) k = I' (g + 22) k ∧ M.1.2.1 (g + 23) k = I' (g + 23) k) ∧ ∀ k, 48 * q ≤ k → k < 48 * q + 48 → M.1.2.1 (g + 24) k = I' (g + 24) k ∧ M.1.2.1 (g + 25) k = I' (g + 25) k ∧ M.1.2.1 (g + 26) k = I' (g + 26) k := fun q hq => ⟨kM _ _ (by omega) (by omega) (by omega), fun j q1 q2 => ⟨kM _ _ (by omega) (by omega) (by omega), kM _ _ (by omega) (by omega) (by omega)⟩, fun j q1 q2 => ⟨kM _ _ (by omega) (by omega) (by omega), kM _ _ (by omega) (by omega) (by omega), kM _ _ (by omega) (by omega) (by omega)⟩⟩
    rcases hb : C.1 with _ | _
    · rw [hb] at r1
      rw [if_neg (show ¬ (false = true) by decide), if_neg (by rw [← r1]; decide)]
      refine ⟨rfl, k, 0, rel_wr (K := M.1.2) (H.gen (Nat.le_refl _) hP0 ⟨(kC _ _ (by omega) (by omega) (by rw [hb]; simp)).trans l1, (kM _ _ (by omega) (by omega) (by omega)).trans l2, l3, fun j hj => (l4 j hj).keep (fun b q1 q2 => kC _ _ (by omega) (by omega) (by rw [hb]; simp)) (fun b q1 q2 => kM _ _ (by omega) (by omega) (by omega))⟩ hT0 (fun b j q => kC _ _ (by omega) (by omega) (by omega)) (fun b j q => kM _ _ (by omega) (by omega) (by omega)) hpl0) (r3 hb)⟩
    · rw [hb] at r1
      rw [if_pos rfl, if_pos r1.symm]
      have e7 := k7 hb
      obtain ⟨k', f1, f2, f3, f4⟩ := r2 hb
      rw [f3, f2]
      refine ⟨rfl, k', 0, rel_trb ?_ ?_ (by decide)⟩
      · have mU : ∀ b j, ¬ (b = g ∧ j = 38) → up2 M.1.2.1 g 38 (nI k') b j = M.1.2.1 b j := fun b j q => up2_f q
        refine H.gen (Nat.le_refl _) ⟨hP0.1, (mU _ _ (by omega)).trans hP0.2.1, p3, fun q hq => (hP0.2.2.2 q hq).keep (fun b j q1 q2 => rfl) (fun b j q1 q2 => mU _ _ (by omega))⟩ ⟨f2, up2_same _ _ _ _, f1, fun j hj => (f4 j hj).keep (fun b q1 q2 => rfl) (fun b q1 q2 => mU _ _ (by omega))⟩ ⟨hT0.1, (mU _ _ (by omega)).trans hT0.2.1, by omega, fun j => by rw [mU _ _ (by omega)]; exact hT0.2.2.2.1 j, fun j hj => by rw [mU _ _ (by omega)]; exact hT0.2.2.2.2 j hj⟩ (fun b j q => kC _ _ (by omega) (by omega) (by omega)) (fun b j q => (mU _ _ (by omega)).trans (kM _ _ (by omega) (by omega) (by omega))) (fun q hq => ?_)
        obtain ⟨y1, y2, y3⟩ := hpl0 q hq
        exact ⟨(mU _ _ (by omega)).trans y1, fun j q1 q2 => ⟨(mU _ _ (by omega)).trans (y2 j q1 q2).1, (mU _ _ (by omega)).trans (y2 j q1 q2).2⟩, fun j q1 q2 => ⟨(mU _ _ (by omega)).trans (y3 j q1 q2).1, (mU _ _ (by omega)).trans (y3 j q1 q2).2.1, (mU _ _ (by omega)).trans (y3 j q1 q2).2.2⟩⟩
      · rw [up2_f (by omega), e7, m3]
end DO7
