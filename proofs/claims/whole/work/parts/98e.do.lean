/-! ===== phase 2: feed ===== -/
section DO5
variable {S : Nat → Option (Nat × Nat)} {V : Nat → Nat → Option Nat} {N : Nat} {I I' : Mem} {h g n c s e np k z : Nat}
theorem Race.plus {r a1 a2 a3 np1 : Nat} {tu : Nat → Nat} (H : Race I I' r a1 a2 a3 tu n c s e np) (hnp : np ≤ np1) : Race I I' r a1 a2 a3 tu n c s e np1 := ⟨H.1, H.2.1, fun i hi => (H.2.2 i hi).more (Nat.le_refl _) hnp (Nat.le_refl _)⟩
/-- plans, laws and the tape are changed, the races aren't -/
theorem RelA.gen {np1 k1 z1 : Nat} {I1 I1' : Mem} (H : RelA S V N I I' h g n c s e np k z) (hnp : np ≤ np1) (hP : Plans I1 I1' h g np1) (hL : Laws I1 I1' h g k1) (hTp : TapeR I1 I1' h g z1)
    (hc : ∀ b j, (b = h ∧ j ≠ 7 ∧ j ≠ 8) ∨ (h + 9 ≤ b ∧ b ≤ h + 86) ∨ (h + 150 ≤ b ∧ b < g) ∨ g + 148 ≤ b → I1 b j = I b j) (hm : ∀ b j, (b = g ∧ (j = 0 ∨ (4 ≤ j ∧ j ≤ 7) ∨ (12 ≤ j ∧ j ≤ 15))) ∨ (g + 1 ≤ b ∧ b ≤ g + 18) ∨ (g + 28 ≤ b ∧ b < g + 148) → I1' b j = I' b j)
    (hpl : ∀ q, q < np → I1' (g + 21) q = I' (g + 21) q ∧ (∀ k, 12 * q ≤ k → k < 12 * q + 12 → I1' (g + 22) k = I' (g + 22) k ∧ I1' (g + 23) k = I' (g + 23) k) ∧ ∀ k, 48 * q ≤ k → k < 48 * q + 48 → I1' (g + 24) k = I' (g + 24) k ∧ I1' (g + 25) k = I' (g + 25) k ∧ I1' (g + 26) k = I' (g + 26) k) : RelA S V N I1 I1' h g n c s e np1 k1 z1 := by
  obtain ⟨hS, ⟨n1, n2, n3, n4, n5⟩, hN, ⟨g1, g2⟩, hTi, ⟨p1, p2, p3, p4⟩, -, -, hK, hG⟩ := H
  have hgh : g = h + 162 := hS.2.2.2.1
  have c6 : c ≤ 6 := hN.1.2.1
  have mo : ∀ i b j, i < 6 → (mt g i ≤ b ∧ b ≤ mt g i + 9) ∨ (kt g i ≤ b ∧ b ≤ kt g i + 9) → I1' b j = I' b j := fun i b j hi z => by
    have e1 := mt_e g i
    have e2 := kt_e g i
    exact hm _ _ (by omega)
  refine ⟨hS, ⟨(hm _ _ (by omega)).trans n1, (hm _ _ (by omega)).trans n2, (hm _ _ (by omega)).trans n3, (hm _ _ (by omega)).trans n4, (hm _ _ (by omega)).trans n5⟩, (hN.plus hnp).keep (fun b j q1 q2 => hc _ _ (by omega)) (fun b j q => hm _ _ (by omega)) (fun i b j hi q => mo i b j (by omega) (by omega)), ⟨g1, fun i hi => (g2 i hi).kp (fun j => hc _ _ (by have := rw_in hS (show i < 6 by omega); omega)) (fun b j q => mo i b j (by omega) (by omega))⟩, fun i hi => (hTi i hi).kp (fun b j q1 q2 => mo i b j (by omega) (by omega)), hP, hL, hTp, ?_, ?_⟩
  · rcases hK with ⟨k1, k2⟩ | ⟨K, n', c', s', e', hK⟩
    · exact Or.inl ⟨k1, (hm _ _ (by omega)).trans k2⟩
    · have k2 : g + 148 ≤ K := hK.1.2.1
      have hK2 := hK.mem (I1 := I1) (I1' := I1') (s1 := s) (e1 := e) (fun b j q1 q2 => hc _ _ (by omega)) (fun i j hi _ => hc _ _ (by have := rw_in hS hi; omega)) (fun b j q => hm _ _ (by omega)) (fun i b j hi q1 q2 => mo i b j hi (by omega)) (Nat.le_refl _) (fun _ => rfl)
      exact Or.inr ⟨K, n', c', s', e', hK2.1, hK2.2.1.plus hnp, hK2.2.2⟩
  · have hG1 := hG.keep p3 (fun q hq => (p4 q hq).2.1) (fun j q => hc _ _ (by omega)) (fun b j q1 q2 => hc _ _ (by omega)) (I1' := I1') ⟨fun i j hi q => mo i _ _ (by omega) (by omega), fun _ j => ⟨hm _ _ (by omega), hm _ _ (by omega)⟩, fun j _ => hm _ _ (by omega), hpl⟩ (fun _ => rfl) (Nat.le_refl _)
    rcases hG1 with q | ⟨i, q, gs, a1, a2, a3, a4, a5, a6, a7⟩
    · exact Or.inl q
    · exact Or.inr ⟨i, q, gs, a1, by omega, a3, a4, a5, a6, fun B hB => (a7 B hB).more (Nat.le_refl _) hnp (Nat.le_refl _)⟩
theorem by_of (x : Int32) : ByOK x.toInt8.toInt32 := by
  unfold ByOK
  rw [Int8.toInt8_toInt32]
/-- what a put byte leaves -/
def PutC (h : Nat) (I I1 : Mem) : Prop := ∀ b j, ¬ (b = h + 1 ∧ j = 1) → b ≠ h + 2 → I1 b j = I b j
def PutM (g : Nat) (I I1 : Mem) : Prop := ∀ b j, ¬ (b = g ∧ j = 23) → b ≠ g + 20 → I1 b j = I b j
theorem put_sim {I0 I0' : Mem} {w : Nat} {x sh : Int32} (hT : TapeR I I' h g w ∧ PutC h I0 I ∧ PutM g I0' I') (hw : w + 1 ≤ 400) : TapeR (tPut1 I (h + 1) w x sh) (mPut1 I' g w x sh) h g (w + 1) ∧ PutC h I0 (tPut1 I (h + 1) w x sh) ∧ PutM g I0' (mPut1 I' g w x sh) := by
  obtain ⟨⟨t1, t2, t3, t4, t5⟩, hc, hm⟩ := hT
  refine ⟨⟨up2_same _ _ _ _, up2_same _ _ _ _, hw, fun j => ?_, fun j hj => ?_⟩, fun b j q1 q2 => ?_, fun b j q1 q2 => ?_⟩
  · have e1 : ∀ v : Int32, tPut1 I (h + 1) w x sh (h + 2) j = up2 I (h + 2) w (x >>> (sh &&& 31)).toInt8.toInt32 (h + 2) j := fun _ => by
      rw [tPut1, up2_f (show ¬ (h + 2 = h + 1 ∧ j = 1) by omega)]
    have e2 : mPut1 I' g w x sh (g + 20) j = up2 I' (g + 20) w (x >>> (sh &&& 31)).toInt8.toInt32 (g + 20) j := by
      rw [mPut1, up2_f (show ¬ (g + 20 = g ∧ j = 23) by omega)]
    rw [e1 0, e2]
    unfold up2
    by_cases hj : j = w
    · rw [if_pos ⟨rfl, hj⟩, if_pos ⟨rfl, hj⟩]
    · rw [if_neg (fun q => hj q.2), if_neg (fun q => hj q.2)]; exact t4 j
  · rw [mPut1, up2_f (by omega)]
    by_cases hj2 : j = w
    · subst hj2
      rw [up2_same]; exact by_of _
    · rw [up2_f (by omega)]; exact t5 j hj
  · rw [tPut1, up2_f q1, up2_f (by omega)]; exact hc b j q1 q2
  · rw [mPut1, up2_f q1, up2_f (by omega)]; exact hm b j q1 q2
theorem put4_sim {I0 I0' : Mem} {w : Nat} {x : Int32} (hT : TapeR I I' h g w ∧ PutC h I0 I ∧ PutM g I0' I') (hw : w + 4 ≤ 400) : TapeR (tPut I (h + 1) w x) (mPut1 (mPut1 (mPut1 (mPut1 I' g w x 24) g (w + 1) x 16) g (w + 2) x 8) g (w + 3) x 0) h g (w + 4) ∧ PutC h I0 (tPut I (h + 1) w x) ∧ PutM g I0' (mPut1 (mPut1 (mPut1 (mPut1 I' g w x 24) g (w + 1) x 16) g (w + 2) x 8) g (w + 3) x 0) :=
  put_sim (put_sim (put_sim (put_sim hT (by omega)) (by omega)) (by omega)) (by omega)
theorem do_feed (H : Rel S V N I I' h g n c s e np k z) (a b d f w : Int32) : (hFeed I h z a b d f w).1 = (mFeed I' g z a b d f w).1 ∧ ∃ z1, Rel S V N (hFeed I h z a b d f w).2 (mFeed I' g z a b d f w).2 h g n c s e np k z1 := by
  have HR := H
  obtain ⟨H, T1, T2, T3⟩ := H
  have hgh := H.mn
  rw [hFeed, mFeed]
  by_cases hz : z + 20 ≤ 400
  · rw [if_pos hz, if_pos hz]
    refine ⟨rfl, z + 20, ?_⟩
    have h0 : TapeR I I' h g z ∧ PutC h I I ∧ PutM g I' I' := ⟨H.2.2.2.2.2.2.2.1, fun _ _ _ _ => rfl, fun _ _ _ _ => rfl⟩
    have h5 := put4_sim (x := w) (put4_sim (x := f) (put4_sim (x := d) (put4_sim (x := b) (put4_sim (x := a) h0 (by omega)) (by omega)) (by omega)) (by omega)) (by omega)
    have eM : mFd I' g z a b d f w 20 = _ := rfl
    obtain ⟨f1, f2, f3⟩ := h5
    have h6 : TapeR (tPut (tPut (tPut (tPut (tPut I (h + 1) z a) (h + 1) (z + 4) b) (h + 1) (z + 8) d) (h + 1) (z + 12) f) (h + 1) (z + 16) w) (mFd I' g z a b d f w 20) h g (z + 20) := f1
    have h7 : PutM g I' (mFd I' g z a b d f w 20) := f3
    have h8 : PutC h I (tPut (tPut (tPut (tPut (tPut I (h + 1) z a) (h + 1) (z + 4) b) (h + 1) (z + 8) d) (h + 1) (z + 12) f) (h + 1) (z + 16) w) := f2
    simp only []
    generalize tPut (tPut (tPut (tPut (tPut I (h + 1) z a) (h + 1) (z + 4) b) (h + 1) (z + 8) d) (h + 1) (z + 12) f) (h + 1) (z + 16) w = I1 at *
    generalize mFd I' g z a b d f w 20 = I1' at *
    obtain ⟨p1, p2, p3, p4⟩ := H.2.2.2.2.2.1
    obtain ⟨l1, l2, l3, l4⟩ := H.2.2.2.2.2.2.1
    refine ⟨H.gen (Nat.le_refl _) ⟨(h8 _ _ (by omega) (by omega)).trans p1, (h7 _ _ (by omega) (by omega)).trans p2, p3, fun q hq => (p4 q hq).keep (fun b j q1 q2 => h8 _ _ (by omega) (by omega)) (fun b j q1 q2 => h7 _ _ (by omega) (by omega))⟩ ⟨(h8 _ _ (by omega) (by omega)).trans l1, (h7 _ _ (by omega) (by omega)).trans l2, l3, fun j hj => (l4 j hj).keep (fun b q1 q2 => h8 _ _ (by omega) (by omega)) (fun b q1 q2 => h7 _ _ (by omega) (by omega))⟩ h6 (fun b j q => h8 _ _ (by omega) (by omega)) (fun b j q => h7 _ _ (by omega) (by omega)) (fun q _ => ⟨h7 _ _ (by omega) (by omega), fun j _ _ => ⟨h7 _ _ (by omega) (by omega), h7 _ _ (by omega) (by omega)⟩, fun j _ _ => ⟨h7 _ _ (by omega) (by omega), h7 _ _ (by omega) (by omega), h7 _ _ (by omega) (by omega)⟩⟩), ?_, ?_, ?_⟩
    · rw [h8 _ _ (by omega) (by omega), h7 _ _ (by omega) (by omega)]; exact T1
    · rw [h8 _ _ (by omega) (by omega), h7 _ _ (by omega) (by omega)]; exact T2
    · rw [h8 _ _ (by omega) (by omega), h8 _ _ (by omega) (by omega), h7 _ _ (by omega) (by omega)]; exact T3
  · rw [if_neg hz, if_neg hz]
    exact ⟨rfl, z, HR⟩
end DO5
