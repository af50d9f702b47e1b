/-! ===== phase 2: the first keep ===== -/
theorem MdSh.ag {S S' : Nat → Option (Nat × Nat)} {V V' : Nat → Nat → Option Nat} {g : Nat} (h : MdSh S V g) (hb : ∀ b, g ≤ b → b < g + 148 → S' b = S b ∧ V' b = V b) : MdSh S' V' g := by
  unfold MdSh at h ⊢
  obtain ⟨a0, a1, a2, a3, a4, a5, a6, a7, a8, a9, b1, b2, b3, b4, b5, b6, b7, b8, c1, c2, c3⟩ := h
  rw [(hb g (by omega) (by omega)).1, (hb g (by omega) (by omega)).2, (hb (g + 1) (by omega) (by omega)).1, (hb (g + 2) (by omega) (by omega)).1, (hb (g + 3) (by omega) (by omega)).1, (hb (g + 4) (by omega) (by omega)).1, (hb (g + 5) (by omega) (by omega)).1, (hb (g + 6) (by omega) (by omega)).1, (hb (g + 7) (by omega) (by omega)).1, (hb (g + 8) (by omega) (by omega)).1, (hb (g + 4) (by omega) (by omega)).2, (hb (g + 8) (by omega) (by omega)).2]
  exact ⟨a0, a1, a2, a3, a4, a5, a6, a7, a8, a9, b1, b2, b3, b4, b5, b6, b7, b8, c1.ag (fun b q1 q2 => hb b (by omega) (by omega)), fun i hi => ⟨(c2 i hi).1, (c2 i hi).2.ag (fun b q1 q2 => hb b (by omega) (by omega))⟩, fun i hi => ⟨(c3 i hi).1, (c3 i hi).2.ag (fun b q1 q2 => hb b (by omega) (by omega))⟩⟩
theorem MrSh.ag {S S' : Nat → Option (Nat × Nat)} {V V' : Nat → Nat → Option Nat} {g : Nat} (h : MrSh S V g) (hb : ∀ b, g ≤ b → b < g + 148 → S' b = S b ∧ V' b = V b) : MrSh S' V' g := by
  unfold MrSh at h ⊢
  rw [(hb g (by omega) (by omega)).2, (hb (g + 19) (by omega) (by omega)).1, (hb (g + 20) (by omega) (by omega)).1, (hb (g + 21) (by omega) (by omega)).1, (hb (g + 22) (by omega) (by omega)).1, (hb (g + 23) (by omega) (by omega)).1, (hb (g + 24) (by omega) (by omega)).1, (hb (g + 25) (by omega) (by omega)).1, (hb (g + 26) (by omega) (by omega)).1, (hb (g + 27) (by omega) (by omega)).1]
  exact h
theorem HouseSh.v6 {S : Nat → Option (Nat × Nat)} {V : Nat → Nat → Option Nat} {h : Nat} {x : Option Nat} (hH : HouseSh S V h) : HouseSh S (up2 V h 6 x) h := by
  have vb : ∀ b, b ≠ h → up2 V h 6 x b = V b := fun b hb => funext fun j => up2_a hb
  have vk : ∀ j, j ≠ 6 → up2 V h 6 x h j = V h j := fun j hj => up2_k hj
  unfold HouseSh at hH ⊢
  obtain ⟨a0, a1, a2, a3, a4, a5, a6, a7, a8, a9, a10, a11, a12, a13, a14⟩ := hH
  rw [vk _ (by decide), vk _ (by decide), vk _ (by decide), vk _ (by decide), vk _ (by decide), vk _ (by decide), vb (h + 3) (by omega), vb (h + 76) (by omega)]
  refine ⟨a0, a1, a2, a3, a4, a5, a6, ?_, a8, fun i hi => ⟨(a9 i hi).1, (a9 i hi).2.ag (fun b c1 c2 => ⟨rfl, vb b (by omega)⟩)⟩, a10.ag (fun b c1 c2 => ⟨rfl, vb b (by omega)⟩), a11.ag (fun b c1 c2 => ⟨rfl, vb b (by omega)⟩), a12, a13.ag (fun b c1 c2 => ⟨rfl, vb b (by omega)⟩), a14⟩
  unfold TapeSh at a7 ⊢
  rw [vb (h + 1) (by omega)]
  exact a7
theorem RC.c {A I I1 : Mem} {r e c : Nat} (h : RC A I r e c) (hc : c ≤ 6) (hI : ∀ b k, e ≤ b → b ≤ e + 66 → I b k = I1 b k) : RC A I1 r e c := by
  obtain ⟨⟨a1, a2, a3⟩, ⟨b1, b2, b3, b4⟩, c1⟩ := h
  refine ⟨⟨a1.trans (hI _ _ (by omega) (by omega)), a2.trans (hI _ _ (by omega) (by omega)), a3.trans (hI _ _ (by omega) (by omega))⟩, ⟨b1.trans (hI _ _ (by omega) (by omega)), fun k hk => ⟨(b2 k hk).1.trans (hI _ _ (by omega) (by omega)), (b2 k hk).2.trans (hI _ _ (by omega) (by omega))⟩, fun k hk => (b3 k hk).trans (hI _ _ (by omega) (by omega)), fun k hk => (b4 k hk).trans (hI _ _ (by omega) (by omega))⟩, fun i hi => (c1 i hi).c (fun _ _ _ _ => rfl) (fun b k q1 q2 => hI _ _ (by omega) (by omega))⟩
section DO10
variable {S : Nat → Option (Nat × Nat)} {V : Nat → Nat → Option Nat} {N : Nat} {I I' : Mem} {h g n c s e np k z : Nat}
theorem do_keep0 {S1 : Nat → Option (Nat × Nat)} {V1 : Nat → Nat → Option Nat} {I1 : Mem} (H : Rel S V N I I' h g n c s e np k z) (ho : ∀ x, x < N → S1 x = S x ∧ I1 x = I x ∧ V1 x = V x) (hR : RaceSh S1 V1 N) : Rel S1 (up2 V1 h 6 (some N)) (N + 67) (rCopy I1 N (h + 9) c) (mKeep I' g c) h g n c s e np k z := by
  obtain ⟨H, T1, T2, T3⟩ := H
  have c6 := H.c6
  have hgh := H.mn
  have hgN : g + 148 ≤ N := H.1.2.2.2.2.1
  obtain ⟨s1, s2, s3, s4, s5, s6, s7⟩ := H.1
  have vb : ∀ b, b ≠ h → b < N → up2 V1 h 6 (some N) b = V b := fun b hb hN => (funext fun j => up2_a hb).trans (ho b hN).2.2
  have hrow : ∀ i, i < 6 → rwA (up2 V1 h 6 (some N)) h i = rwA V h i ∧ rwL S1 (up2 V1 h 6 (some N)) h i = rwL S V h i := fun i hi => by
    have e1 : rwA (up2 V1 h 6 (some N)) h i = rwA V h i := by
      show rowA _ _ = rowA _ _
      rw [rowA, rowA, vb _ (by omega) (by omega)]
    have e1' : rowA (up2 V1 h 6 (some N)) (h + 150 + 2 * i) = rowA V (h + 150 + 2 * i) := e1
    refine ⟨e1, ?_⟩
    show rowN _ _ _ = rowN _ _ _
    rw [rowN, rowN, e1', (ho _ (s6 i hi).2.2).1]
  have hS1 : Shp S1 (up2 V1 h 6 (some N)) (N + 67) h g := by
    refine ⟨HouseSh.v6 (s1.ag (fun b q1 q2 => (ho b (by omega)).1) (fun b q1 q2 => (ho b (by omega)).2.2)), s2.ag (fun b q1 q2 => ⟨(ho b (by omega)).1, vb b (by omega) (by omega)⟩), s3.ag (fun b q1 q2 => ⟨(ho b (by omega)).1, vb b (by omega) (by omega)⟩), s4, by omega, fun i hi => ?_, fun i j hi hj hne => ?_⟩
    · obtain ⟨⟨r1, r2, r3, r4⟩, r5, r6⟩ := s6 i hi
      rw [(hrow i hi).1, (hrow i hi).2]
      exact ⟨⟨(ho _ (by omega)).1.trans r1, by rw [vb _ (by omega) (by omega)]; exact r2, (ho _ r6).1.trans r3, r4⟩, r5, by omega⟩
    · rw [(hrow i hi).1, (hrow j hj).1]; exact s7 i j hi hj hne
  have hI1 : ∀ b j, b < N → I1 b j = I b j := fun b j hb => by rw [(ho b hb).2.1]
  refine ⟨keep_core H hS1 hrow ⟨up2_same _ _ _ _, by omega, by omega, hR.ag (fun b q1 q2 => ⟨rfl, funext fun j => up2_a (by omega)⟩), fun i hi => by rw [(hrow i hi).1]; exact Or.inl (s6 i hi).2.2⟩ (fun b j q1 q2 => (rCopy_o c6 q2).trans (hI1 b j q1)) ((rc_copy (by omega) c6).c c6 (fun b j q1 q2 => hI1 b j (by omega))), ?_, ?_, ?_⟩
  · rw [rCopy_o c6 (by omega), hI1 _ _ (by omega), (mKeep_f c6).1 _ _ (by omega) (by omega) (by omega) (by omega) (fun i hi => by have := kt_e g i; omega)]; exact T1
  · rw [rCopy_o c6 (by omega), hI1 _ _ (by omega), (mKeep_f c6).1 _ _ (by omega) (by omega) (by omega) (by omega) (fun i hi => by have := kt_e g i; omega)]; exact T2
  · rw [rCopy_o c6 (by omega), rCopy_o c6 (by omega), hI1 _ _ (by omega), hI1 _ _ (by omega), (mKeep_f c6).1 _ _ (by omega) (by omega) (by omega) (by omega) (fun i hi => by have := kt_e g i; omega)]; exact T3
end DO10
