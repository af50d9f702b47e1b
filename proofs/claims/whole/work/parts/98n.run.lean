/-! ===== phase 2: run, the rows of signs ===== -/
theorem told_c {I I1 : Mem} {t r : Nat} {x : Int32} (ht : ∀ b k, t ≤ b → b ≤ t + 9 → I1 b k = I b k) (hr : ∀ k, I1 (r + 3) k = I (r + 3) k) : tTold I1 t r (tL I1 t) (tGm I1 t) x = tTold I t r (tL I t) (tGm I t) x := by
  have e1 : tL I1 t = tL I t := by rw [tL, tL, ht _ _ (by omega) (by omega)]
  have e2 : tGm I1 t = tGm I t := by rw [tGm, tGm, ht _ _ (by omega) (by omega)]
  have e3 : gHide I1 (t + 5) (tGm I t) x = gHide I (t + 5) (tGm I t) x := by
    unfold gHide
    congr 1
    funext k
    rw [ht _ _ (by omega) (by omega), ht _ _ (by omega) (by omega)]
  rw [tTold, tTold, e1, e2, e3, ht _ _ (by omega) (by omega), tWay, tWay, hr, ht _ _ (by omega) (by omega)]
/-- row i of signs in the midst of step s, the teams before j have told theirs -/
def RowI (S : Nat → Option (Nat × Nat)) (V : Nat → Nat → Option Nat) (N : Nat) (I : Mem) (h s e j : Nat) (S1 : Nat → Option (Nat × Nat)) (V1 : Nat → Nat → Option Nat) (N1 : Nat) (I1 : Mem) (i : Nat) : Prop :=
  RowSh S1 V1 (h + 150 + 2 * i) (rwA V1 h i) (rwL S1 V1 h i) ∧ (rwA V1 h i = rwA V h i ∨ N ≤ rwA V1 h i) ∧ rwA V1 h i < N1 ∧ rwL S V h i ≤ rwL S1 V1 h i ∧ (∀ k, k < s / e → I1 (rwA V1 h i) k = I (rwA V h i) k) ∧ ((j ≤ i ∨ ¬ s % e = 0) → rwA V1 h i = rwA V h i ∧ ∀ k, I1 (rwA V1 h i) k = I (rwA V h i) k) ∧ (i < j → s % e = 0 → rowMost e ≤ rwL S1 V1 h i ∧ I1 (rwA V1 h i) (s / e) = tTold I1 (tm h i) (h + 9 + 1) (tL I1 (tm h i)) (tGm I1 (tm h i)) (nI s))
/-- the class in the midst of step s, the teams before j have gone -/
def RunI (S : Nat → Option (Nat × Nat)) (V : Nat → Nat → Option Nat) (N : Nat) (I : Mem) (h g s e j : Nat) (S1 : Nat → Option (Nat × Nat)) (V1 : Nat → Nat → Option Nat) (N1 : Nat) (I1 : Mem) : Prop :=
  (N ≤ N1 ∧ (∀ b, b < N → S1 b = S b) ∧ ∀ b, b < N → (∀ i, i < 6 → b ≠ h + 150 + 2 * i) → V1 b = V b) ∧ (∀ b k, b < N → (∀ i, i < 6 → b ≠ rwA V h i) → (b < h + 16 ∨ h + 75 < b) → I1 b k = I b k) ∧ (∀ i, i < 6 → RowI S V N I h s e j S1 V1 N1 I1 i) ∧ ∀ i i', i < 6 → i' < 6 → i ≠ i' → rwA V1 h i ≠ rwA V1 h i'
theorem RowI.out {S S1 : Nat → Option (Nat × Nat)} {V V1 : Nat → Nat → Option Nat} {N N1 h g s e j i : Nat} {I I1 : Mem} (hS : Shp S V N h g) (hR : RowI S V N I h s e j S1 V1 N1 I1 i) (hi : i < 6) : (h + 150 ≤ rwA V1 h i ∧ rwA V1 h i < g) ∨ g + 148 ≤ rwA V1 h i := by
  have h1 := rw_in hS hi
  have h2 : g + 148 ≤ N := hS.2.2.2.2.1
  have h3 := hR.2.1
  omega
/-- only cells of team j changed -/
theorem RunI.stp {S S1 : Nat → Option (Nat × Nat)} {V V1 : Nat → Nat → Option Nat} {N N1 h g s e j : Nat} {I I1 I2 : Mem} (hS : Shp S V N h g) (hR : RunI S V N I h g s e j S1 V1 N1 I1) (hj : j < 6) (h2 : ∀ b k, b < tm h j ∨ tm h j + 9 < b → I2 b k = I1 b k) : RunI S V N I h g s e j S1 V1 N1 I2 := by
  have hgh : g = h + 162 := hS.2.2.2.1
  have tj : tm h j = h + 9 + 7 + 10 * j := rfl
  obtain ⟨a1, a2, a3, a4⟩ := hR
  refine ⟨a1, fun b k q1 q2 q3 => (h2 b k (by omega)).trans (a2 b k q1 q2 q3), fun i hi => ?_, a4⟩
  have ho := RowI.out hS (a3 i hi) hi
  have ti : tm h i = h + 9 + 7 + 10 * i := rfl
  obtain ⟨r1, r2, r3, r4, r5, r6, r7⟩ := a3 i hi
  refine ⟨r1, r2, r3, r4, fun k hk => (h2 _ _ (by omega)).trans (r5 k hk), fun q => ⟨(r6 q).1, fun k => (h2 _ _ (by omega)).trans ((r6 q).2 k)⟩, fun q1 q2 => ⟨(r7 q1 q2).1, ?_⟩⟩
  rw [h2 _ _ (by omega), (r7 q1 q2).2]
  exact (told_c (fun b k z1 z2 => h2 _ _ (by omega)) (fun k => h2 _ _ (by omega))).symm
theorem RunI.tell {S S1 : Nat → Option (Nat × Nat)} {V V1 : Nat → Nat → Option Nat} {N N1 h g s e j : Nat} {I I1 : Mem} {J : Nat → Nat → Int64} (hS : Shp S V N h g) (hR : RunI S V N I h g s e j S1 V1 N1 I1) (hj : j < 6) (he : 0 < e) (hlen : 0 < s → rowMost e ≤ rwL S V h j) :
    ∃ S2 V2 N2 I2 J2, tellW (h + 150 + 2 * j) (tm h j) (h + 9 + 1) s e (S1, I1, V1, J, N1) = (S2, I2, V2, J2, N2) ∧ RunI S V N I h g s e (j + 1) S2 V2 N2 I2 ∧ ∀ b k, h ≤ b → b < h + 150 → I2 b k = I1 b k := by
  have hgh : g = h + 162 := hS.2.2.2.1
  have hgN : g + 148 ≤ N := hS.2.2.2.2.1
  have tj : tm h j = h + 9 + 7 + 10 * j := rfl
  obtain ⟨⟨a0, a1, a1'⟩, a2, a3, a4⟩ := hR
  rw [tellW]
  by_cases hm : s % e = 0
  · rw [if_pos hm]
    by_cases hg : rowN S1 V1 (h + 150 + 2 * j) < rowMost e
    · rw [if_pos hg]
      have s0 : s = 0 := by
        rcases Nat.eq_zero_or_pos s with w | w
        · exact w
        · have h1 := hlen w
          have h2 := (a3 j hj).2.2.2.1
          have h3 : rwL S1 V1 h j < rowMost e := hg
          omega
      subst s0
      generalize hlen2 : rowN S1 V1 (h + 150 + 2 * j) = len
      generalize hva : rowA V1 (h + 150 + 2 * j) = a
      have hav : rwA V1 h j = a := hva
      have haN : a < N1 := hav ▸ (a3 j hj).2.2.1
      have hI : ∀ b k x, b < N1 → up2 (cpyI (zr I1 N1 0) a N1 0 0 len) N1 (0 / e) x b k = I1 b k := fun b k x hb => (up2_a (by omega)).trans (grow_I (by omega))
      have hI0 : ∀ b k, b < N1 → cpyI (zr I1 N1 0) a N1 0 0 len b k = I1 b k := fun b k hb => grow_I (by omega)
      have etold : tTold (cpyI (zr I1 N1 0) a N1 0 0 len) (tm h j) (h + 9 + 1) (tL I1 (tm h j)) (tGm I1 (tm h j)) (nI 0) = tTold I1 (tm h j) (h + 9 + 1) (tL I1 (tm h j)) (tGm I1 (tm h j)) (nI 0) := by
        have e1 : tL (cpyI (zr I1 N1 0) a N1 0 0 len) (tm h j) = tL I1 (tm h j) := by rw [tL, tL, hI0 _ _ (by omega)]
        have e2 : tGm (cpyI (zr I1 N1 0) a N1 0 0 len) (tm h j) = tGm I1 (tm h j) := by rw [tGm, tGm, hI0 _ _ (by omega)]
        have := told_c (I := I1) (I1 := cpyI (zr I1 N1 0) a N1 0 0 len) (t := tm h j) (r := h + 9 + 1) (x := nI 0) (fun b k z1 z2 => hI0 _ _ (by omega)) (fun k => hI0 _ _ (by omega))
        rw [e1, e2] at this
        exact this
      rw [etold]
      refine ⟨_, _, _, _, _, rfl, ?_, fun b k q1 q2 => hI _ _ _ (by omega)⟩
      have hV : ∀ b, b < N1 → b ≠ h + 150 + 2 * j → up2 (zr V1 N1 none) (h + 150 + 2 * j) 0 (some N1) b = V1 b := fun b q1 q2 => grow_V (by omega) q2
      have hS2 : ∀ b, b < N1 → up1 S1 N1 (some (100, rowMost e)) b = S1 b := fun b q => grow_S (by omega)
      have hra : ∀ i, i < 6 → i ≠ j → rwA (up2 (zr V1 N1 none) (h + 150 + 2 * j) 0 (some N1)) h i = rwA V1 h i ∧ rwL (up1 S1 N1 (some (100, rowMost e))) (up2 (zr V1 N1 none) (h + 150 + 2 * j) 0 (some N1)) h i = rwL S1 V1 h i := fun i hi hij => by
        have e1 : rowA (up2 (zr V1 N1 none) (h + 150 + 2 * j) 0 (some N1)) (h + 150 + 2 * i) = rowA V1 (h + 150 + 2 * i) := by rw [rowA, rowA, hV _ (by omega) (by omega)]
        refine ⟨e1, ?_⟩
        show rowN _ _ _ = rowN _ _ _
        rw [rowN, rowN, e1, hS2 _ (a3 i hi).2.2.1]
      have hrj : rwA (up2 (zr V1 N1 none) (h + 150 + 2 * j) 0 (some N1)) h j = N1 := by
        show rowA _ _ = N1
        rw [rowA, up2_same]; rfl
      have hrl : rwL (up1 S1 N1 (some (100, rowMost e))) (up2 (zr V1 N1 none) (h + 150 + 2 * j) 0 (some N1)) h j = rowMost e := by
        show rowN _ _ _ = _
        rw [rowN, show rowA (up2 (zr V1 N1 none) (h + 150 + 2 * j) 0 (some N1)) (h + 150 + 2 * j) = N1 from hrj, up1, if_pos rfl]; rfl
      refine ⟨⟨by omega, fun b q => (hS2 b (by omega)).trans (a1 b q), fun b q1 q2 => (hV b (by omega) (q2 j hj)).trans (a1' b q1 q2)⟩, fun b k q1 q2 q3 => (hI _ _ _ (by omega)).trans (a2 b k q1 q2 q3), fun i hi => ?_, fun i i' hi hi' hne => ?_⟩
      · by_cases hij : i = j
        · subst hij
          obtain ⟨r1, r2, r3, r4, r5, r6, r7⟩ := a3 i hi
          unfold RowI
          rw [hrj, hrl]
          refine ⟨⟨(hS2 _ (by omega)).trans r1.1, up2_same _ _ _ _, by rw [up1, if_pos rfl], rowMost_le⟩, Or.inr a0, by omega, ?_, fun k hk => ?_, fun q => ?_, fun _ _ => ⟨Nat.le_refl _, ?_⟩⟩
          · have : rwL S1 V1 h i < rowMost e := by
              show rowN S1 V1 (h + 150 + 2 * i) < rowMost e
              omega
            omega
          · rw [Nat.zero_div] at hk; omega
          · omega
          · rw [up2_same]
            exact (told_c (fun b k z1 z2 => hI _ _ _ (by omega)) (fun k => hI _ _ _ (by omega))).symm
        · obtain ⟨r1, r2, r3, r4, r5, r6, r7⟩ := a3 i hi
          have ti : tm h i = h + 9 + 7 + 10 * i := rfl
          unfold RowI
          rw [(hra i hi hij).1, (hra i hi hij).2]
          refine ⟨⟨(hS2 _ (by omega)).trans r1.1, by rw [hV _ (by omega) (by omega)]; exact r1.2.1, (hS2 _ r3).trans r1.2.2.1, r1.2.2.2⟩, r2, by omega, r4, fun k hk => (hI _ _ _ r3).trans (r5 k hk), fun q => ⟨(r6 (by omega)).1, fun k => (hI _ _ _ r3).trans ((r6 (by omega)).2 k)⟩, fun q1 q2 => ⟨(r7 (by omega) q2).1, ?_⟩⟩
          rw [hI _ _ _ r3, (r7 (by omega) q2).2]
          exact (told_c (fun b k z1 z2 => hI _ _ _ (by omega)) (fun k => hI _ _ _ (by omega))).symm
      · by_cases hij : i = j
        · subst hij
          rw [hrj, (hra i' hi' (fun q => hne q.symm)).1]
          have := (a3 i' hi').2.2.1
          omega
        · rw [(hra i hi hij).1]
          by_cases hij' : i' = j
          · subst hij'
            rw [hrj]
            have := (a3 i hi).2.2.1
            omega
          · rw [(hra i' hi' hij').1]; exact a4 i i' hi hi' hne
    · rw [if_neg hg]
      have ho := fun i hi => RowI.out hS (a3 i hi) hi
      refine ⟨_, _, _, _, _, rfl, ?_, fun b k q1 q2 => up2_a (by have := ho j hj; show b ≠ rwA V1 h j; omega)⟩
      have hI : ∀ b k, b ≠ rwA V1 h j → up2 I1 (rowA V1 (h + 150 + 2 * j)) (s / e) (tTold I1 (tm h j) (h + 9 + 1) (tL I1 (tm h j)) (tGm I1 (tm h j)) (nI s)) b k = I1 b k := fun b k q => up2_a q
      have hIk : ∀ k, k ≠ s / e → up2 I1 (rowA V1 (h + 150 + 2 * j)) (s / e) (tTold I1 (tm h j) (h + 9 + 1) (tL I1 (tm h j)) (tGm I1 (tm h j)) (nI s)) (rwA V1 h j) k = I1 (rwA V1 h j) k := fun k q => up2_k q
      have hIs : up2 I1 (rowA V1 (h + 150 + 2 * j)) (s / e) (tTold I1 (tm h j) (h + 9 + 1) (tL I1 (tm h j)) (tGm I1 (tm h j)) (nI s)) (rwA V1 h j) (s / e) = tTold I1 (tm h j) (h + 9 + 1) (tL I1 (tm h j)) (tGm I1 (tm h j)) (nI s) := up2_same _ _ _ _
      generalize up2 I1 (rowA V1 (h + 150 + 2 * j)) (s / e) (tTold I1 (tm h j) (h + 9 + 1) (tL I1 (tm h j)) (tGm I1 (tm h j)) (nI s)) = I2 at *
      refine ⟨⟨a0, a1, a1'⟩, fun b k q1 q2 q3 => ?_, fun i hi => ?_, a4⟩
      · have hb : b ≠ rwA V1 h j := by
          rcases (a3 j hj).2.1 with w | w
          · rw [w]; exact q2 j hj
          · omega
        exact (hI b k hb).trans (a2 b k q1 q2 q3)
      · obtain ⟨r1, r2, r3, r4, r5, r6, r7⟩ := a3 i hi
        have ti : tm h i = h + 9 + 7 + 10 * i := rfl
        have hoj := ho j hj
        have hoi := ho i hi
        have hto : tTold I2 (tm h i) (h + 9 + 1) (tL I2 (tm h i)) (tGm I2 (tm h i)) (nI s) = tTold I1 (tm h i) (h + 9 + 1) (tL I1 (tm h i)) (tGm I1 (tm h i)) (nI s) := told_c (fun b k z1 z2 => hI _ _ (by omega)) (fun k => hI _ _ (by omega))
        by_cases hij : i = j
        · subst hij
          refine ⟨r1, r2, r3, r4, fun k hk => (hIk k (by omega)).trans (r5 k hk), fun q => ?_, fun _ _ => ⟨?_, by rw [hIs, hto]⟩⟩
          · rcases q with q | q
            · omega
            · exact absurd hm q
          · show rowMost e ≤ rowN S1 V1 (h + 150 + 2 * i)
            omega
        · have hne := a4 i j hi hj hij
          refine ⟨r1, r2, r3, r4, fun k hk => (hI _ _ hne).trans (r5 k hk), fun q => ⟨(r6 (by omega)).1, fun k => (hI _ _ hne).trans ((r6 (by omega)).2 k)⟩, fun q1 q2 => ⟨(r7 (by omega) q2).1, ?_⟩⟩
          rw [hI _ _ hne, (r7 (by omega) q2).2, hto]
  · rw [if_neg hm]
    refine ⟨_, _, _, _, _, rfl, ⟨⟨a0, a1, a1'⟩, a2, fun i hi => ?_, a4⟩, fun _ _ _ _ => rfl⟩
    obtain ⟨r1, r2, r3, r4, r5, r6, r7⟩ := a3 i hi
    exact ⟨r1, r2, r3, r4, r5, fun _ => r6 (Or.inr hm), fun _ q => absurd q hm⟩
