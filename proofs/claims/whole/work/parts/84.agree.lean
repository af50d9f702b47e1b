/-! ===== phase 2: what a step reads ===== -/
/-- two memories agree on P -/
def Ag (P : Nat → Nat → Prop) (A B : Mem) : Prop := ∀ b k, P b k → A b k = B b k
section AG
variable {P : Nat → Nat → Prop} {A B : Mem} {g u m w l n s q : Nat}
theorem Ag.up (h : Ag P A B) {a k : Nat} {x y : Int32} (hx : x = y) : Ag P (up2 A a k x) (up2 B a k y) := fun b j p => by
  unfold up2
  split
  · exact hx
  · exact h b j p
theorem ag_of (h : Ag P A B) (hu : ∀ b k, u ≤ b → b ≤ u + 5 → P b k) (x : Int32) : mOf A u x m = mOf B u x m := mOf_c (fun k _ => h _ _ (hu _ _ (by omega) (by omega)))
theorem ag_two (h : Ag P A B) (hu : ∀ b k, u ≤ b → b ≤ u + 5 → P b k) : ∀ k, k < m → A (u + 1) k = B (u + 1) k ∧ A (u + 2) k = B (u + 2) k := fun k _ => ⟨h _ _ (hu _ _ (by omega) (by omega)), h _ _ (hu _ _ (by omega) (by omega))⟩
theorem ag_mean (h : Ag P A B) (hu : ∀ b k, u ≤ b → b ≤ u + 5 → P b k) : mMean A u m = mMean B u m := by rw [mMean, mMean, ag_of h hu, dr_sum (ag_two h hu)]
theorem ag_gain (h : Ag P A B) (hu : ∀ b k, u ≤ b → b ≤ u + 5 → P b k) (x : Int32) : ∀ j, Ag P (dGain A u x j) (dGain B u x j)
  | 0 => h
  | j + 1 => by
    have ih := ag_gain h hu x j
    rw [dGain, dGain, ih _ _ (hu (u + 2) j (by omega) (by omega)), ih _ _ (hu (u + 1) j (by omega) (by omega))]
    split
    · exact ih.up rfl
    · exact ih
theorem ag_lose (h : Ag P A B) (hu : ∀ b k, u ≤ b → b ≤ u + 5 → P b k) (x : Int32) : ∀ j, Ag P (mLose A u x j) (mLose B u x j)
  | 0 => h
  | j + 1 => by
    have ih := ag_lose h hu x j
    rw [mLose, mLose, mLose1, mLose1, ih _ _ (hu (u + 2) j (by omega) (by omega)), ih _ _ (hu (u + 1) j (by omega) (by omega))]
    split
    · split
      · exact (ih.up rfl).up rfl
      · exact ih.up rfl
    · exact ih
theorem ag_lc (h : Ag P A B) (hu : ∀ b k, u ≤ b → b ≤ u + 5 → P b k) (x : Int32) : ∀ j, Ag P (mLc A u x j) (mLc B u x j)
  | 0 => h
  | j + 1 => by
    have ih := ag_lc h hu x j
    rw [mLc, mLc, mLc1, mLc1, ih _ _ (hu (u + 2) j (by omega) (by omega))]
    split
    · exact (ih.up rfl).up rfl
    · exact ih
theorem ag_arr (h : Ag P A B) (hu : ∀ b k, u ≤ b → b ≤ u + 5 → P b k) : Ag P (mArr A u m l n s) (mArr B u m l n s) := by
  have h0 : Ag P (mArr0 A u l s) (mArr0 B u l s) := ((h.up rfl).up rfl).up rfl
  have h1 := ag_lc h0 hu (nI (l + 1)) m
  have h2 : Ag P (mArr1 (mArr0 A u l s) u m l) (mArr1 (mArr0 B u l s) u m l) := h1.up (h1 _ _ (hu _ _ (by omega) (by omega)))
  rw [mArr, mArr]
  split
  · exact h2.up rfl
  · exact h2
theorem ag_goZ (h : Ag P A B) (hu : ∀ b k, u ≤ b → b ≤ u + 5 → P b k) (p1 : P (g + 1) l) (p2 : P (g + 2) l) : Ag P (mGoY A g u m l n s) (mGoY B g u m l n s) := by
  have h1 : Ag P (up2 A u 1 (A u 13 + 25 * mOf A u 1 m)) (up2 B u 1 (B u 13 + 25 * mOf B u 1 m)) := h.up (by rw [h _ _ (hu u 13 (by omega) (by omega)), ag_of h hu])
  rw [mGoY, mGoY]
  generalize up2 A u 1 (A u 13 + 25 * mOf A u 1 m) = A1 at *
  generalize up2 B u 1 (B u 13 + 25 * mOf B u 1 m) = B1 at *
  rw [mGoZ, mGoZ, ag_of h1 hu]
  split
  · exact h1.up rfl
  · have e : A1 u 7 + mReach A1 g u m l = B1 u 7 + mReach B1 g u m l := by
      rw [mReach, mReach, h1 _ _ (hu u 7 (by omega) (by omega)), h1 _ _ (hu u 1 (by omega) (by omega)), ag_of h1 hu, ag_mean h1 hu, h1 _ _ p2]
    have h2 : Ag P (up2 A1 u 7 (A1 u 7 + mReach A1 g u m l)) (up2 B1 u 7 (B1 u 7 + mReach B1 g u m l)) := h1.up e
    rw [mGoW, mGoW, h2 _ _ (hu u 7 (by omega) (by omega)), h2 _ _ p1]
    split
    · exact h2
    · exact ag_arr h2 hu
theorem ag_goX (h : Ag P A B) (hu : ∀ b k, u ≤ b → b ≤ u + 5 → P b k) (p1 : P (g + 1) l) (p2 : P (g + 2) l) (c : Int32) : Ag P (mGoX A g u m l n s c) (mGoX B g u m l n s c) := by
  rw [mGoX, mGoX, h _ _ (hu u 8 (by omega) (by omega)), h _ _ (hu u 1 (by omega) (by omega)), h _ _ p2]
  exact ag_goZ (ag_lose ((h.up rfl).up rfl) hu _ m) hu p1 p2
theorem ag_go (h : Ag P A B) (hu : ∀ b k, u ≤ b → b ≤ u + 5 → P b k) (p1 : P (g + 1) l) (p2 : P (g + 2) l) (c : Int32) : Ag P (mGo A g u m l n s c) (mGo B g u m l n s c) := by
  rw [mGo, mGo, h _ _ (hu u 7 (by omega) (by omega)), h _ _ (hu (u + 5) l (by omega) (by omega))]
  split
  · exact ag_goX (h.up rfl) hu p1 p2 c
  · exact ag_goX h hu p1 p2 c
theorem ag_pauZ (h : Ag P A B) (hu : ∀ b k, u ≤ b → b ≤ u + 5 → P b k) (c : Int32) : Ag P (mPauZ A u m c) (mPauZ B u m c) := by
  have h1 := ag_gain h hu (tRestGain c) m
  exact (h1.up (by rw [h1 _ _ (hu u 9 (by omega) (by omega))])).up rfl
theorem ag_pau (h : Ag P A B) (hu : ∀ b k, u ≤ b → b ≤ u + 5 → P b k) (a c : Int32) : Ag P (mPau A u m w a c) (mPau B u m w a c) := by
  rw [mPau, mPau, h _ _ (hu u 2 (by omega) (by omega)), h _ _ (hu u 7 (by omega) (by omega)), ag_of h hu, h _ _ (hu u 6 (by omega) (by omega))]
  split
  · exact ag_pauZ (ag_gain (h.up rfl) hu _ m) hu c
  · split
    · exact ag_pauZ ((h.up rfl).up rfl) hu c
    · exact ag_pauZ h hu c
/-- the plan q's cells -/
def PQ (P : Nat → Nat → Prop) (g q : Nat) : Prop := P (g + 21) q ∧ (∀ k, 12 * q ≤ k → k < 12 * q + 12 → P (g + 22) k ∧ P (g + 23) k) ∧ ∀ k, 48 * q ≤ k → k < 48 * q + 48 → P (g + 24) k ∧ P (g + 25) k ∧ P (g + 26) k
theorem ag_vl (h : Ag P A B) (hu : ∀ b k, u ≤ b → b ≤ u + 5 → P b k) (p1 : P (g + 1) l) (p3 : P (g + 3) (s / 6)) (x : Int32) : mVl A g u m w l s x = mVl B g u m w l s x := by
  rw [mVl, mVl, h _ _ (hu u 8 (by omega) (by omega)), h _ _ (hu u 9 (by omega) (by omega)), h _ _ (hu (u + 1) w (by omega) (by omega)), ag_mean h hu, h _ _ p3, h _ _ (hu u 2 (by omega) (by omega)), ag_of h hu, h _ _ p1, h _ _ (hu u 7 (by omega) (by omega)), h _ _ (hu u 1 (by omega) (by omega))]
theorem ag_rule (h : Ag P A B) (hu : ∀ b k, u ≤ b → b ≤ u + 5 → P b k) (p1 : P (g + 1) l) (p3 : P (g + 3) (s / 6)) (pq : PQ P g q) (hP : MplOK A g q) : mRule A g u m w l s q = mRule B g u m w l s q := by
  obtain ⟨r1, r2, r3⟩ := hP
  have en : mNr B g q = mNr A g q := by rw [mNr, mNr, h _ _ pq.1]
  rw [mRule, mRule, en]
  refine fst1_c (fun j hj => ?_)
  have et : mTc B g (12 * q + j) = mTc A g (12 * q + j) := by rw [mTc, mTc, h _ _ (pq.2.1 _ (by omega) (by omega)).2]
  obtain ⟨-, t4⟩ := r3 j hj
  rw [et, mHol_all, mHol_all]
  refine Bool.eq_iff_iff.mpr ?_
  rw [List.all_eq_true, List.all_eq_true]
  have key : ∀ i, i < mTc A g (12 * q + j) → mTst A g u m w l s (4 * (12 * q + j) + i) = mTst B g u m w l s (4 * (12 * q + j) + i) := fun i hi => by
    obtain ⟨a1, a2, a3⟩ := pq.2.2 (4 * (12 * q + j) + i) (by omega) (by omega)
    rw [mTst, mTst, h _ _ a1, h _ _ a2, h _ _ a3, ag_vl h hu p1 p3]
  exact ⟨fun z i hi => by rw [← key i (List.mem_range.mp hi)]; exact z i hi, fun z i hi => by rw [key i (List.mem_range.mp hi)]; exact z i hi⟩
theorem ag_lead (h : Ag P A B) (hu : ∀ b k, u ≤ b → b ≤ u + 5 → P b k) (p1 : P (g + 1) l) (p2 : P (g + 2) l) (p3 : P (g + 3) (s / 6)) (pq : PQ P g q) (hP : MplOK A g q) (hgu2 : u + 9 < g + 19 ∨ g + 27 < u) : Ag P (mLead A g u m w l n s q) (mLead B g u m w l n s q) := by
  have h1 : Ag P (mOn A u s) (mOn B u s) := by
    rw [mOn, mOn, h _ _ (hu u 5 (by omega) (by omega)), h _ _ (hu u 3 (by omega) (by omega))]
    split
    · exact (h.up rfl).up rfl
    · exact h
  have hP1 : MplOK (mOn A u s) g q := by
    have hk := kpm_on (I := A) (t := u) (s := s)
    exact hP.c (fun k => hk _ _ (by unfold PM; omega)) (fun k => hk _ _ (by unfold PM; omega))
  rw [mLead, mLead]
  generalize mOn A u s = A1 at *
  generalize mOn B u s = B1 at *
  rw [mLeadZ, mLeadZ, h1 _ _ (hu u 5 (by omega) (by omega)), ag_rule h1 hu p1 p3 pq hP1]
  split
  · have ho : ∀ j, mRule B1 g u m w l s q = some j → j < mNr B1 g q := fun j hj => fst1_lt hj
    have en : mNr B1 g q = mNr A1 g q := by rw [mNr, mNr, h1 _ _ pq.1]
    generalize mRule B1 g u m w l s q = o at *
    have ea : mAct A1 g q o = mAct B1 g q o := by
      cases o with
      | none => rfl
      | some j =>
        have := ho j rfl
        have := hP1.2.1
        exact h1 _ _ (pq.2.1 _ (by omega) (by omega)).1
    rw [mActs, mActs, ea, h1 _ _ p3]
    split
    · exact ag_go (h1.up rfl) hu p1 p2 _
    · exact ag_pau (h1.up rfl) hu _ _
  · exact h1
end AG
