/-! ===== the reference: what stands of a team between steps ===== -/
def Pul (I : Mem) (t m : Nat) : Prop := ∃ k, k < m ∧ I (t + 2) k = 0
theorem dWeak_of {I : Mem} {t : Nat} : ∀ {m : Nat}, Pul I t m → ∃ w, dWeak I t m = some w
  | 0, h => by obtain ⟨k, hk, _⟩ := h; omega
  | m + 1, h => by
    unfold dWeak
    rcases hw : dWeak I t m with _ | b
    · by_cases h0 : I (t + 2) m = 0
      · exact ⟨m, by simp [h0]⟩
      · obtain ⟨k, hk, e⟩ := h
        have : k ≠ m := fun z => h0 (by rw [← z]; exact e)
        obtain ⟨w, q⟩ := dWeak_of (I := I) (t := t) (m := m) ⟨k, by omega, e⟩
        rw [hw] at q
        exact absurd q (by simp)
    · simp only []
      split
      · exact ⟨_, rfl⟩
      · exact ⟨_, rfl⟩
theorem Pul.c {I I' : Mem} {t m : Nat} (h : Pul I t m) (e : ∀ k, I' (t + 2) k = I (t + 2) k) : Pul I' t m := by
  obtain ⟨k, hk, q⟩ := h
  exact ⟨k, hk, (e k).trans q⟩
theorem mOf_pul {I : Mem} {t : Nat} : ∀ {m : Nat}, ¬ mOf I t 0 m = 0 → Pul I t m
  | 0, h => absurd rfl h
  | m + 1, h => by
    by_cases h0 : I (t + 2) m = 0
    · exact ⟨m, by omega, h0⟩
    · rw [mOf, if_neg h0, Int32.add_zero] at h
      obtain ⟨k, hk, e⟩ := mOf_pul h
      exact ⟨k, by omega, e⟩
theorem mOf_no {I : Mem} {t : Nat} {x : Int32} : ∀ {m : Nat}, (∀ k, k < m → ¬ I (t + 2) k = x) → mOf I t x m = 0
  | 0, _ => rfl
  | m + 1, h => by rw [mOf, if_neg (h m (by omega)), Int32.add_zero]; exact mOf_no (fun k hk => h k (by omega))
theorem mOf_one {I : Mem} {t w : Nat} : ∀ {m : Nat}, (∀ k, k < m → k ≠ w → ¬ I (t + 2) k = 0) → mOf I t 0 m ≤ 1
  | 0, _ => show (0 : Int32) ≤ 1 by decide
  | m + 1, h => by
    by_cases hm : m = w
    · have e : mOf I t 0 m = 0 := mOf_no (fun k hk => h k (by omega) (by omega))
      rw [mOf, e]
      split <;> decide
    · rw [mOf, if_neg (h m (by omega) hm), Int32.add_zero]
      exact mOf_one (fun k hk q => h k (by omega) q)
theorem pul_leave {I : Mem} {t m w : Nat} {x : Int32} (h : 1 < mOf I t 0 m) : Pul (up2 I (t + 2) w x) t m := by
  rcases Classical.em (Pul (up2 I (t + 2) w x) t m) with q | q
  · exact q
  · refine absurd (mOf_one (I := I) (t := t) (w := w) (m := m) (fun k hk hkw z => q ⟨k, hk, ?_⟩)) (Int32.not_le.mpr h)
    rw [up2_k hkw]
    exact z
/-- the cells of team t that no step writes -/
def PM (t : Nat) : Nat → Nat → Prop := fun b k => b < t ∨ t + 5 < b ∨ (b = t ∧ (k = 0 ∨ k = 3 ∨ k = 4 ∨ 11 ≤ k))
theorem kpm_gain {P : Nat → Nat → Prop} {I : Mem} {t : Nat} {x : Int32} (h : ∀ k, ¬ P (t + 1) k) : ∀ j, Kp P I (dGain I t x j)
  | 0 => Kp.refl
  | j + 1 => by
    unfold dGain
    split
    · exact (kpm_gain h j).up (h j)
    · exact kpm_gain h j
theorem pmN {t b k : Nat} (h : b = t ∧ (k = 1 ∨ k = 2 ∨ (5 ≤ k ∧ k ≤ 10)) ∨ (t < b ∧ b ≤ t + 5)) : ¬ PM t b k := by
  unfold PM
  omega
theorem kpm_lose {I : Mem} {t : Nat} {x : Int32} : ∀ j, Kp (PM t) I (mLose I t x j)
  | 0 => Kp.refl
  | j + 1 => by
    rw [mLose, mLose1]
    split
    · split
      · exact ((kpm_lose j).up (pmN (by omega))).up (pmN (by omega))
      · exact (kpm_lose j).up (pmN (by omega))
    · exact kpm_lose j
theorem kpm_lc {I : Mem} {t : Nat} {x : Int32} : ∀ j, Kp (PM t) I (mLc I t x j)
  | 0 => Kp.refl
  | j + 1 => by
    rw [mLc, mLc1]
    split
    · exact ((kpm_lc j).up (pmN (by omega))).up (pmN (by omega))
    · exact kpm_lc j
theorem kpm_arr {I : Mem} {t m l n s : Nat} : Kp (PM t) I (mArr I t m l n s) := by
  have h0 : Kp (PM t) I (mArr0 I t l s) := ((Kp.refl.up (pmN (by omega))).up (pmN (by omega))).up (pmN (by omega))
  have h1 : Kp (PM t) I (mArr1 (mArr0 I t l s) t m l) := (h0.trans (kpm_lc m)).up (pmN (by omega))
  unfold mArr
  split
  · exact h1.up (pmN (by omega))
  · exact h1
theorem kpm_goW {I : Mem} {g t m l n s : Nat} : Kp (PM t) I (mGoW I g t m l n s) := by
  unfold mGoW
  split
  · exact Kp.refl
  · exact kpm_arr
theorem kpm_goZ {I : Mem} {g t m l n s : Nat} : Kp (PM t) I (mGoZ I g t m l n s) := by
  unfold mGoZ
  split
  · exact Kp.refl.up (pmN (by omega))
  · exact (Kp.refl.up (pmN (by omega))).trans kpm_goW
theorem kpm_goX {I : Mem} {g t m l n s : Nat} {c : Int32} : Kp (PM t) I (mGoX I g t m l n s c) := by
  unfold mGoX mGoY
  exact ((((Kp.refl.up (pmN (by omega))).up (pmN (by omega))).trans (kpm_lose m)).up (pmN (by omega))).trans kpm_goZ
theorem kpm_go {I : Mem} {g t m l n s : Nat} {c : Int32} : Kp (PM t) I (mGo I g t m l n s c) := by
  unfold mGo
  split
  · exact (Kp.refl.up (pmN (by omega))).trans kpm_goX
  · exact kpm_goX
theorem kpm_pauZ {I : Mem} {t m : Nat} {c : Int32} : Kp (PM t) I (mPauZ I t m c) := ((kpm_gain (fun k => pmN (by omega)) m).up (pmN (by omega))).up (pmN (by omega))
theorem kpm_pau {I : Mem} {t m w : Nat} {a c : Int32} : Kp (PM t) I (mPau I t m w a c) := by
  unfold mPau
  split
  · exact ((Kp.refl.up (pmN (by omega))).trans (kpm_gain (fun k => pmN (by omega)) m)).trans kpm_pauZ
  · split
    · exact ((Kp.refl.up (pmN (by omega))).up (pmN (by omega))).trans kpm_pauZ
    · exact kpm_pauZ
theorem kpm_on {I : Mem} {t s : Nat} : Kp (PM t) I (mOn I t s) := by
  unfold mOn
  split
  · exact (Kp.refl.up (pmN (by omega))).up (pmN (by omega))
  · exact Kp.refl
theorem kpm_acts {I : Mem} {g t m w l n s p : Nat} {o : Option Nat} : Kp (PM t) I (mActs I g t m w l n s p o) := by
  unfold mActs
  split
  · exact (Kp.refl.up (pmN (by omega))).trans kpm_go
  · exact (Kp.refl.up (pmN (by omega))).trans kpm_pau
theorem kpm_lead {I : Mem} {g t m w l n s p : Nat} : Kp (PM t) I (mLead I g t m w l n s p) := by
  unfold mLead mLeadZ
  split
  · exact kpm_on.trans kpm_acts
  · exact kpm_on
/-- the leg l, or the next; on only where a dog pulls and a leg is ahead -/
def OnOK (I' : Mem) (t m n : Nat) : Prop := ∃ l', I' t 6 = nI l' ∧ l' ≤ n ∧ (I' t 5 = 0 ∨ I' t 5 = 1 → l' < n ∧ Pul I' t m)
theorem mLose_s {I : Mem} {t : Nat} {x : Int32} (j : Nat) {k : Nat} (h : k ≤ 15) : mLose I t x j t k = I t k := mLose_k (by omega) (by omega) j
theorem mLc_0 {I : Mem} {t : Nat} {p : Int32} {k : Nat} : ∀ j, I (t + 2) k = 0 → mLc I t p j (t + 2) k = 0
  | 0, h => h
  | j + 1, h => by
    have ih := mLc_0 (p := p) j h
    rw [mLc, mLc1]
    split
    · rename_i q
      rw [up2_a (by omega)]
      by_cases hk : k = j
      · subst hk
        rw [ih] at q
        exact absurd q (by decide)
      · rw [up2_k hk]
        exact ih
    · exact ih
theorem on_arr {I : Mem} {t m l n s : Nat} (hln : l < n) (h5 : I t 5 = 1) (hp : Pul I t m) : OnOK (mArr I t m l n s) t m n := by
  have e6 : mArr1 (mArr0 I t l s) t m l t 6 = nI (l + 1) := by
    rw [mArr1, up2_k (by decide), mLc_k (by omega) (by omega), mArr0, up2_a (by omega), up2_k (by decide), up2_same]
  unfold mArr
  split
  · rename_i hn
    refine ⟨l + 1, by rw [up2_k (by decide)]; exact e6, by omega, fun z => ?_⟩
    rw [up2_same] at z
    exact absurd z (by decide)
  · refine ⟨l + 1, e6, by omega, fun _ => ⟨by omega, ?_⟩⟩
    obtain ⟨k, hk, q⟩ := hp
    refine ⟨k, hk, ?_⟩
    rw [mArr1, up2_a (by omega)]
    refine mLc_0 m ?_
    rw [mArr0, up2_a (by omega), up2_a (by omega), up2_a (by omega)]
    exact q
theorem on_goZ {I : Mem} {g t m l n s : Nat} (hln : l < n) (h6 : I t 6 = nI l) (h5 : I t 5 = 1) : OnOK (mGoZ I g t m l n s) t m n := by
  unfold mGoZ
  split
  · refine ⟨l, by rw [up2_k (by decide)]; exact h6, by omega, fun z => ?_⟩
    rw [up2_same] at z
    exact absurd z (by decide)
  · rename_i q
    have hp : Pul (up2 I t 7 (I t 7 + mReach I g t m l)) t m := (mOf_pul q).c (fun k => up2_a (by omega))
    unfold mGoW
    split
    · exact ⟨l, by rw [up2_k (by decide)]; exact h6, by omega, fun _ => ⟨hln, hp⟩⟩
    · exact on_arr hln (by rw [up2_k (by decide)]; exact h5) hp
theorem on_goX {I : Mem} {g t m l n s : Nat} {c : Int32} (hln : l < n) (h6 : I t 6 = nI l) (h5 : I t 5 = 1) : OnOK (mGoX I g t m l n s c) t m n := by
  unfold mGoX mGoY
  refine on_goZ hln ?_ ?_
  · rw [up2_k (by decide), mLose_k (by omega) (by omega), up2_k (by decide), up2_k (by decide)]; exact h6
  · rw [up2_k (by decide), mLose_k (by omega) (by omega), up2_k (by decide), up2_k (by decide)]; exact h5
theorem on_go {I : Mem} {g t m l n s : Nat} {c : Int32} (hln : l < n) (h6 : I t 6 = nI l) (h5 : I t 5 = 1) : OnOK (mGo I g t m l n s c) t m n := by
  unfold mGo
  split
  · exact on_goX hln (by rw [up2_a (by omega)]; exact h6) (by rw [up2_a (by omega)]; exact h5)
  · exact on_goX hln h6 h5
theorem on_pauZ {I : Mem} {t m l n : Nat} {c : Int32} (hln : l < n) (h6 : I t 6 = nI l) (hp : Pul I t m) : OnOK (mPauZ I t m c) t m n := by
  unfold mPauZ
  refine ⟨l, ?_, by omega, fun _ => ⟨hln, hp.c (fun k => ?_)⟩⟩
  · rw [up2_k (by decide), up2_k (by decide), dGain_t (by omega)]; exact h6
  · rw [up2_a (by omega), up2_a (by omega), dGain_t (by omega)]
theorem on_pau {I : Mem} {t m w l n : Nat} {a c : Int32} (hln : l < n) (h6 : I t 6 = nI l) (hp : Pul I t m) : OnOK (mPau I t m w a c) t m n := by
  unfold mPau
  split
  · exact on_pauZ hln (by rw [dGain_t (by omega), up2_k (by decide)]; exact h6) (hp.c (fun k => by rw [dGain_t (by omega), up2_a (by omega)]))
  · split
    · rename_i q
      exact on_pauZ hln (by rw [up2_a (by omega), up2_a (by omega)]; exact h6) ((pul_leave q.2.2).c (fun k => by rw [up2_a (by omega)]))
    · exact on_pauZ hln h6 hp
theorem on_lead {I : Mem} {g t m w l n s p : Nat} (h6 : I t 6 = nI l) (hln : l ≤ n) (hon : I t 5 = 0 ∨ I t 5 = 1 → l < n ∧ Pul I t m) : OnOK (mLead I g t m w l n s p) t m n := by
  unfold mLead
  have k6 : mOn I t s t 6 = nI l := by
    unfold mOn
    split
    · rw [up2_a (by omega), up2_k (by decide)]; exact h6
    · exact h6
  have kp : (mOn I t s t 5 = 0 ∨ mOn I t s t 5 = 1) → l < n ∧ Pul (mOn I t s) t m := by
    unfold mOn
    split
    · rename_i q
      obtain ⟨a, b⟩ := hon (Or.inl q.1)
      exact fun _ => ⟨a, b.c (fun k => by rw [up2_a (by omega), up2_a (by omega)])⟩
    · exact hon
  generalize mOn I t s = I1 at *
  unfold mLeadZ
  split
  · rename_i h5
    obtain ⟨a, b⟩ := kp (Or.inr h5)
    unfold mActs
    split
    · exact on_go a (by rw [up2_k (by decide)]; exact k6) (by rw [up2_k (by decide)]; exact h5)
    · exact on_pau a (by rw [up2_k (by decide)]; exact k6) (b.c (fun k => by rw [up2_a (by omega)]))
  · exact ⟨l, k6, hln, kp⟩
