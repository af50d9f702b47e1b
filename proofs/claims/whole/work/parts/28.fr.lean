/-! ===== what a team's step keeps ===== -/
def Kp (P : Nat → Nat → Prop) (I I' : Mem) : Prop := ∀ b k, P b k → I' b k = I b k
theorem Kp.refl {P : Nat → Nat → Prop} {I : Mem} : Kp P I I := fun _ _ _ => rfl
theorem Kp.trans {P : Nat → Nat → Prop} {I I1 I2 : Mem} (h : Kp P I I1) (g : Kp P I1 I2) : Kp P I I2 := fun b k p => (g b k p).trans (h b k p)
theorem Kp.up {P : Nat → Nat → Prop} {I I1 : Mem} {a k : Nat} {x : Int32} (g : Kp P I I1) (h : ¬ P a k) : Kp P I (up2 I1 a k x) := fun b j p => by
  unfold up2
  rw [if_neg (by rintro ⟨rfl, rfl⟩; exact h p)]
  exact g b j p
theorem Kp.mono {P P' : Nat → Nat → Prop} {I I1 : Mem} (g : Kp P I I1) (h : ∀ b k, P' b k → P b k) : Kp P' I I1 := fun b k p => g b k (h b k p)
/-- what a step of team t keeps but for its leg -/
def P0 (t b k : Nat) : Prop := b < t ∨ t + 9 < b ∨ (t + 5 ≤ b ∧ b ≤ t + 7) ∨ (b = t ∧ k ≤ 7) ∨ (b = t + 1 ∧ k = 3)
def P1 (t b k : Nat) : Prop := P0 t b k ∨ (b = t ∧ k = 10)
def DKp (P : Nat → Nat → Prop) (d : Nat) : Prop := (∀ k, ¬ P (d + 1) k) ∧ (∀ k, ¬ P (d + 2) k) ∧ (∀ k, ¬ P (d + 3) k) ∧ ¬ P d 4 ∧ ¬ P d 5
theorem dkp0 (t : Nat) : DKp (P0 t) (t + 1) := by
  unfold DKp P0
  refine ⟨fun k => ?_, fun k => ?_, fun k => ?_, ?_, ?_⟩ <;> omega
theorem dkp1 (t : Nat) : DKp (P1 t) (t + 1) := by
  unfold DKp P1 P0
  refine ⟨fun k => ?_, fun k => ?_, fun k => ?_, ?_, ?_⟩ <;> omega
section DK
variable {P : Nat → Nat → Prop} {I I1 : Mem} {d : Nat}
theorem kp_dGain (h : DKp P d) (x : Int32) : ∀ j, Kp P I (dGain I d x j)
  | 0 => Kp.refl
  | j + 1 => by
    unfold dGain
    split
    · exact (kp_dGain h x j).up (h.1 j)
    · exact kp_dGain h x j
theorem kp_dLose1 (h : DKp P d) (x : Int32) (j : Nat) : Kp P I (dLose1 I d j x) := by
  unfold dLose1
  split
  · split
    · exact (((Kp.refl.up (h.1 j)).up (h.2.1 j)).up h.2.2.2.1).up h.2.2.2.2
    · exact Kp.refl.up (h.1 j)
  · exact Kp.refl
theorem kp_dLose (h : DKp P d) (x : Int32) : ∀ j, Kp P I (dLose I d x j)
  | 0 => Kp.refl
  | j + 1 => (kp_dLose h x j).trans (kp_dLose1 h x j)
theorem kp_dLeaveW (h : DKp P d) (m : Nat) (p : Int32) : Kp P I (dLeaveW I d m p) := by
  unfold dLeaveW
  split
  · exact Kp.refl
  · exact ((Kp.refl.up (h.2.1 _)).up (h.2.2.1 _)).up h.2.2.2.1
theorem kp_dLc (h : DKp P d) (p : Int32) : ∀ j, Kp P I (dLc I d p j)
  | 0 => Kp.refl
  | j + 1 => by
    unfold dLc
    split
    · refine (kp_dLc h p j).trans ?_
      unfold dLc1
      split
      · exact ((Kp.refl.up (h.2.1 _)).up (h.2.2.1 _)).up h.2.2.2.2
      · exact Kp.refl
    · exact kp_dLc h p j
end DK
section TK
variable {I : Mem} {t : Nat}
theorem np1 {k : Nat} (h : 8 ≤ k) (h' : k ≠ 10) : ¬ P1 t t k := by unfold P1 P0; omega
theorem np8 {k : Nat} : ¬ P1 t (t + 8) k := by unfold P1 P0; omega
theorem np9 {k : Nat} : ¬ P1 t (t + 9) k := by unfold P1 P0; omega
theorem p10 {b k : Nat} (h : P0 t b k) : P1 t b k := Or.inl h
theorem kp_pauseZ (m : Nat) (deg : Int32) : Kp (P1 t) I (tPauseZ I t m deg) := ((kp_dGain (dkp1 t) _ m).up (np1 (by decide) (by decide))).up (np1 (by decide) (by decide))
theorem kp_pause (m : Nat) (act deg : Int32) : Kp (P1 t) I (tPause I t m act deg) := by
  unfold tPause
  split
  · exact ((Kp.refl.up (np1 (by decide) (by decide))).trans (kp_dGain (dkp1 t) _ m)).trans (kp_pauseZ m deg)
  · split
    · exact (kp_dLeaveW (dkp1 t) m _).trans (kp_pauseZ m deg)
    · exact kp_pauseZ m deg
theorem kp_arrive (m l n : Nat) (x : Int32) : Kp (P0 t) I (tArrive I t m l n x) := by
  have h : Kp (P0 t) I (dLc (up2 (up2 (up2 I t 10 (nI (l + 1))) t 11 0) (t + 8) (l + 1) x) (t + 1) (nI (l + 1)) m) :=
    (((Kp.refl.up (by unfold P0; omega)).up (by unfold P0; omega)).up (by unfold P0; omega)).trans (kp_dLc (dkp0 t) _ m)
  unfold tArrive
  split
  · exact h
  · exact h.up (by unfold P0; omega)
theorem leg_arrive (m l n : Nat) (x : Int32) : tArrive I t m l n x t 10 = nI (l + 1) := by
  have h : dLc (up2 (up2 (up2 I t 10 (nI (l + 1))) t 11 0) (t + 8) (l + 1) x) (t + 1) (nI (l + 1)) m t 10 = nI (l + 1) := by
    rw [kp_dLc (dkp1 t) _ m t 10 (Or.inr ⟨rfl, rfl⟩), up2_a (by omega), up2_k (by decide), up2_same]
  unfold tArrive
  split
  · exact h
  · rw [up2_k (by decide)]; exact h
theorem kp_go (r m n l s : Nat) : Kp (P0 t) I (tGo I t r m n l s) ∧ (tGo I t r m n l s t 10 = I t 10 ∨ tGo I t r m n l s t 10 = nI (l + 1)) := by
  have hz : ∀ (I : Mem) h, Kp (P0 t) I (tGoZ I t r m n l s h) ∧ (tGoZ I t r m n l s h t 10 = I t 10 ∨ tGoZ I t r m n l s h t 10 = nI (l + 1)) := by
    intro I h
    unfold tGoZ
    split
    · exact ⟨Kp.refl.up (by unfold P0; omega), Or.inl (up2_k (by decide))⟩
    · split
      · exact ⟨Kp.refl.up (by unfold P0; omega), Or.inl (up2_k (by decide))⟩
      · exact ⟨(Kp.refl.up (by unfold P0; omega)).trans (kp_arrive m l n _), Or.inr (leg_arrive m l n _)⟩
  have hx : ∀ (I : Mem) h, Kp (P0 t) I (tGoX I t r m n l s h) ∧ (tGoX I t r m n l s h t 10 = I t 10 ∨ tGoX I t r m n l s h t 10 = nI (l + 1)) := by
    intro I h
    have k1 : Kp (P1 t) I (dLose (up2 (up2 I t 12 (I t 12 + 1)) t 13 0) (t + 1) (6 + tLoad (up2 (up2 I t 12 (I t 12 + 1)) t 13 0) t / 40 + h / 25 + tHeat ((up2 (up2 I t 12 (I t 12 + 1)) t 13 0) (r + 4) (s / 6))) m) :=
      ((Kp.refl.up (np1 (by decide) (by decide))).up (np1 (by decide) (by decide))).trans (kp_dLose (dkp1 t) _ m)
    have k2 := hz (dLose (up2 (up2 I t 12 (I t 12 + 1)) t 13 0) (t + 1) (6 + tLoad (up2 (up2 I t 12 (I t 12 + 1)) t 13 0) t / 40 + h / 25 + tHeat ((up2 (up2 I t 12 (I t 12 + 1)) t 13 0) (r + 4) (s / 6))) m) h
    rw [k1 t 10 (Or.inr ⟨rfl, rfl⟩)] at k2
    exact ⟨(k1.mono (fun _ _ => p10)).trans k2.1, k2.2⟩
  unfold tGo
  split
  · have k2 := hx (up2 I (t + 9) l (nI s)) (I (r + 2) l)
    rw [up2_a (by omega)] at k2
    exact ⟨(Kp.refl.up (by unfold P0; omega)).trans k2.1, k2.2⟩
  · exact hx I _
theorem kp_step (r p m n l s nr : Nat) : Kp (P0 t) I (tStep I t r p m n l s nr) ∧ (tStep I t r p m n l s nr t 10 = I t 10 ∨ (l < n ∧ tStep I t r p m n l s nr t 10 = nI (l + 1))) := by
  have hz : ∀ I : Mem, Kp (P0 t) I (tStepZ I t r p m n l s nr) ∧ (tStepZ I t r p m n l s nr t 10 = I t 10 ∨ (l < n ∧ tStepZ I t r p m n l s nr t 10 = nI (l + 1))) := by
    intro I
    unfold tStepZ
    split
    · next q =>
      unfold tActs
      have k1 : Kp (P1 t) I (up2 I t 14 (rI (pRule I p t r m n l s nr))) := Kp.refl.up (np1 (by decide) (by decide))
      split
      · have k2 := kp_go (I := up2 I t 14 (rI (pRule I p t r m n l s nr))) (t := t) r m n l s
        rw [k1 t 10 (Or.inr ⟨rfl, rfl⟩)] at k2
        exact ⟨(k1.mono (fun _ _ => p10)).trans k2.1, k2.2.imp id (fun z => ⟨q.2, z⟩)⟩
      · have k2 := k1.trans (kp_pause m (pAct (up2 I t 14 (rI (pRule I p t r m n l s nr))) p (pRule I p t r m n l s nr)) (up2 I t 14 (rI (pRule I p t r m n l s nr)) (r + 4) (s / 6)))
        exact ⟨k2.mono (fun _ _ => p10), Or.inl (k2 t 10 (Or.inr ⟨rfl, rfl⟩))⟩
    · exact ⟨Kp.refl, Or.inl rfl⟩
  have k1 : Kp (P1 t) I (tOn I t s) := by
    unfold tOn
    split
    · exact (Kp.refl.up (np1 (by decide) (by decide))).up np8
    · exact Kp.refl
  have k2 := hz (tOn I t s)
  rw [k1 t 10 (Or.inr ⟨rfl, rfl⟩)] at k2
  exact ⟨(k1.mono (fun _ _ => p10)).trans k2.1, k2.2⟩
end TK
def tMm (I : Mem) (t : Nat) : Nat := (I (t + 1) 3).toNatClampNeg
def tGm (I : Mem) (t : Nat) : Nat := (I (t + 5) 2).toNatClampNeg
def rN (I : Mem) (r : Nat) : Nat := (I r 4).toNatClampNeg
def pN (I : Mem) (p : Nat) : Nat := (I p 6).toNatClampNeg
/-- the numbers of team t within their bounds, on a trail of n legs -/
def TmOK (I : Mem) (t n : Nat) : Prop := I (t + 1) 3 = nI (tMm I t) ∧ tMm I t ≤ 16 ∧ I t 10 = nI (tL I t) ∧ tL I t ≤ n ∧ I (t + 5) 2 = nI (tGm I t) ∧ tGm I t ≤ 4
def tStp (I : Mem) (t r p s : Nat) : Mem := tStep I t r p (tMm I t) (rN I r) (tL I t) s (pN I p)
theorem kp_stp {I : Mem} {t : Nat} (r p s : Nat) : Kp (P0 t) I (tStp I t r p s) := (kp_step r p _ _ _ s _).1
theorem TmOK.keep {I I' : Mem} {t n : Nat} (h : TmOK I t n) (h1 : I' (t + 1) 3 = I (t + 1) 3) (h2 : I' t 10 = I t 10) (h3 : I' (t + 5) 2 = I (t + 5) 2) : TmOK I' t n := by
  have e1 : tMm I' t = tMm I t := by unfold tMm; rw [h1]
  have e2 : tL I' t = tL I t := by unfold tL; rw [h2]
  have e3 : tGm I' t = tGm I t := by unfold tGm; rw [h3]
  unfold TmOK
  rw [e1, e2, e3, h1, h2, h3]
  exact h
theorem TmOK.stp {I : Mem} {t n : Nat} (h : TmOK I t n) (hn : n ≤ 12) (r p s : Nat) (hr : I r 4 = nI n) : TmOK (tStp I t r p s) t n := by
  have hk := kp_step (I := I) (t := t) r p (tMm I t) (rN I r) (tL I t) s (pN I p)
  have e1 : tStp I t r p s (t + 1) 3 = I (t + 1) 3 := hk.1 _ _ (by unfold P0; omega)
  have e3 : tStp I t r p s (t + 5) 2 = I (t + 5) 2 := hk.1 _ _ (by unfold P0; omega)
  rcases hk.2 with e2 | ⟨hl, e2⟩
  · exact h.keep e1 e2 e3
  · have hN : rN I r = n := by unfold rN; rw [hr, nI_clamp (by omega)]
    have f1 : tMm (tStp I t r p s) t = tMm I t := by unfold tMm; rw [e1]
    have f2 : tL (tStp I t r p s) t = tL I t + 1 := by
      have : tL (tStp I t r p s) t = (nI (tL I t + 1)).toNatClampNeg := by unfold tL at e2 ⊢; rw [← e2]; rfl
      rw [this, nI_clamp (by omega)]
    have f3 : tGm (tStp I t r p s) t = tGm I t := by unfold tGm; rw [e3]
    obtain ⟨a1, a2, a3, a4, a5, a6⟩ := h
    refine ⟨?_, ?_, ?_, ?_, ?_, ?_⟩
    · rw [e1, f1]; exact a1
    · rw [f1]; exact a2
    · rw [f2]; exact e2
    · rw [f2]; omega
    · rw [e3, f3]; exact a5
    · rw [f3]; exact a6
