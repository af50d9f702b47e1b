/-! ===== phase 2: states of teams and dogs; the relation of two teams ===== -/
/-- states of a team and of its dogs -/
def StD (I : Mem) (u m : Nat) : Prop := (I u 5 = 0 ∨ I u 5 = 1 ∨ I u 5 = 2 ∨ I u 5 = 3) ∧ ∀ k, k < m → I (u + 2) k = 0 ∨ I (u + 2) k = 1 ∨ I (u + 2) k = 2
theorem StD.c {I I1 : Mem} {u m : Nat} (h : StD I u m) (h5 : I1 u 5 = I u 5) (h2 : ∀ k, k < m → I1 (u + 2) k = I (u + 2) k) : StD I1 u m := ⟨by rw [h5]; exact h.1, fun k hk => by rw [h2 k hk]; exact h.2 k hk⟩
theorem StD.u {I : Mem} {u m b k : Nat} {x : Int32} (h : StD I u m) (hb : ¬ (b = u ∧ k = 5)) (hb2 : b ≠ u + 2) : StD (up2 I b k x) u m := h.c (by unfold up2; rw [if_neg (by omega)]) (fun j hj => up2_a (by omega))
theorem StD.s {I : Mem} {u m : Nat} {x : Int32} (h : StD I u m) (hx : x = 0 ∨ x = 1 ∨ x = 2 ∨ x = 3) : StD (up2 I u 5 x) u m := ⟨by rw [up2_same]; exact hx, fun k hk => by rw [up2_a (by omega)]; exact h.2 k hk⟩
theorem StD.d {I : Mem} {u m w : Nat} {x : Int32} (h : StD I u m) (hx : x = 0 ∨ x = 1 ∨ x = 2) : StD (up2 I (u + 2) w x) u m := ⟨by rw [up2_a (by omega)]; exact h.1, fun k hk => by
  by_cases hw : k = w
  · subst hw
    rw [up2_same]; exact hx
  · rw [up2_k hw]; exact h.2 k hk⟩
theorem std_lose {I : Mem} {u m : Nat} {x : Int32} (h : StD I u m) : ∀ j, StD (mLose I u x j) u m
  | 0 => h
  | j + 1 => by
    have ih := std_lose (x := x) h j
    rw [mLose, mLose1]
    split
    · split
      · exact (ih.u (by omega) (by omega)).d (Or.inr (Or.inl rfl))
      · exact ih.u (by omega) (by omega)
    · exact ih
theorem std_lc {I : Mem} {u m : Nat} {x : Int32} (h : StD I u m) : ∀ j, StD (mLc I u x j) u m
  | 0 => h
  | j + 1 => by
    have ih := std_lc (x := x) h j
    rw [mLc, mLc1]
    split
    · exact (ih.d (Or.inr (Or.inr rfl))).u (by omega) (by omega)
    · exact ih
theorem std_gain {I : Mem} {u m : Nat} {x : Int32} (h : StD I u m) (j : Nat) : StD (dGain I u x j) u m := h.c (dGain_t (by omega) j) (fun k _ => dGain_t (by omega) j)
theorem std_goZ {I : Mem} {g u m l n s : Nat} (h : StD I u m) : StD (mGoZ I g u m l n s) u m := by
  rw [mGoZ]
  split
  · exact h.s (Or.inr (Or.inr (Or.inr rfl)))
  · rw [mGoW]
    have h1 : StD (up2 I u 7 (I u 7 + mReach I g u m l)) u m := h.u (by omega) (by omega)
    generalize up2 I u 7 (I u 7 + mReach I g u m l) = A at *
    split
    · exact h1
    · have h2 : StD (mArr1 (mArr0 A u l s) u m l) u m := by
        rw [mArr1]
        refine (std_lc ?_ m).u (by omega) (by omega)
        rw [mArr0]
        exact ((h1.u (by omega) (by omega)).u (by omega) (by omega)).u (by omega) (by omega)
      rw [mArr]
      split
      · exact h2.s (Or.inr (Or.inr (Or.inl rfl)))
      · exact h2
theorem std_goX {I : Mem} {g u m l n s : Nat} {c : Int32} (h : StD I u m) : StD (mGoX I g u m l n s c) u m := by
  rw [mGoX, mGoY]
  exact std_goZ ((std_lose ((h.u (by omega) (by omega)).u (by omega) (by omega)) m).u (by omega) (by omega))
theorem std_pauZ {I : Mem} {u m : Nat} {c : Int32} (h : StD I u m) : StD (mPauZ I u m c) u m := by
  rw [mPauZ]
  exact ((std_gain h m).u (by omega) (by omega)).u (by omega) (by omega)
theorem std_lead {I : Mem} {g u m w l n s q : Nat} (h : StD I u m) : StD (mLead I g u m w l n s q) u m := by
  have key : ∀ A : Mem, StD A u m → StD (mLeadZ A g u m w l n s q) u m := by
    intro A hA
    rw [mLeadZ]
    split
    · generalize mRule A g u m w l s q = o
      have hB : StD (up2 A u 10 (rI o)) u m := hA.u (by omega) (by omega)
      rw [mActs]
      split
      · rw [mGo]
        split
        · exact std_goX (hB.u (by omega) (by omega))
        · exact std_goX hB
      · rw [mPau]
        split
        · exact std_pauZ (std_gain (hB.u (by omega) (by omega)) m)
        · split
          · exact std_pauZ ((hB.d (Or.inr (Or.inr rfl))).u (by omega) (by omega))
          · exact std_pauZ hB
    · exact hA
  rw [mLead, mOn]
  split
  · exact key _ ((h.s (Or.inr (Or.inl rfl))).u (by omega) (by omega))
  · exact key _ h
theorem TR.keep {I I' I1 I1' : Mem} {t u m : Nat} (h : TR I I' t u m) (hc : ∀ b k, t ≤ b → b ≤ t + 9 → I1 b k = I b k) (hm : ∀ b k, (b = u ∧ k ≠ 1 ∧ k ≠ 11) ∨ (u + 1 ≤ b ∧ b ≤ u + 5) ∨ (u + 8 ≤ b ∧ b ≤ u + 9) → I1' b k = I' b k) : TR I1 I1' t u m := by
  obtain ⟨⟨m1, m2, m3⟩, ⟨f4, f5, f6, f7, f8, f9, f10, f11, f12, f13, f14⟩, hD, hC, hG, hGs⟩ := h
  have c0 : ∀ k, I1 t k = I t k := fun k => hc _ _ (by omega) (by omega)
  have u0 : ∀ k, k ≠ 1 → k ≠ 11 → I1' u k = I' u k := fun k z1 z2 => hm _ _ (by omega)
  have eg : mG I1' u = mG I' u := by rw [mG, mG, u0 _ (by decide) (by decide)]
  refine ⟨⟨(hc _ _ (by omega) (by omega)).trans m1, (u0 _ (by decide) (by decide)).trans m2, m3⟩, ?_, hD.keep (hc _ _ (by omega) (by omega)) (hc _ _ (by omega) (by omega)) (fun b k h1 h2 _ => hc _ _ (by omega) (by omega)) (fun b k h1 h2 _ => hm _ _ (by omega)), fun k hk => ?_, ?_, fun k hk => ?_⟩
  · rw [c0, c0, c0, c0, c0, c0, c0, c0, c0, c0, c0, u0 _ (by decide) (by decide), u0 _ (by decide) (by decide), u0 _ (by decide) (by decide), u0 _ (by decide) (by decide), u0 _ (by decide) (by decide), u0 _ (by decide) (by decide), u0 _ (by decide) (by decide), u0 _ (by decide) (by decide), u0 _ (by decide) (by decide), u0 _ (by decide) (by decide), u0 _ (by decide) (by decide)]
    exact ⟨f4, f5, f6, f7, f8, f9, f10, f11, f12, f13, f14⟩
  · rw [hc _ _ (by omega) (by omega), hc _ _ (by omega) (by omega), hm _ _ (by omega), hm _ _ (by omega)]
    exact hC k hk
  · rw [hc _ _ (by omega) (by omega), u0 _ (by decide) (by decide)]; exact hG
  · rw [eg] at hk
    rw [hc _ _ (by omega) (by omega), hc _ _ (by omega) (by omega), hm _ _ (by omega), hm _ _ (by omega)]
    exact hGs k hk
def StaOK (I : Mem) (u : Nat) : Prop := ∃ st, st ≤ 100 ∧ I u 3 = nI st
/-- all that stands between team t of the class and team u of the reference -/
def TmR (I I' : Mem) (t u n np s : Nat) : Prop := ∃ m, 0 < m ∧ TR I I' t u m ∧ tLoad I t = I' u 1 ∧ StrOK I' u m ∧ FarOK I' u ∧ (StD I' u m ∧ StaOK I' u) ∧ MtG I' u n np s
theorem TmR.keep {I I' I1 I1' : Mem} {t u n np s : Nat} (h : TmR I I' t u n np s) (hc : ∀ b k, t ≤ b → b ≤ t + 9 → I1 b k = I b k) (hm : ∀ b k, (u ≤ b ∧ b ≤ u + 5) ∨ (u + 8 ≤ b ∧ b ≤ u + 9) → I1' b k = I' b k) : TmR I1 I1' t u n np s := by
  obtain ⟨m, m0, h1, h2, h3, ⟨f, f1, f2⟩, ⟨h5, st, st1, st2⟩, h6⟩ := h
  refine ⟨m, m0, h1.keep hc (fun b k z => hm b k (by omega)), ?_, fun k hk => by rw [hm _ _ (by omega)]; exact h3 k hk, ⟨f, f1, by rw [hm _ _ (by omega)]; exact f2⟩, ⟨h5.c (hm _ _ (by omega)) (fun k _ => hm _ _ (by omega)), st, st1, by rw [hm _ _ (by omega)]; exact st2⟩, h6.far (fun b k z1 z2 => hm _ _ (by omega))⟩
  unfold tLoad
  rw [hc _ _ (by omega) (by omega), hc _ _ (by omega) (by omega), hm _ _ (by omega)]
  exact h2
