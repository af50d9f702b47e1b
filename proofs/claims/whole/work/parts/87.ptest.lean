/-! ===== phase 2: a test of a plan ===== -/
theorem test_sim {I : Mem} {K : MJ} {a g p t r x : Nat} (h : TkR I K a g) (hap : a + 1 < p) (hx : x ≤ 4) (ht : x < 4 → t < 48) :
    (rdTest I a p t x).1 = (rT K g r x).1 ∧
    ((rdTest I a p t x).1 = true → x < 4 ∧ TkR (rdTest I a p t x).2 (rT K g r x).2 a g ∧ ∃ (nm : Nat) (b : Bool) (v : Int32), nm ≤ 10 ∧
      (∀ c k, c ≠ a → (rdTest I a p t x).2 c k = up2 (up2 (up2 (up2 I (p + 4) t (nI nm)) (p + 6) t (bI b)) (p + 5) t v) p 7 (nI (t + 1)) c k) ∧
      (∀ c k, c ≠ g → c ≠ g + 19 → (rT K g r x).2.1 c k = up2 (up2 (up2 (up2 K.1 (g + 24) (4 * r + x) (nI nm)) (g + 26) (4 * r + x) (bI (!b))) (g + 25) (4 * r + x) v) (g + 23) r (nI (x + 1)) c k)) ∧
    ((rdTest I a p t x).1 = false → FlR (rdTest I a p t x).2 (rT K g r x).2 a g) := by
  have h5 := h.1.2.2.2.2
  generalize hC : rdTest I a p t x = C
  generalize hM : rT K g r x = M
  rw [rdTest] at hC
  rw [rT, ← wName_eq h, ← wAct_eq h, ← isW_eq h (show kwOK kw_when = true by decide), ← isW_eq h (show kwOK kw_and = true by decide)] at hM
  have fin : ∀ (x1 : Int32) (I1 : Mem) (K1 : MJ), (false, tFail I1 a x1) = C → (false, stp K1 g x1) = M → I1 a 5 = K1.1 g 27 → C.1 = M.1 ∧ (C.1 = true → x < 4 ∧ TkR C.2 M.2 a g ∧ ∃ (nm : Nat) (b : Bool) (v : Int32), nm ≤ 10 ∧ (∀ c k, c ≠ a → C.2 c k = up2 (up2 (up2 (up2 I (p + 4) t (nI nm)) (p + 6) t (bI b)) (p + 5) t v) p 7 (nI (t + 1)) c k) ∧ (∀ c k, c ≠ g → c ≠ g + 19 → M.2.1 c k = up2 (up2 (up2 (up2 K.1 (g + 24) (4 * r + x) (nI nm)) (g + 26) (4 * r + x) (bI (!b))) (g + 25) (4 * r + x) v) (g + 23) r (nI (x + 1)) c k)) ∧ (C.1 = false → FlR C.2 M.2 a g) := by
    intro x1 I1 K1 e1 e2 e3
    subst e1
    subst e2
    exact ⟨rfl, fun z => (by cases z), fun _ => fl_of e3⟩
  by_cases hn : wName (isW I a) = -1
  · rw [if_pos hn] at hC
    by_cases hc : I a 4 = 1 ∧ ¬ (isW I a kw_when = true ∨ isW I a kw_and = true ∨ ¬ wAct (isW I a) = -1)
    · have hc2 : K.1 g 26 = 2 ∧ isW I a kw_when = false ∧ isW I a kw_and = false ∧ wAct (isW I a) = -1 := by
        refine ⟨(tk_sort2 h).mpr hc.1, ?_, ?_, ?_⟩
        · rcases hq : isW I a kw_when with _ | _
          · rfl
          · exact absurd (Or.inl hq) hc.2
        · rcases hq : isW I a kw_and with _ | _
          · rfl
          · exact absurd (Or.inr (Or.inl hq)) hc.2
        · rcases Classical.em (wAct (isW I a) = -1) with q | q
          · exact q
          · exact absurd (Or.inr (Or.inr q)) hc.2
      rw [if_pos hc2, if_pos hn] at hM
      rw [if_pos hc] at hC
      exact fin _ _ _ hC hM h5
    · have hc2 : ¬ (K.1 g 26 = 2 ∧ isW I a kw_when = false ∧ isW I a kw_and = false ∧ wAct (isW I a) = -1) := by
        rintro ⟨q1, q2, q3, q4⟩
        refine hc ⟨(tk_sort2 h).mp q1, ?_⟩
        rintro (z | z | z)
        · exact absurd (q2.symm.trans z) (by decide)
        · exact absurd (q3.symm.trans z) (by decide)
        · exact z q4
      rw [if_neg hc2] at hM
      rw [if_neg hc] at hC
      exact fin _ _ _ hC hM h5
  · obtain ⟨n1, n2, n3, n4⟩ := nm_no hn
    rw [if_neg hn] at hC
    rw [if_pos ⟨(tk_sort2 h).mpr n1, n2, n3, n4⟩, if_neg hn] at hM
    by_cases hx4 : x = 4
    · rw [if_pos (Or.inl (by omega))] at hC
      rw [if_pos hx4] at hM
      exact fin _ _ _ hC hM h5
    · have hx5 : x < 4 := by omega
      have ht5 := ht hx5
      rw [if_neg (by omega)] at hC
      rw [if_neg hx4] at hM
      obtain ⟨nm, hnm, enm⟩ := wName_le _ hn
      rw [enm] at hC hM
      have hk0 : TkR I (up2 K.1 (g + 24) (4 * r + x) (nI nm), K.2) a g := h.keep (fun k _ => rfl) rfl (fun k _ _ => up2_a (by omega)) (by funext k; exact up2_a (by omega)) rfl
      have h1 := adv_sim hk0 (by rw [n1]; decide)
      have c1 : ∀ c k, c ≠ a → adv I a c k = I c k := fun c k hc => adv_o hc
      have m1 : ∀ c k, c ≠ g → (nxt (up2 K.1 (g + 24) (4 * r + x) (nI nm), K.2) g).1 c k = up2 K.1 (g + 24) (4 * r + x) (nI nm) c k := fun c k hc => nxt_o (K := (up2 K.1 (g + 24) (4 * r + x) (nI nm), K.2)) (Or.inl hc)
      generalize adv I a = I1 at *
      generalize nxt (up2 K.1 (g + 24) (4 * r + x) (nI nm), K.2) g = K1 at *
      obtain ⟨i1, i2, i3⟩ := tk_is h1
      rw [rdTest1] at hC
      rw [rT1] at hM
      by_cases h34 : I1 a 4 = 3 ∨ I1 a 4 = 4
      · have h34' : mIs K1.1 g 60 = true ∨ mIs K1.1 g 62 = true := h34.elim (fun z => Or.inl (i1.mpr z)) (fun z => Or.inr (i2.mpr z))
        rw [if_pos h34] at hC
        rw [if_pos h34'] at hM
        obtain ⟨b, hb1, hb2⟩ : ∃ b : Bool, (if I1 a 4 = 4 then (1 : Int32) else 0) = bI b ∧ bI (mIs K1.1 g 60) = bI (!b) := by
          rcases h34 with z | z
          · exact ⟨false, by rw [if_neg (by rw [z]; decide)]; rfl, by rw [i1.mpr z]; rfl⟩
          · refine ⟨true, by rw [if_pos z]; rfl, ?_⟩
            have : mIs K1.1 g 60 = false := by
              rcases hq : mIs K1.1 g 60 with _ | _
              · rfl
              · exact absurd ((i1.mp hq).symm.trans z) (by decide)
            rw [this]; rfl
        rw [hb1] at hC
        rw [hb2] at hM
        have hk1 : TkR (up2 (up2 I1 (p + 4) t (nI nm)) (p + 6) t (bI b)) (up2 K1.1 (g + 26) (4 * r + x) (bI (!b)), K1.2) a g := h1.keep (fun k _ => (up2_a (by omega)).trans (up2_a (by omega))) (by funext k; exact (up2_a (by omega)).trans (up2_a (by omega))) (fun k _ _ => up2_a (by omega)) (by funext k; exact up2_a (by omega)) rfl
        have h2 := adv_sim hk1 (by rw [up2_a (by omega), up2_a (by omega)]; rcases h34 with z | z <;> rw [z] <;> decide)
        have c2 : ∀ c k, c ≠ a → adv (up2 (up2 I1 (p + 4) t (nI nm)) (p + 6) t (bI b)) a c k = up2 (up2 I1 (p + 4) t (nI nm)) (p + 6) t (bI b) c k := fun c k hc => adv_o hc
        have m2 : ∀ c k, c ≠ g → (nxt (up2 K1.1 (g + 26) (4 * r + x) (bI (!b)), K1.2) g).1 c k = up2 K1.1 (g + 26) (4 * r + x) (bI (!b)) c k := fun c k hc => nxt_o (K := (up2 K1.1 (g + 26) (4 * r + x) (bI (!b)), K1.2)) (Or.inl hc)
        generalize adv (up2 (up2 I1 (p + 4) t (nI nm)) (p + 6) t (bI b)) a = I2 at *
        generalize nxt (up2 K1.1 (g + 26) (4 * r + x) (bI (!b)), K1.2) g = K2 at *
        rw [rdTest2] at hC
        rw [rT2] at hM
        by_cases h2k : I2 a 4 = 2
        · have h2k' : K2.1 g 26 = 3 := (tk_sort3 h2).mpr h2k
          rw [if_pos h2k] at hC
          rw [if_pos h2k'] at hM
          obtain ⟨hv, -⟩ := h2.2.1.2.2.1 h2k
          have hk2 : TkR (up2 (up2 I2 (p + 5) t (I2 a 6)) p 7 (nI (t + 1))) K2 a g := h2.keep (fun k _ => (up2_a (by omega)).trans (up2_a (by omega))) (by funext k; exact (up2_a (by omega)).trans (up2_a (by omega))) (fun k _ _ => rfl) rfl rfl
          have h3 := adv_sim hk2 (by rw [up2_a (by omega), up2_a (by omega), h2k]; decide)
          subst hC
          subst hM
          refine ⟨rfl, fun _ => ⟨hx5, ?_, nm, b, I2 a 6, hnm, fun c k hc => ?_, fun c k hc hc2 => ?_⟩, fun z => (by cases z)⟩
          · exact h3.keep (fun k _ => rfl) rfl (fun k _ _ => (up2_a (by omega)).trans (up2_a (by omega))) (by funext k; exact (up2_a (by omega)).trans (up2_a (by omega))) rfl
          · show adv (up2 (up2 I2 (p + 5) t (I2 a 6)) p 7 (nI (t + 1))) a c k = _
            rw [adv_o hc]
            simp only [up2, c2 c k hc, c1 c k hc]
          · show up2 (up2 (nxt K2 g).1 (g + 25) (4 * r + x) (K2.1 g 29)) (g + 23) r (nI (x + 1)) c k = _
            rw [hv]
            have e9 : (nxt K2 g).1 c k = K2.1 c k := nxt_o (Or.inl hc)
            simp only [up2, e9, m2 c k hc, m1 c k hc]
        · rw [if_neg h2k] at hC
          rw [if_neg (fun z => h2k ((tk_sort3 h2).mp z))] at hM
          exact fin _ _ _ hC hM h2.1.2.2.2.2
      · have h34' : ¬ (mIs K1.1 g 60 = true ∨ mIs K1.1 g 62 = true) := fun z => h34 (z.elim (fun q => Or.inl (i1.mp q)) (fun q => Or.inr (i2.mp q)))
        rw [if_neg h34] at hC
        rw [if_neg h34'] at hM
        exact fin _ _ _ hC hM h1.1.2.2.2.2
