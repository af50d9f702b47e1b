/-! ===== phase 2: run ===== -/
section RUN3
variable {S : Nat → Option (Nat × Nat)} {V : Nat → Nat → Option Nat} {N : Nat} {I I' : Mem} {h g n c s e np k z : Nat}
theorem can_eq {J : Nat → Nat → Int64} {u : Nat} (H : RelA S V N I I' h g n c s e np k z) : canW h c u (S, I, V, J, N) = !(mOver I' g c u) := by
  have key : ∀ j, j ≤ c → ((List.range j).any fun i => !tThrough I (h + 9 + 7 + 10 * i)) = mAny I' g j := by
    intro j
    induction j with
    | zero => intro _; rfl
    | succ j ih =>
      intro hj
      rw [List.range_succ, List.any_append, ih (by omega), mAny]
      obtain ⟨m, m0, t1, t2, t3, t4, t5, t6⟩ := H.tm (show j < c by omega)
      have f8 : I (h + 9 + 7 + 10 * j) 8 = I' (mt g j) 5 := t1.2.1.2.2.2.2.1
      congr 1
      simp only [List.any_cons, List.any_nil, Bool.or_false]
      rw [tThrough, f8]
      rcases t5.1.1 with w | w | w | w <;> rw [w] <;> decide
  show rCan I (h + 9) c u = _
  rw [rCan, mOver, key c (Nat.le_refl _)]
  rcases Nat.lt_or_ge u 2000 with w | w
  · rw [decide_eq_true w, show decide (2000 ≤ u) = false from decide_eq_false (by omega)]
    cases mAny I' g c <;> rfl
  · rw [show decide (u < 2000) = false from decide_eq_false (by omega), decide_eq_true w]
    cases mAny I' g c <;> rfl
/-- m steps -/
theorem run_n {w : Wd} (H : RelW w I' h g n c s e np k z) : ∀ m, s + m ≤ 2000 → RelW (runW h c e s w m) (mRunN I' g c e n s m) h g n c (s + m) e np k z ∧ (∀ b j, g ≤ b → b < g + 148 → (runW h c e s w m).2.1 b j = w.2.1 b j) ∧ (runW h c e s w m).2.1 (h + 1) 7 = w.2.1 (h + 1) 7 ∧ mRunN I' g c e n s m g 3 = I' g 3
  | 0, _ => ⟨H, fun _ _ _ _ => rfl, rfl, rfl⟩
  | m + 1, hm => by
    obtain ⟨h1, h2, h3, h4⟩ := run_n H m (by omega)
    rw [runW, mRunN]
    generalize runW h c e s w m = w1 at *
    generalize mRunN I' g c e n s m = M at *
    obtain ⟨S1, I1, V1, J1, N1⟩ := w1
    obtain ⟨a1, a2, a3, a4, a5⟩ := one_sim (J := J1) h1 (by omega)
    exact ⟨a1, fun b j y1 y2 => (a2 b j y1 y2).trans (h2 b j y1 y2), a3.trans h3, a4.trans h4⟩
theorem fst1_le {f : Nat → Bool} {m : Nat} : (fst1 f m).getD m ≤ m := by
  rcases h : fst1 f m with _ | j
  · exact Nat.le_refl _
  · exact Nat.le_of_lt (fst1_spec h).1
theorem runk_eq {J : Nat → Nat → Int64} {m : Nat} (H : RelA S V N I I' h g n c s e np k z) : runK h c e s (S, I, V, J, N) m = mRunK I' g c e n s m ∧ s + mRunK I' g c e n s m ≤ 2000 := by
  have s20 : s ≤ 2000 := H.2.2.1.1.2.2.2.1
  have key : ∀ j, s + j ≤ 2000 → (!canW h c (s + j) (runW h c e s (S, I, V, J, N) j)) = mOver (mRunN I' g c e n s j) g c (s + j) := fun j hj => by
    have := (run_n (w := (S, I, V, J, N)) H j hj).1
    generalize runW h c e s (S, I, V, J, N) j = w1 at *
    obtain ⟨S1, I1, V1, J1, N1⟩ := w1
    rw [can_eq (J := J1) this, Bool.not_not]
  have hend : mOver (mRunN I' g c e n s (2000 - s)) g c (s + (2000 - s)) = true := by
    rw [mOver, show s + (2000 - s) = 2000 by omega, show decide (2000 ≤ 2000) = true from rfl, Bool.or_true]
  unfold runK mRunK
  rcases h2 : fst1 (fun k => mOver (mRunN I' g c e n s k) g c (s + k)) m with _ | j
  · have hm : s + m ≤ 2000 := by
      rcases Nat.lt_or_ge 2000 (s + m) with w | w
      · have := fst1_nn h2 (2000 - s) (by omega)
        rw [hend] at this; cases this
      · exact w
    have : fst1 (fun k => !canW h c (s + k) (runW h c e s (S, I, V, J, N) k)) m = none := fst1_none (fun q hq => by
      rw [key q (by omega)]
      exact fst1_nn h2 q hq)
    rw [this]
    exact ⟨rfl, hm⟩
  · obtain ⟨b1, b2, b3⟩ := fst1_spec h2
    have hj : s + j ≤ 2000 := by
      rcases Nat.lt_or_ge 2000 (s + j) with w | w
      · have := b3 (2000 - s) (by omega)
        rw [hend] at this; cases this
      · exact w
    have : fst1 (fun k => !canW h c (s + k) (runW h c e s (S, I, V, J, N) k)) m = some j := fst1_some (by
      rw [key j hj]; exact b2) (fun q hq => by
      rw [key q (by omega)]
      exact b3 q hq) b1
    rw [this]
    exact ⟨rfl, hj⟩
abbrev RelV (w : Wd) (I' : Mem) (h g n c s e np k z : Nat) : Prop := Rel w.1 w.2.2.1 w.2.2.2.2 w.2.1 I' h g n c s e np k z
theorem do_run {J : Nat → Nat → Int64} (H : Rel S V N I I' h g n c s e np k z) (x : Int32) : (hRun h c e s (S, I, V, J, N) x).1 = (mRun I' g c e n s x).1 ∧ (∃ s1, RelV (hRun h c e s (S, I, V, J, N) x).2 (mRun I' g c e n s x).2 h g n c s1 e np k z) ∧ ∀ b j, g ≤ b → b < g + 148 → (hRun h c e s (S, I, V, J, N) x).2.2.1 b j = I b j := by
  obtain ⟨H, T1, T2, T3⟩ := H
  have hgh := H.mn
  rw [hRun, mRun, can_eq H]
  rcases ho : mOver I' g c s with _ | _
  · rw [if_pos (show (!false) = true from rfl), if_neg (show ¬ (false = true) by decide)]
    by_cases hb : inB x 1 500 = true
    · rw [if_pos hb, if_pos hb, (runk_eq H).1]
      have hle := (runk_eq (J := J) (m := x.toNatClampNeg) H).2
      generalize mRunK I' g c e n s x.toNatClampNeg = m at *
      obtain ⟨h1, h2, h3, h4⟩ := run_n (w := (S, I, V, J, N)) H m hle
      refine ⟨rfl, ⟨s + m, ?_⟩, ?_⟩
      · generalize runW h c e s (S, I, V, J, N) m = w1 at *
        obtain ⟨S1, I1, V1, J1, N1⟩ := w1
        exact rel_trb h1 (h3.trans (T2.trans h4.symm)) (by decide)
      · intro b j y1 y2
        generalize runW h c e s (S, I, V, J, N) m = w1 at *
        obtain ⟨S1, I1, V1, J1, N1⟩ := w1
        exact (up2_f (by omega)).trans (h2 b j y1 y2)
    · rw [if_neg hb, if_neg hb]
      exact ⟨rfl, ⟨s, rel_trb H T2 (by decide)⟩, fun b j y1 y2 => up2_f (by omega)⟩
  · rw [if_neg (show ¬ (!true) = true by decide), if_pos (show true = true from rfl)]
    exact ⟨rfl, ⟨s, rel_trb H T2 (by decide)⟩, fun b j y1 y2 => up2_f (by omega)⟩
end RUN3
