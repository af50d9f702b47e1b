/-! ===== Plan.readTests ===== -/
/-- what reading keeps: all but the tape's object and the plan's cells -/
def PR (a p b k : Nat) : Prop := b ≠ a ∧ (b < p ∨ p + 6 < b ∨ (p + 1 ≤ b ∧ b ≤ p + 3) ∨ (b = p ∧ k = 6))
theorem kp_adv {a p : Nat} {I : Mem} : Kp (PR a p) I (adv I a) := fun b k q => adv_o q.1
theorem kp_fail {a p : Nat} {I : Mem} {x : Int32} : Kp (PR a p) I (tFail I a x) := fun b k q => (up2_a q.1).trans (up2_a q.1)
theorem npr {a p d t : Nat} (h4 : 4 ≤ d) (h6 : d ≤ 6) : ¬ PR a p (p + d) t := by unfold PR; omega
theorem kp_test {I : Mem} {a p t x : Nat} : Kp (PR a p) I (rdTest I a p t x).2 := by
  have h2 : ∀ I : Mem, Kp (PR a p) I (rdTest2 I a p t).2 := by
    intro I
    unfold rdTest2
    split
    · exact ((Kp.refl.up (npr (by omega) (by omega))).up (by unfold PR; omega)).trans kp_adv
    · exact kp_fail
  have h1 : ∀ (I : Mem) nm, Kp (PR a p) I (rdTest1 I a p t nm).2 := by
    intro I nm
    unfold rdTest1
    split
    · exact (((Kp.refl.up (npr (by omega) (by omega))).up (npr (by omega) (by omega))).trans kp_adv).trans (h2 _)
    · exact kp_fail
  unfold rdTest
  split
  · exact kp_fail
  · split
    · exact kp_fail
    · exact kp_adv.trans (h1 _ _)
theorem ok_test {I : Mem} {a p t x : Nat} (h : (rdTest I a p t x).1 = true) (hK : TkOK I a) (hap : a + 1 < p) : TkOK (rdTest I a p t x).2 a ∧ (rdTest I a p t x).2 p 7 = nI (t + 1) ∧ t < 48 ∧ x < 4 := by
  have h2 : ∀ I : Mem, TkOK I a → (rdTest2 I a p t).1 = true → TkOK (rdTest2 I a p t).2 a ∧ (rdTest2 I a p t).2 p 7 = nI (t + 1) := by
    intro I hK h
    unfold rdTest2 at h ⊢
    split at h
    · next q =>
      rw [if_pos q]
      exact ⟨(hK.keep ((up2_a (by omega)).trans (up2_a (by omega))) ((up2_a (by omega)).trans (up2_a (by omega))) ((up2_a (by omega)).trans (up2_a (by omega)))).adv, (adv_o (by omega)).trans (up2_same _ _ _ _)⟩
    · cases h
  have h1 : ∀ (I : Mem) nm, TkOK I a → (rdTest1 I a p t nm).1 = true → TkOK (rdTest1 I a p t nm).2 a ∧ (rdTest1 I a p t nm).2 p 7 = nI (t + 1) := by
    intro I nm hK h
    unfold rdTest1 at h ⊢
    split at h
    · next q =>
      rw [if_pos q]
      exact h2 _ (hK.keep ((up2_a (by omega)).trans (up2_a (by omega))) ((up2_a (by omega)).trans (up2_a (by omega))) ((up2_a (by omega)).trans (up2_a (by omega)))).adv h
    · cases h
  unfold rdTest at h ⊢
  split at h
  · cases h
  · next q =>
    rw [if_neg q]
    split at h
    · cases h
    · next q2 =>
      rw [if_neg q2]
      have := h1 _ _ hK.adv h
      exact ⟨this.1, this.2, by omega, by omega⟩
def rdTs (I : Mem) (a p t x : Nat) : Nat → Bool × Mem
  | 0 => (true, I)
  | f + 1 => if (rdTest (adv I a) a p t x).1 = true then (if isW (rdTest (adv I a) a p t x).2 a kw_and = true then rdTs (rdTest (adv I a) a p t x).2 a p (t + 1) (x + 1) f else (true, (rdTest (adv I a) a p t x).2)) else (false, (rdTest (adv I a) a p t x).2)
def rdTests (I : Mem) (a p t : Nat) : Bool × Mem := rdTs I a p t 0 5
set_option maxHeartbeats 2000000 in
set_option maxRecDepth 20000 in
/-- SledHouse$Plan.readTests -/
theorem c_rdTests {E : Ev} (GE : Glob E) (S : Nat → Option (Nat × Nat)) (I : Nat → Nat → Int32) (V : Nat → Nat → Option Nat) (J : Nat → Nat → Int64) (N : Nat) (p a t : Nat) (hZ : Strs E) (hP : PlanSh S V p) (hT : TapeSh S V a) (hK : TkOK I a) (ht : I p 7 = nI t) (ht48 : t ≤ 48) (hap : a + 1 < p) : Ct E yX4_readTests cX4_readTests 4 (some .boolean) (rmL 7) [.ref p, .ref a] (S, I, V, J, N) (fun v w' => v = some (.int (bI (rdTests I a p t).1)) ∧ w' = (S, (rdTests I a p t).2, V, J, N)) := by
  refine Ct.start GE (by decide) rfl (Nat.le_of_ble_eq_true rfl) (fun M X => ?_)
  have X : Cx E M RX4 cX4_readTests 4 (rmL 7) (some .boolean) "readTests" := X
  refine r_loc (L' := [some (.ref p), some (.ref a), none, none]) rfl ?_
  have ts0 := hT.1
  have hs0 := hP.1
  have H : ∀ x, x ≤ 5 → ∀ (m : Bool) (I1 : Mem) (u : Nat), TkOK I1 a → I1 p 7 = nI u → u ≤ 48 → rdTests I a p t = (if m = true then rdTs I1 a p u x (5 - x) else (true, I1)) → G E M 0 0 (qQ E M (rmL 7) (fun v w' => v = some (.int (bI (rdTests I a p t).1)) ∧ w' = (S, (rdTests I a p t).2, V, J, N))) 4 [some (.ref p), some (.ref a), some (.int (bI m)), some (.int (nI x))] [] (S, I1, V, J, N) := by
    refine loopN 5 (fun x hx ih => ?_)
    intro m I1 u hK1 hu hu48 he
    have hu1 : adv I1 a p 7 = nI u := (adv_o (by omega)).trans hu
    rcases Nat.lt_or_ge x 5 with z | z
    · skip
      have e5 : 5 - x = (5 - (x + 1)) + 1 := by omega
      cases m with
      | false =>
        rw [if_neg (by decide)] at he
        rw [he]
        refine r_loc (L' := [some (.ref p), some (.ref a), some (.int 0), some (.int (nI x))]) rfl ?_
        refine r_iload_n X dX4_readTests_4 rfl rfl ?_
        refine r_iconst (v := nI 4) X dX4_readTests_5 (by decide) ?_
        refine r_icmpN_gt (tgt := 41) X dX4_readTests_6 (by decide) (by omega) (by omega) (fun h6 => ?_) (fun h6 => ?_)
        · skip
          refine r_iconst (v := 1) X dX4_readTests_41 (by decide) ?_
          refine r_ireturn X dX4_readTests_42 rfl (by first | omega | decide | (simp only [rmL, rmA]; omega)) (by first | omega | decide | (simp only [rmL, rmA]; omega)) ?_
          exact ⟨rfl, rfl⟩
        · skip
          refine r_iload_n X dX4_readTests_9 rfl rfl ?_
          refine r_if_eq (tgt := 41) X dX4_readTests_10 (by decide) (fun h10 => ?_) (fun h10 => ?_)
          · skip
            refine r_iconst (v := 1) X dX4_readTests_41 (by decide) ?_
            refine r_ireturn X dX4_readTests_42 rfl (by first | omega | decide | (simp only [rmL, rmA]; omega)) (by first | omega | decide | (simp only [rmL, rmA]; omega)) ?_
            exact ⟨rfl, rfl⟩
          · skip
            exact absurd rfl h10
      | true =>
        rw [if_pos rfl, e5, rdTs] at he
        refine r_loc (L' := [some (.ref p), some (.ref a), some (.int 1), some (.int (nI x))]) rfl ?_
        refine r_iload_n X dX4_readTests_4 rfl rfl ?_
        refine r_iconst (v := nI 4) X dX4_readTests_5 (by decide) ?_
        refine r_icmpN_gt (tgt := 41) X dX4_readTests_6 (by decide) (by omega) (by omega) (fun h6 => ?_) (fun h6 => ?_)
        · skip
          omega
        · skip
          refine r_iload_n X dX4_readTests_9 rfl rfl ?_
          refine r_if_eq (tgt := 41) X dX4_readTests_10 (by decide) (fun h10 => ?_) (fun h10 => ?_)
          · skip
            exact absurd h10 (by decide)
          · skip
            refine r_aload_n X dX4_readTests_13 rfl rfl ?_
            refine q_callV X dX4_readTests_14 mX4_68 cwX7_advance (c_advK GE S I1 V J N a hT hK1) rfl (by assumption) rfl rfl rfl (Nat.le_of_ble_eq_true rfl) ⟨Nat.le_of_ble_eq_true rfl, Nat.le_of_ble_eq_true rfl⟩ ⟨(by first | omega | decide | (simp only [rmL, rmA]; omega)), (by first | omega | decide | (simp only [rmL, rmA]; omega))⟩ ?_
            rintro _ _ ⟨rfl, rfl⟩
            refine r_aload_n X dX4_readTests_17 rfl rfl ?_
            refine r_aload_n X dX4_readTests_18 rfl rfl ?_
            refine r_iload_n X dX4_readTests_19 rfl rfl ?_
            refine q_callV X dX4_readTests_20 mX4_71 cwX4_readTest (c_rdTest GE S _ V J N p a u x hZ hP hT hK1.adv hu1 hu48 (by omega) hap) rfl (by assumption) rfl rfl rfl (Nat.le_of_ble_eq_true rfl) ⟨Nat.le_of_ble_eq_true rfl, Nat.le_of_ble_eq_true rfl⟩ ⟨(by first | omega | decide | (simp only [rmL, rmA]; omega)), (by first | omega | decide | (simp only [rmL, rmA]; omega))⟩ ?_
            rintro _ _ ⟨rfl, rfl⟩
            refine r_if_ne (tgt := 28) X dX4_readTests_23 (by decide) (fun h23 => ?_) (fun h23 => ?_)
            · skip
              have g1 := bI_1 h23
              have g2 := ok_test g1 hK1.adv hap
              rw [if_pos g1] at he
              refine r_aload_n X dX4_readTests_28 rfl rfl ?_
              refine r_ldcS X dX4_readTests_29 (sX4_75 hZ) (fun u29 hu29 => ?_)
              refine q_callV X dX4_readTests_31 mX4_57 cwX7_isWord (c_isW GE S _ V J N a _ kw_and hZ hT g2.1 (by assumption)) rfl (by assumption) rfl rfl rfl (Nat.le_of_ble_eq_true rfl) ⟨Nat.le_of_ble_eq_true rfl, Nat.le_of_ble_eq_true rfl⟩ ⟨(by first | omega | decide | (simp only [rmL, rmA]; omega)), (by first | omega | decide | (simp only [rmL, rmA]; omega))⟩ ?_
              rintro _ _ ⟨rfl, rfl⟩
              refine r_istore_n X dX4_readTests_34 rfl (by decide) rfl ?_
              first | refine r_iincN X dX4_readTests_35 rfl (by decide) rfl ?_ | refine r_iinc X dX4_readTests_35 rfl rfl (by decide) rfl ?_
              refine r_goto (tgt := 4) X dX4_readTests_38 (by decide) ?_
              exact ih z _ _ (u + 1) g2.1 g2.2.1 (by omega) he
            · skip
              refine r_iconst (v := 0) X dX4_readTests_26 (by decide) ?_
              refine r_ireturn X dX4_readTests_27 rfl (by first | omega | decide | (simp only [rmL, rmA]; omega)) (by first | omega | decide | (simp only [rmL, rmA]; omega)) ?_
              rw [if_neg (by rw [bI_0 h23]; decide)] at he
              rw [he]
              exact ⟨rfl, rfl⟩
    · skip
      obtain rfl : x = 5 := by omega
      have he2 : rdTests I a p t = (true, I1) := by
        rw [he]
        cases m <;> rfl
      rw [he2]
      refine r_iload_n X dX4_readTests_4 rfl rfl ?_
      refine r_iconst (v := nI 4) X dX4_readTests_5 (by decide) ?_
      refine r_icmpN_gt (tgt := 41) X dX4_readTests_6 (by decide) (by omega) (by omega) (fun h6 => ?_) (fun h6 => ?_)
      · skip
        refine r_iconst (v := 1) X dX4_readTests_41 (by decide) ?_
        refine r_ireturn X dX4_readTests_42 rfl (by first | omega | decide | (simp only [rmL, rmA]; omega)) (by first | omega | decide | (simp only [rmL, rmA]; omega)) ?_
        exact ⟨rfl, rfl⟩
      · skip
        omega
  refine r_iconst (v := 1) X dX4_readTests_0 (by decide) ?_
  refine r_istore_n X dX4_readTests_1 rfl (by decide) rfl ?_
  refine r_iconst (v := nI 0) X dX4_readTests_2 (by decide) ?_
  refine r_istore_n X dX4_readTests_3 rfl (by decide) rfl ?_
  exact H 0 (by omega) true I t hK ht ht48 rfl
