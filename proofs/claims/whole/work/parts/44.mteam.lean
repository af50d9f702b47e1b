/-! ===== the reference's Team ===== -/
def MtSh (S : Nat → Option (Nat × Nat)) (V : Nat → Nat → Option Nat) (t : Nat) : Prop := S t = some (11, 0) ∧ V t 15 = some (t + 1) ∧ V t 16 = some (t + 2) ∧ V t 17 = some (t + 3) ∧ V t 18 = some (t + 4) ∧ V t 19 = some (t + 5) ∧ V t 20 = some (t + 6) ∧ V t 21 = some (t + 7) ∧ V t 22 = some (t + 8) ∧ V t 23 = some (t + 9) ∧ S (t + 1) = some (100, 16) ∧ S (t + 2) = some (100, 16) ∧ S (t + 3) = some (100, 16) ∧ S (t + 4) = some (100, 13) ∧ S (t + 5) = some (100, 13) ∧ S (t + 6) = some (100, 2000) ∧ S (t + 7) = some (100, 2000) ∧ S (t + 8) = some (100, 4) ∧ S (t + 9) = some (100, 4)
def mOf (I : Mem) (t : Nat) (x : Int32) : Nat → Int32
  | 0 => 0
  | j + 1 => mOf I t x j + (if I (t + 2) j = x then 1 else 0)
set_option maxHeartbeats 2000000 in
set_option maxRecDepth 20000 in
/-- SledHouseModel$Team.of -/
theorem c_mOf {E : Ev} (GE : Glob E) (S : Nat → Option (Nat × Nat)) (I : Nat → Nat → Int32) (V : Nat → Nat → Option Nat) (J : Nat → Nat → Int64) (N : Nat) (t m : Nat) (x : Int32) (hT : MtSh S V t) (hm : I t 0 = nI m) (hm6 : m ≤ 16) : Ct E yX12_of cX12_of 4 (some .int) (rmL 0) [.ref t, .int x] (S, I, V, J, N) (fun v w' => v = some (.int (mOf I t x m)) ∧ w' = (S, I, V, J, N)) := by
  refine Ct.start GE (by decide) rfl (Nat.le_of_ble_eq_true rfl) (fun M X => ?_)
  have X : Cx E M RX12 cX12_of 4 (rmL 0) (some .int) "of" := X
  refine r_loc (L' := [some (.ref t), some (.int x), none, none]) rfl ?_
  obtain ⟨hs0, v15, v16, v17, v18, v19, v20, v21, v22, v23, s1, s2, s3, s4, s5, s6, s7, s8, s9⟩ := id hT
  have H : ∀ j, j ≤ m → G E M 0 0 (qQ E M (rmL 0) (fun v w' => v = some (.int (mOf I t x m)) ∧ w' = (S, I, V, J, N))) 4 [some (.ref t), some (.int x), some (.int (mOf I t x j)), some (.int (nI j))] [] (S, I, V, J, N) := by
    refine loopN m (fun j hj ih => ?_)
    refine r_iload_n X dX12_of_4 rfl rfl ?_
    refine r_aload_n X dX12_of_5 rfl rfl ?_
    refine r_getI X dX12_of_6 fX12_39 (by assumption) (by first | assumption | rfl) ?_
    refine r_icmpN_ge (tgt := 36) X dX12_of_9 (by decide) (by omega) (by omega) (fun h9 => ?_) (fun h9 => ?_)
    · skip
      refine r_iload_n X dX12_of_36 rfl rfl ?_
      refine r_ireturn X dX12_of_37 rfl (by first | omega | decide | (simp only [rmL, rmA]; omega)) (by first | omega | decide | (simp only [rmL, rmA]; omega)) ?_
      obtain rfl : j = m := by omega
      exact ⟨rfl, rfl⟩
    · skip
      refine r_iload_n X dX12_of_12 rfl rfl ?_
      refine r_aload_n X dX12_of_13 rfl rfl ?_
      refine r_getR X dX12_of_14 fX12_15 (by assumption) (by assumption) ?_
      refine r_iload_n X dX12_of_17 rfl rfl ?_
      refine r_ialdN X dX12_of_18 (by assumption) (by omega) (by omega) (by first | assumption | rfl) ?_
      refine r_iload_n X dX12_of_19 rfl rfl ?_
      refine r_icmp_ne (tgt := 27) X dX12_of_20 (by decide) (fun h20 => ?_) (fun h20 => ?_)
      · skip
        refine r_iconst (v := 0) X dX12_of_27 (by decide) ?_
        have e : ∀ y : Int32, y = (if I (t + 2) j = x then 1 else 0) → mOf I t x j + y = mOf I t x (j + 1) := fun y hy => by rw [mOf, hy]
        refine r_iadd X dX12_of_28 ?_
        refine r_topi (mOf I t x (j + 1)) (by first | exact e 1 (by rw [if_pos h20]) | exact e 0 (by rw [if_neg h20])) ?_
        refine r_istore_n X dX12_of_29 rfl (by decide) rfl ?_
        first | refine r_iincN X dX12_of_30 rfl (by decide) rfl ?_ | refine r_iinc X dX12_of_30 rfl rfl (by decide) rfl ?_
        refine r_goto (tgt := 4) X dX12_of_33 (by decide) ?_
        exact ih (by omega)
      · skip
        refine r_iconst (v := 1) X dX12_of_23 (by decide) ?_
        refine r_goto (tgt := 28) X dX12_of_24 (by decide) ?_
        have e : ∀ y : Int32, y = (if I (t + 2) j = x then 1 else 0) → mOf I t x j + y = mOf I t x (j + 1) := fun y hy => by rw [mOf, hy]
        refine r_iadd X dX12_of_28 ?_
        refine r_topi (mOf I t x (j + 1)) (by first | exact e 1 (by rw [if_pos h20]) | exact e 0 (by rw [if_neg h20])) ?_
        refine r_istore_n X dX12_of_29 rfl (by decide) rfl ?_
        first | refine r_iincN X dX12_of_30 rfl (by decide) rfl ?_ | refine r_iinc X dX12_of_30 rfl rfl (by decide) rfl ?_
        refine r_goto (tgt := 4) X dX12_of_33 (by decide) ?_
        exact ih (by omega)
  refine r_iconst (v := 0) X dX12_of_0 (by decide) ?_
  refine r_istore_n X dX12_of_1 rfl (by decide) rfl ?_
  refine r_iconst (v := nI 0) X dX12_of_2 (by decide) ?_
  refine r_istore_n X dX12_of_3 rfl (by decide) rfl ?_
  exact H 0 (by omega)
