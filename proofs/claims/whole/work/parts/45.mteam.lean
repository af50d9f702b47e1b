/-! ===== the reference's Team: mean ===== -/
def mMean (I : Mem) (t m : Nat) : Int32 := if mOf I t 0 m = 0 then 0 else dSum I t m / mOf I t 0 m
set_option maxHeartbeats 2000000 in
set_option maxRecDepth 20000 in
/-- SledHouseModel$Team.mean -/
theorem c_mMean {E : Ev} (GE : Glob E) (S : Nat → Option (Nat × Nat)) (I : Nat → Nat → Int32) (V : Nat → Nat → Option Nat) (J : Nat → Nat → Int64) (N : Nat) (t m : Nat) (hT : MtSh S V t) (hm : I t 0 = nI m) (hm6 : m ≤ 16) : Ct E yX12_mean cX12_mean 3 (some .int) (rmL 1) [.ref t] (S, I, V, J, N) (fun v w' => v = some (.int (mMean I t m)) ∧ w' = (S, I, V, J, N)) := by
  refine Ct.start GE (by decide) rfl (Nat.le_of_ble_eq_true rfl) (fun M X => ?_)
  have X : Cx E M RX12 cX12_mean 3 (rmL 1) (some .int) "mean" := X
  refine r_loc (L' := [some (.ref t), none, none]) rfl ?_
  obtain ⟨hs0, v15, v16, v17, v18, v19, v20, v21, v22, v23, s1, s2, s3, s4, s5, s6, s7, s8, s9⟩ := id hT
  have H : ∀ j, j ≤ m → G E M 0 0 (qQ E M (rmL 1) (fun v w' => v = some (.int (mMean I t m)) ∧ w' = (S, I, V, J, N))) 4 [some (.ref t), some (.int (dSum I t j)), some (.int (nI j))] [] (S, I, V, J, N) := by
    refine loopN m (fun j hj ih => ?_)
    refine r_iload_n X dX12_mean_4 rfl rfl ?_
    refine r_aload_n X dX12_mean_5 rfl rfl ?_
    refine r_getI X dX12_mean_6 fX12_39 (by assumption) (by first | assumption | rfl) ?_
    refine r_icmpN_ge (tgt := 40) X dX12_mean_9 (by decide) (by omega) (by omega) (fun h9 => ?_) (fun h9 => ?_)
    · skip
      refine r_aload_n X dX12_mean_40 rfl rfl ?_
      refine r_iconst (v := 0) X dX12_mean_41 (by decide) ?_
      refine q_callV X dX12_mean_42 mX12_89 cwX12_of (c_mOf GE S I V J N t m 0 hT hm hm6) rfl (by assumption) rfl rfl rfl (Nat.le_of_ble_eq_true rfl) ⟨Nat.le_of_ble_eq_true rfl, Nat.le_of_ble_eq_true rfl⟩ ⟨(by first | omega | decide | (simp only [rmL, rmA]; omega)), (by first | omega | decide | (simp only [rmL, rmA]; omega))⟩ ?_
      rintro _ _ ⟨rfl, rfl⟩
      refine r_istore_n X dX12_mean_45 rfl (by decide) rfl ?_
      refine r_iload_n X dX12_mean_46 rfl rfl ?_
      refine r_if_ne (tgt := 54) X dX12_mean_47 (by decide) (fun h47 => ?_) (fun h47 => ?_)
      · skip
        refine r_iload_n X dX12_mean_54 rfl rfl ?_
        refine r_iload_n X dX12_mean_55 rfl rfl ?_
        refine r_idiv X dX12_mean_56 h47 ?_
        refine r_ireturn X dX12_mean_57 rfl (by first | omega | decide | (simp only [rmL, rmA]; omega)) (by first | omega | decide | (simp only [rmL, rmA]; omega)) ?_
        obtain rfl : j = m := by omega
        first
          | exact ⟨by rw [mMean, if_pos h47], rfl⟩
          | exact ⟨by rw [mMean, if_neg h47], rfl⟩
      · skip
        refine r_iconst (v := 0) X dX12_mean_50 (by decide) ?_
        refine r_goto (tgt := 57) X dX12_mean_51 (by decide) ?_
        refine r_ireturn X dX12_mean_57 rfl (by first | omega | decide | (simp only [rmL, rmA]; omega)) (by first | omega | decide | (simp only [rmL, rmA]; omega)) ?_
        obtain rfl : j = m := by omega
        first
          | exact ⟨by rw [mMean, if_pos h47], rfl⟩
          | exact ⟨by rw [mMean, if_neg h47], rfl⟩
    · skip
      refine r_iload_n X dX12_mean_12 rfl rfl ?_
      refine r_aload_n X dX12_mean_13 rfl rfl ?_
      refine r_getR X dX12_mean_14 fX12_15 (by assumption) (by assumption) ?_
      refine r_iload_n X dX12_mean_17 rfl rfl ?_
      refine r_ialdN X dX12_mean_18 (by assumption) (by omega) (by omega) (by first | assumption | rfl) ?_
      refine r_if_ne (tgt := 31) X dX12_mean_19 (by decide) (fun h19 => ?_) (fun h19 => ?_)
      · skip
        refine r_iconst (v := 0) X dX12_mean_31 (by decide) ?_
        have e : ∀ y : Int32, dSum I t j + y = dSum I t (j + 1) → G E M 0 0 (qQ E M (rmL 1) (fun v w' => v = some (.int (mMean I t m)) ∧ w' = (S, I, V, J, N))) 32 [some (.ref t), some (.int (dSum I t j)), some (.int (nI j))] [.int y, .int (dSum I t j)] (S, I, V, J, N) := fun y hy => by
          refine r_iadd X dX12_mean_32 ?_
          refine r_topi (dSum I t (j + 1)) hy ?_
          refine r_istore_n X dX12_mean_33 rfl (by decide) rfl ?_
          first | refine r_iincN X dX12_mean_34 rfl (by decide) rfl ?_ | refine r_iinc X dX12_mean_34 rfl rfl (by decide) rfl ?_
          refine r_goto (tgt := 4) X dX12_mean_37 (by decide) ?_
          exact ih (by omega)
        first
          | exact e _ (by rw [dSum, if_pos h19])
          | exact e 0 (by rw [dSum, if_neg h19, Int32.add_zero])
      · skip
        refine r_aload_n X dX12_mean_22 rfl rfl ?_
        refine r_getR X dX12_mean_23 fX12_9 (by assumption) (by assumption) ?_
        refine r_iload_n X dX12_mean_26 rfl rfl ?_
        refine r_ialdN X dX12_mean_27 (by assumption) (by omega) (by omega) (by first | assumption | rfl) ?_
        refine r_goto (tgt := 32) X dX12_mean_28 (by decide) ?_
        have e : ∀ y : Int32, dSum I t j + y = dSum I t (j + 1) → G E M 0 0 (qQ E M (rmL 1) (fun v w' => v = some (.int (mMean I t m)) ∧ w' = (S, I, V, J, N))) 32 [some (.ref t), some (.int (dSum I t j)), some (.int (nI j))] [.int y, .int (dSum I t j)] (S, I, V, J, N) := fun y hy => by
          refine r_iadd X dX12_mean_32 ?_
          refine r_topi (dSum I t (j + 1)) hy ?_
          refine r_istore_n X dX12_mean_33 rfl (by decide) rfl ?_
          first | refine r_iincN X dX12_mean_34 rfl (by decide) rfl ?_ | refine r_iinc X dX12_mean_34 rfl rfl (by decide) rfl ?_
          refine r_goto (tgt := 4) X dX12_mean_37 (by decide) ?_
          exact ih (by omega)
        first
          | exact e _ (by rw [dSum, if_pos h19])
          | exact e 0 (by rw [dSum, if_neg h19, Int32.add_zero])
  refine r_iconst (v := 0) X dX12_mean_0 (by decide) ?_
  refine r_istore_n X dX12_mean_1 rfl (by decide) rfl ?_
  refine r_iconst (v := nI 0) X dX12_mean_2 (by decide) ?_
  refine r_istore_n X dX12_mean_3 rfl (by decide) rfl ?_
  exact H 0 (by omega)
