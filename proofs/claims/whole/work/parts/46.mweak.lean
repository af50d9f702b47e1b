/-! ===== the reference's Team: weakest ===== -/
set_option maxHeartbeats 2000000 in
set_option maxRecDepth 20000 in
/-- SledHouseModel$Team.weakest -/
theorem c_mWeak {E : Ev} (GE : Glob E) (S : Nat → Option (Nat × Nat)) (I : Nat → Nat → Int32) (V : Nat → Nat → Option Nat) (J : Nat → Nat → Int64) (N : Nat) (t m : Nat) (hT : MtSh S V t) (hm : I t 0 = nI m) (hm6 : m ≤ 16) : Ct E yX12_weakest cX12_weakest 3 (some .int) (rmL 0) [.ref t] (S, I, V, J, N) (fun v w' => v = some (.int (oI (dWeak I t m))) ∧ w' = (S, I, V, J, N)) := by
  refine Ct.start GE (by decide) rfl (Nat.le_of_ble_eq_true rfl) (fun M X => ?_)
  have X : Cx E M RX12 cX12_weakest 3 (rmL 0) (some .int) "weakest" := X
  refine r_loc (L' := [some (.ref t), none, none]) rfl ?_
  obtain ⟨hs0, v15, v16, v17, v18, v19, v20, v21, v22, v23, s1, s2, s3, s4, s5, s6, s7, s8, s9⟩ := id hT
  refine r_iconst (v := -1) X dX12_weakest_0 (by decide) ?_
  refine r_istore_n X dX12_weakest_1 rfl (by decide) rfl ?_
  refine r_iconst (v := nI 0) X dX12_weakest_2 (by decide) ?_
  refine r_istore_n X dX12_weakest_3 rfl (by decide) rfl ?_
  have H : ∀ j, j ≤ m → G E M 0 0 (qQ E M (rmL 0) (fun v w' => v = some (.int (oI (dWeak I t m))) ∧ w' = (S, I, V, J, N))) 4 [some (.ref t), some (.int (oI (dWeak I t j))), some (.int (nI j))] [] (S, I, V, J, N) := by
    refine loopN m (fun j hj ih => ?_)
    rcases hw : dWeak I t j with _ | wk
    · refine r_loc (L' := [some (.ref t), some (.int (-1)), some (.int (nI j))]) rfl ?_
      refine r_iload_n X dX12_weakest_4 rfl rfl ?_
      refine r_aload_n X dX12_weakest_5 rfl rfl ?_
      refine r_getI X dX12_weakest_6 fX12_39 (by assumption) (by first | assumption | rfl) ?_
      refine r_icmpN_ge (tgt := 49) X dX12_weakest_9 (by decide) (by omega) (by omega) (fun h9 => ?_) (fun h9 => ?_)
      · skip
        refine r_iload_n X dX12_weakest_49 rfl rfl ?_
        refine r_ireturn X dX12_weakest_50 rfl (by first | omega | decide | (simp only [rmL, rmA]; omega)) (by first | omega | decide | (simp only [rmL, rmA]; omega)) ?_
        obtain rfl : j = m := by omega
        exact ⟨by rw [hw]; rfl, rfl⟩
      · skip
        refine r_aload_n X dX12_weakest_12 rfl rfl ?_
        refine r_getR X dX12_weakest_13 fX12_15 (by assumption) (by assumption) ?_
        refine r_iload_n X dX12_weakest_16 rfl rfl ?_
        refine r_ialdN X dX12_weakest_17 (by assumption) (by omega) (by omega) (by first | assumption | rfl) ?_
        refine r_if_ne (tgt := 43) X dX12_weakest_18 (by decide) (fun h18 => ?_) (fun h18 => ?_)
        · skip
          first | refine r_iincN X dX12_weakest_43 rfl (by decide) rfl ?_ | refine r_iinc X dX12_weakest_43 rfl rfl (by decide) rfl ?_
          refine r_goto (tgt := 4) X dX12_weakest_46 (by decide) ?_
          exact r_loc (by simp [dWeak, hw, h18, oI]) (ih (by omega))
        · skip
          refine r_iload_n X dX12_weakest_21 rfl rfl ?_
          refine r_iconst (v := -1) X dX12_weakest_22 (by decide) ?_
          refine r_icmp_eq (tgt := 41) X dX12_weakest_23 (by decide) (fun h23 => ?_) (fun h23 => ?_)
          · skip
            refine r_iload_n X dX12_weakest_41 rfl rfl ?_
            refine r_istore_n X dX12_weakest_42 rfl (by decide) rfl ?_
            first | refine r_iincN X dX12_weakest_43 rfl (by decide) rfl ?_ | refine r_iinc X dX12_weakest_43 rfl rfl (by decide) rfl ?_
            refine r_goto (tgt := 4) X dX12_weakest_46 (by decide) ?_
            exact r_loc (by simp [dWeak, hw, h18, oI]) (ih (by omega))
          · skip
            exact absurd rfl h23
    · have hwl := dWeak_lt I t j wk hw
      refine r_loc (L' := [some (.ref t), some (.int (nI wk)), some (.int (nI j))]) rfl ?_
      refine r_iload_n X dX12_weakest_4 rfl rfl ?_
      refine r_aload_n X dX12_weakest_5 rfl rfl ?_
      refine r_getI X dX12_weakest_6 fX12_39 (by assumption) (by first | assumption | rfl) ?_
      refine r_icmpN_ge (tgt := 49) X dX12_weakest_9 (by decide) (by omega) (by omega) (fun h9 => ?_) (fun h9 => ?_)
      · skip
        refine r_iload_n X dX12_weakest_49 rfl rfl ?_
        refine r_ireturn X dX12_weakest_50 rfl (by first | omega | decide | (simp only [rmL, rmA]; omega)) (by first | omega | decide | (simp only [rmL, rmA]; omega)) ?_
        obtain rfl : j = m := by omega
        exact ⟨by rw [hw]; rfl, rfl⟩
      · skip
        refine r_aload_n X dX12_weakest_12 rfl rfl ?_
        refine r_getR X dX12_weakest_13 fX12_15 (by assumption) (by assumption) ?_
        refine r_iload_n X dX12_weakest_16 rfl rfl ?_
        refine r_ialdN X dX12_weakest_17 (by assumption) (by omega) (by omega) (by first | assumption | rfl) ?_
        refine r_if_ne (tgt := 43) X dX12_weakest_18 (by decide) (fun h18 => ?_) (fun h18 => ?_)
        · skip
          first | refine r_iincN X dX12_weakest_43 rfl (by decide) rfl ?_ | refine r_iinc X dX12_weakest_43 rfl rfl (by decide) rfl ?_
          refine r_goto (tgt := 4) X dX12_weakest_46 (by decide) ?_
          exact r_loc (by first | (simp [dWeak, hw, h18, oI]; done) | (simp [dWeak, hw, h18, oI, Int32.not_lt.mpr h38]; done) | (simp [dWeak, hw, h18, oI, Int32.not_le.mp h38]; done)) (ih (by omega))
        · skip
          refine r_iload_n X dX12_weakest_21 rfl rfl ?_
          refine r_iconst (v := -1) X dX12_weakest_22 (by decide) ?_
          refine r_icmp_eq (tgt := 41) X dX12_weakest_23 (by decide) (fun h23 => ?_) (fun h23 => ?_)
          · skip
            exact absurd (show (-1 : Int32) < 0 by decide) (by rw [← h23]; exact nI_pos (by omega))
          · skip
            refine r_aload_n X dX12_weakest_26 rfl rfl ?_
            refine r_getR X dX12_weakest_27 fX12_9 (by assumption) (by assumption) ?_
            refine r_iload_n X dX12_weakest_30 rfl rfl ?_
            refine r_ialdN X dX12_weakest_31 (by assumption) (by omega) (by omega) (by first | assumption | rfl) ?_
            refine r_aload_n X dX12_weakest_32 rfl rfl ?_
            refine r_getR X dX12_weakest_33 fX12_9 (by assumption) (by assumption) ?_
            refine r_iload_n X dX12_weakest_36 rfl rfl ?_
            refine r_ialdN X dX12_weakest_37 (by assumption) (by omega) (by omega) (by first | assumption | rfl) ?_
            refine r_icmp_ge (tgt := 43) X dX12_weakest_38 (by decide) (fun h38 => ?_) (fun h38 => ?_)
            · skip
              first | refine r_iincN X dX12_weakest_43 rfl (by decide) rfl ?_ | refine r_iinc X dX12_weakest_43 rfl rfl (by decide) rfl ?_
              refine r_goto (tgt := 4) X dX12_weakest_46 (by decide) ?_
              exact r_loc (by first | (simp [dWeak, hw, h18, oI]; done) | (simp [dWeak, hw, h18, oI, Int32.not_lt.mpr h38]; done) | (simp [dWeak, hw, h18, oI, Int32.not_le.mp h38]; done)) (ih (by omega))
            · skip
              refine r_iload_n X dX12_weakest_41 rfl rfl ?_
              refine r_istore_n X dX12_weakest_42 rfl (by decide) rfl ?_
              first | refine r_iincN X dX12_weakest_43 rfl (by decide) rfl ?_ | refine r_iinc X dX12_weakest_43 rfl rfl (by decide) rfl ?_
              refine r_goto (tgt := 4) X dX12_weakest_46 (by decide) ?_
              exact r_loc (by first | (simp [dWeak, hw, h18, oI]; done) | (simp [dWeak, hw, h18, oI, Int32.not_lt.mpr h38]; done) | (simp [dWeak, hw, h18, oI, Int32.not_le.mp h38]; done)) (ih (by omega))
  exact H 0 (by omega)
