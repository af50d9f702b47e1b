/-! ===== the reference: small asks, once more ===== -/
set_option maxHeartbeats 2000000 in
set_option maxRecDepth 20000 in
/-- SledHouseModel.fault -/
theorem c_mFault {E : Ev} (GE : Glob E) (S : Nat → Option (Nat × Nat)) (I : Nat → Nat → Int32) (V : Nat → Nat → Option Nat) (J : Nat → Nat → Int64) (N : Nat) (g : Nat) (hs0 : S g = some (12, 0)) : Ct E yX13_fault cX13_fault 1 (some .int) (rmL 0) [.ref g] (S, I, V, J, N) (fun v w' => v = some (.int (I g 3)) ∧ w' = (S, up2 I g 0 0, V, J, N)) := by
  refine Ct.start GE (by decide) rfl (Nat.le_of_ble_eq_true rfl) (fun M X => ?_)
  have X : Cx E M RX13 cX13_fault 1 (rmL 0) (some .int) "fault" := X
  refine r_loc (L' := [some (.ref g)]) rfl ?_
  refine r_aload_n X dX13_fault_0 rfl rfl ?_
  refine r_iconst (v := 0) X dX13_fault_1 (by decide) ?_
  refine r_putI X dX13_fault_2 fX13_1 wX13_1 (by assumption) rfl rfl ?_
  refine r_aload_n X dX13_fault_5 rfl rfl ?_
  refine r_getI X dX13_fault_6 fX13_224 (by assumption) (up2_k (by decide)) ?_
  refine r_ireturn X dX13_fault_9 rfl (by first | omega | decide | (simp only [rmL, rmA]; omega)) (by first | omega | decide | (simp only [rmL, rmA]; omega)) ?_
  exact ⟨rfl, rfl⟩
set_option maxHeartbeats 2000000 in
set_option maxRecDepth 20000 in
/-- SledHouseModel.where -/
theorem c_mWhere {E : Ev} (GE : Glob E) (S : Nat → Option (Nat × Nat)) (I : Nat → Nat → Int32) (V : Nat → Nat → Option Nat) (J : Nat → Nat → Int64) (N : Nat) (g : Nat) (hs0 : S g = some (12, 0)) : Ct E yX13_where cX13_where 1 (some .int) (rmL 0) [.ref g] (S, I, V, J, N) (fun v w' => v = some (.int (I g 2)) ∧ w' = (S, up2 I g 0 0, V, J, N)) := by
  refine Ct.start GE (by decide) rfl (Nat.le_of_ble_eq_true rfl) (fun M X => ?_)
  have X : Cx E M RX13 cX13_where 1 (rmL 0) (some .int) "where" := X
  refine r_loc (L' := [some (.ref g)]) rfl ?_
  refine r_aload_n X dX13_where_0 rfl rfl ?_
  refine r_iconst (v := 0) X dX13_where_1 (by decide) ?_
  refine r_putI X dX13_where_2 fX13_1 wX13_1 (by assumption) rfl rfl ?_
  refine r_aload_n X dX13_where_5 rfl rfl ?_
  refine r_getI X dX13_where_6 fX13_10 (by assumption) (up2_k (by decide)) ?_
  refine r_ireturn X dX13_where_9 rfl (by first | omega | decide | (simp only [rmL, rmA]; omega)) (by first | omega | decide | (simp only [rmL, rmA]; omega)) ?_
  exact ⟨rfl, rfl⟩
set_option maxHeartbeats 2000000 in
set_option maxRecDepth 20000 in
/-- SledHouseModel.trouble -/
theorem c_mTrouble {E : Ev} (GE : Glob E) (S : Nat → Option (Nat × Nat)) (I : Nat → Nat → Int32) (V : Nat → Nat → Option Nat) (J : Nat → Nat → Int64) (N : Nat) (g : Nat) (hs0 : S g = some (12, 0)) : Ct E yX13_trouble cX13_trouble 1 (some .int) (rmL 0) [.ref g] (S, I, V, J, N) (fun v w' => v = some (.int (I g 1)) ∧ w' = (S, up2 I g 0 0, V, J, N)) := by
  refine Ct.start GE (by decide) rfl (Nat.le_of_ble_eq_true rfl) (fun M X => ?_)
  have X : Cx E M RX13 cX13_trouble 1 (rmL 0) (some .int) "trouble" := X
  refine r_loc (L' := [some (.ref g)]) rfl ?_
  refine r_aload_n X dX13_trouble_0 rfl rfl ?_
  refine r_iconst (v := 0) X dX13_trouble_1 (by decide) ?_
  refine r_putI X dX13_trouble_2 fX13_1 wX13_1 (by assumption) rfl rfl ?_
  refine r_aload_n X dX13_trouble_5 rfl rfl ?_
  refine r_getI X dX13_trouble_6 fX13_7 (by assumption) (up2_k (by decide)) ?_
  refine r_ireturn X dX13_trouble_9 rfl (by first | omega | decide | (simp only [rmL, rmA]; omega)) (by first | omega | decide | (simp only [rmL, rmA]; omega)) ?_
  exact ⟨rfl, rfl⟩
set_option maxHeartbeats 2000000 in
set_option maxRecDepth 20000 in
/-- SledHouseModel.done -/
theorem c_mDone {E : Ev} (GE : Glob E) (S : Nat → Option (Nat × Nat)) (I : Nat → Nat → Int32) (V : Nat → Nat → Option Nat) (J : Nat → Nat → Int64) (N : Nat) (g : Nat) (x : Int32) (hs0 : S g = some (12, 0)) : Ct E yX13_done cX13_done 2 (some .int) (rmL 0) [.ref g, .int x] (S, I, V, J, N) (fun v w' => v = some (.int x) ∧ w' = (S, mTrb I g 0, V, J, N)) := by
  refine Ct.start GE (by decide) rfl (Nat.le_of_ble_eq_true rfl) (fun M X => ?_)
  have X : Cx E M RX13 cX13_done 2 (rmL 0) (some .int) "done" := X
  refine r_loc (L' := [some (.ref g), some (.int x)]) rfl ?_
  refine r_aload_n X dX13_done_0 rfl rfl ?_
  refine r_iconst (v := 0) X dX13_done_1 (by decide) ?_
  refine r_putI X dX13_done_2 fX13_7 wX13_7 (by assumption) rfl rfl ?_
  refine r_aload_n X dX13_done_5 rfl rfl ?_
  refine r_iconst (v := -1) X dX13_done_6 (by decide) ?_
  refine r_putI X dX13_done_7 fX13_10 wX13_10 (by assumption) rfl rfl ?_
  refine r_iload_n X dX13_done_10 rfl rfl ?_
  refine r_ireturn X dX13_done_11 rfl (by first | omega | decide | (simp only [rmL, rmA]; omega)) (by first | omega | decide | (simp only [rmL, rmA]; omega)) ?_
  exact ⟨rfl, rfl⟩
set_option maxHeartbeats 2000000 in
set_option maxRecDepth 20000 in
/-- SledHouseModel.isLetter -/
theorem c_mLetter {E : Ev} (GE : Glob E) (x : Int32) (w : Wd) : Ct E yX13_isLetter cX13_isLetter 1 (some .boolean) (rmL 0) [.int x] w (fun v w' => v = some (.int (bI (inB x 97 122))) ∧ w' = w) := by
  refine Ct.start GE (by decide) rfl (Nat.le_of_ble_eq_true rfl) (fun M X => ?_)
  have X : Cx E M RX13 cX13_isLetter 1 (rmL 0) (some .boolean) "isLetter" := X
  refine r_loc (L' := [some (.int x)]) rfl ?_
  rw [inB]
  refine r_iload_n X dX13_isLetter_0 rfl rfl ?_
  refine r_bipush (v := 97) X dX13_isLetter_1 (by decide) ?_
  refine r_icmp_lt (tgt := 16) X dX13_isLetter_3 (by decide) (fun h3 => ?_) (fun h3 => ?_)
  · skip
    refine r_iconst (v := 0) X dX13_isLetter_16 (by decide) ?_
    refine r_ireturn X dX13_isLetter_17 rfl (by first | omega | decide | (simp only [rmL, rmA]; omega)) (by first | omega | decide | (simp only [rmL, rmA]; omega)) ?_
    refine ⟨?_, rfl⟩
    first | (rw [decide_eq_true (Int32.not_lt.mp h3), decide_eq_true (Int32.not_lt.mp h9)]; rfl; done) | (rw [decide_eq_false (Int32.not_le.mpr h3)]; rfl; done) | (rw [decide_eq_true (Int32.not_lt.mp h3), decide_eq_false (Int32.not_le.mpr h9)]; rfl; done)
  · skip
    refine r_iload_n X dX13_isLetter_6 rfl rfl ?_
    refine r_bipush (v := 122) X dX13_isLetter_7 (by decide) ?_
    refine r_icmp_gt (tgt := 16) X dX13_isLetter_9 (by decide) (fun h9 => ?_) (fun h9 => ?_)
    · skip
      refine r_iconst (v := 0) X dX13_isLetter_16 (by decide) ?_
      refine r_ireturn X dX13_isLetter_17 rfl (by first | omega | decide | (simp only [rmL, rmA]; omega)) (by first | omega | decide | (simp only [rmL, rmA]; omega)) ?_
      refine ⟨?_, rfl⟩
      first | (rw [decide_eq_true (Int32.not_lt.mp h3), decide_eq_true (Int32.not_lt.mp h9)]; rfl; done) | (rw [decide_eq_false (Int32.not_le.mpr h3)]; rfl; done) | (rw [decide_eq_true (Int32.not_lt.mp h3), decide_eq_false (Int32.not_le.mpr h9)]; rfl; done)
    · skip
      refine r_iconst (v := 1) X dX13_isLetter_12 (by decide) ?_
      refine r_goto (tgt := 17) X dX13_isLetter_13 (by decide) ?_
      refine r_ireturn X dX13_isLetter_17 rfl (by first | omega | decide | (simp only [rmL, rmA]; omega)) (by first | omega | decide | (simp only [rmL, rmA]; omega)) ?_
      refine ⟨?_, rfl⟩
      first | (rw [decide_eq_true (Int32.not_lt.mp h3), decide_eq_true (Int32.not_lt.mp h9)]; rfl; done) | (rw [decide_eq_false (Int32.not_le.mpr h3)]; rfl; done) | (rw [decide_eq_true (Int32.not_lt.mp h3), decide_eq_false (Int32.not_le.mpr h9)]; rfl; done)
set_option maxHeartbeats 2000000 in
set_option maxRecDepth 20000 in
/-- SledHouseModel.isDigit -/
theorem c_mDigit {E : Ev} (GE : Glob E) (x : Int32) (w : Wd) : Ct E yX13_isDigit cX13_isDigit 1 (some .boolean) (rmL 0) [.int x] w (fun v w' => v = some (.int (bI (inB x 48 57))) ∧ w' = w) := by
  refine Ct.start GE (by decide) rfl (Nat.le_of_ble_eq_true rfl) (fun M X => ?_)
  have X : Cx E M RX13 cX13_isDigit 1 (rmL 0) (some .boolean) "isDigit" := X
  refine r_loc (L' := [some (.int x)]) rfl ?_
  rw [inB]
  refine r_iload_n X dX13_isDigit_0 rfl rfl ?_
  refine r_bipush (v := 48) X dX13_isDigit_1 (by decide) ?_
  refine r_icmp_lt (tgt := 16) X dX13_isDigit_3 (by decide) (fun h3 => ?_) (fun h3 => ?_)
  · skip
    refine r_iconst (v := 0) X dX13_isDigit_16 (by decide) ?_
    refine r_ireturn X dX13_isDigit_17 rfl (by first | omega | decide | (simp only [rmL, rmA]; omega)) (by first | omega | decide | (simp only [rmL, rmA]; omega)) ?_
    refine ⟨?_, rfl⟩
    first | (rw [decide_eq_true (Int32.not_lt.mp h3), decide_eq_true (Int32.not_lt.mp h9)]; rfl; done) | (rw [decide_eq_false (Int32.not_le.mpr h3)]; rfl; done) | (rw [decide_eq_true (Int32.not_lt.mp h3), decide_eq_false (Int32.not_le.mpr h9)]; rfl; done)
  · skip
    refine r_iload_n X dX13_isDigit_6 rfl rfl ?_
    refine r_bipush (v := 57) X dX13_isDigit_7 (by decide) ?_
    refine r_icmp_gt (tgt := 16) X dX13_isDigit_9 (by decide) (fun h9 => ?_) (fun h9 => ?_)
    · skip
      refine r_iconst (v := 0) X dX13_isDigit_16 (by decide) ?_
      refine r_ireturn X dX13_isDigit_17 rfl (by first | omega | decide | (simp only [rmL, rmA]; omega)) (by first | omega | decide | (simp only [rmL, rmA]; omega)) ?_
      refine ⟨?_, rfl⟩
      first | (rw [decide_eq_true (Int32.not_lt.mp h3), decide_eq_true (Int32.not_lt.mp h9)]; rfl; done) | (rw [decide_eq_false (Int32.not_le.mpr h3)]; rfl; done) | (rw [decide_eq_true (Int32.not_lt.mp h3), decide_eq_false (Int32.not_le.mpr h9)]; rfl; done)
    · skip
      refine r_iconst (v := 1) X dX13_isDigit_12 (by decide) ?_
      refine r_goto (tgt := 17) X dX13_isDigit_13 (by decide) ?_
      refine r_ireturn X dX13_isDigit_17 rfl (by first | omega | decide | (simp only [rmL, rmA]; omega)) (by first | omega | decide | (simp only [rmL, rmA]; omega)) ?_
      refine ⟨?_, rfl⟩
      first | (rw [decide_eq_true (Int32.not_lt.mp h3), decide_eq_true (Int32.not_lt.mp h9)]; rfl; done) | (rw [decide_eq_false (Int32.not_le.mpr h3)]; rfl; done) | (rw [decide_eq_true (Int32.not_lt.mp h3), decide_eq_false (Int32.not_le.mpr h9)]; rfl; done)
