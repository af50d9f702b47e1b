/-! ===== the reference: small asks ===== -/
def mTrb (I : Mem) (g : Nat) (x : Int32) : Mem := up2 (up2 I g 1 x) g 2 (-1)
set_option maxHeartbeats 2000000 in
set_option maxRecDepth 20000 in
/-- SledHouseModel.refused -/
theorem c_mRefused {E : Ev} (GE : Glob E) (S : Nat → Option (Nat × Nat)) (I : Nat → Nat → Int32) (V : Nat → Nat → Option Nat) (J : Nat → Nat → Int64) (N : Nat) (g : Nat) (x : Int32) (hs0 : S g = some (12, 0)) : Ct E yX13_refused cX13_refused 2 (some .int) (rmL 0) [.ref g, .int x] (S, I, V, J, N) (fun v w' => v = some (.int (-1)) ∧ w' = (S, mTrb I g x, V, J, N)) := by
  refine Ct.start GE (by decide) rfl (Nat.le_of_ble_eq_true rfl) (fun M X => ?_)
  have X : Cx E M RX13 cX13_refused 2 (rmL 0) (some .int) "refused" := X
  refine r_loc (L' := [some (.ref g), some (.int x)]) rfl ?_
  refine r_aload_n X dX13_refused_0 rfl rfl ?_
  refine r_iload_n X dX13_refused_1 rfl rfl ?_
  refine r_putI X dX13_refused_2 fX13_7 wX13_7 (by assumption) rfl rfl ?_
  refine r_aload_n X dX13_refused_5 rfl rfl ?_
  refine r_iconst (v := -1) X dX13_refused_6 (by decide) ?_
  refine r_putI X dX13_refused_7 fX13_10 wX13_10 (by assumption) rfl rfl ?_
  refine r_iconst (v := -1) X dX13_refused_10 (by decide) ?_
  refine r_ireturn X dX13_refused_11 rfl (by first | omega | decide | (simp only [rmL, rmA]; omega)) (by first | omega | decide | (simp only [rmL, rmA]; omega)) ?_
  exact ⟨rfl, rfl⟩
set_option maxHeartbeats 2000000 in
set_option maxRecDepth 20000 in
/-- SledHouseModel.denied -/
theorem c_mDenied {E : Ev} (GE : Glob E) (S : Nat → Option (Nat × Nat)) (I : Nat → Nat → Int32) (V : Nat → Nat → Option Nat) (J : Nat → Nat → Int64) (N : Nat) (g : Nat) (x : Int32) (hs0 : S g = some (12, 0)) : Ct E yX13_denied cX13_denied 2 (some .boolean) (rmL 0) [.ref g, .int x] (S, I, V, J, N) (fun v w' => v = some (.int 0) ∧ w' = (S, mTrb I g x, V, J, N)) := by
  refine Ct.start GE (by decide) rfl (Nat.le_of_ble_eq_true rfl) (fun M X => ?_)
  have X : Cx E M RX13 cX13_denied 2 (rmL 0) (some .boolean) "denied" := X
  refine r_loc (L' := [some (.ref g), some (.int x)]) rfl ?_
  refine r_aload_n X dX13_denied_0 rfl rfl ?_
  refine r_iload_n X dX13_denied_1 rfl rfl ?_
  refine r_putI X dX13_denied_2 fX13_7 wX13_7 (by assumption) rfl rfl ?_
  refine r_aload_n X dX13_denied_5 rfl rfl ?_
  refine r_iconst (v := -1) X dX13_denied_6 (by decide) ?_
  refine r_putI X dX13_denied_7 fX13_10 wX13_10 (by assumption) rfl rfl ?_
  refine r_iconst (v := 0) X dX13_denied_10 (by decide) ?_
  refine r_ireturn X dX13_denied_11 rfl (by first | omega | decide | (simp only [rmL, rmA]; omega)) (by first | omega | decide | (simp only [rmL, rmA]; omega)) ?_
  exact ⟨rfl, rfl⟩
set_option maxHeartbeats 2000000 in
set_option maxRecDepth 20000 in
/-- SledHouseModel.granted -/
theorem c_mGranted {E : Ev} (GE : Glob E) (S : Nat → Option (Nat × Nat)) (I : Nat → Nat → Int32) (V : Nat → Nat → Option Nat) (J : Nat → Nat → Int64) (N : Nat) (g : Nat) (hs0 : S g = some (12, 0)) : Ct E yX13_granted cX13_granted 1 (some .boolean) (rmL 0) [.ref g] (S, I, V, J, N) (fun v w' => v = some (.int 1) ∧ w' = (S, mTrb I g 0, V, J, N)) := by
  refine Ct.start GE (by decide) rfl (Nat.le_of_ble_eq_true rfl) (fun M X => ?_)
  have X : Cx E M RX13 cX13_granted 1 (rmL 0) (some .boolean) "granted" := X
  refine r_loc (L' := [some (.ref g)]) rfl ?_
  refine r_aload_n X dX13_granted_0 rfl rfl ?_
  refine r_iconst (v := 0) X dX13_granted_1 (by decide) ?_
  refine r_putI X dX13_granted_2 fX13_7 wX13_7 (by assumption) rfl rfl ?_
  refine r_aload_n X dX13_granted_5 rfl rfl ?_
  refine r_iconst (v := -1) X dX13_granted_6 (by decide) ?_
  refine r_putI X dX13_granted_7 fX13_10 wX13_10 (by assumption) rfl rfl ?_
  refine r_iconst (v := 1) X dX13_granted_10 (by decide) ?_
  refine r_ireturn X dX13_granted_11 rfl (by first | omega | decide | (simp only [rmL, rmA]; omega)) (by first | omega | decide | (simp only [rmL, rmA]; omega)) ?_
  exact ⟨rfl, rfl⟩
set_option maxHeartbeats 2000000 in
set_option maxRecDepth 20000 in
/-- SledHouseModel.in -/
theorem c_mIn {E : Ev} (GE : Glob E) (x y z : Int32) (w : Wd) : Ct E yX13_in cX13_in 3 (some .boolean) (rmL 0) [.int x, .int y, .int z] w (fun v w' => v = some (.int (bI (inB x y z))) ∧ w' = w) := by
  refine Ct.start GE (by decide) rfl (Nat.le_of_ble_eq_true rfl) (fun M X => ?_)
  have X : Cx E M RX13 cX13_in 3 (rmL 0) (some .boolean) "in" := X
  refine r_loc (L' := [some (.int x), some (.int y), some (.int z)]) rfl ?_
  rw [inB]
  refine r_iload_n X dX13_in_0 rfl rfl ?_
  refine r_iload_n X dX13_in_1 rfl rfl ?_
  refine r_icmp_lt (tgt := 14) X dX13_in_2 (by decide) (fun h2 => ?_) (fun h2 => ?_)
  · skip
    refine r_iconst (v := 0) X dX13_in_14 (by decide) ?_
    refine r_ireturn X dX13_in_15 rfl (by first | omega | decide | (simp only [rmL, rmA]; omega)) (by first | omega | decide | (simp only [rmL, rmA]; omega)) ?_
    refine ⟨?_, rfl⟩
    first | (rw [decide_eq_true (Int32.not_lt.mp h2), decide_eq_true (Int32.not_lt.mp h7)]; rfl; done) | (rw [decide_eq_false (Int32.not_le.mpr h2)]; rfl; done) | (rw [decide_eq_true (Int32.not_lt.mp h2), decide_eq_false (Int32.not_le.mpr h7)]; rfl; done)
  · skip
    refine r_iload_n X dX13_in_5 rfl rfl ?_
    refine r_iload_n X dX13_in_6 rfl rfl ?_
    refine r_icmp_gt (tgt := 14) X dX13_in_7 (by decide) (fun h7 => ?_) (fun h7 => ?_)
    · skip
      refine r_iconst (v := 0) X dX13_in_14 (by decide) ?_
      refine r_ireturn X dX13_in_15 rfl (by first | omega | decide | (simp only [rmL, rmA]; omega)) (by first | omega | decide | (simp only [rmL, rmA]; omega)) ?_
      refine ⟨?_, rfl⟩
      first | (rw [decide_eq_true (Int32.not_lt.mp h2), decide_eq_true (Int32.not_lt.mp h7)]; rfl; done) | (rw [decide_eq_false (Int32.not_le.mpr h2)]; rfl; done) | (rw [decide_eq_true (Int32.not_lt.mp h2), decide_eq_false (Int32.not_le.mpr h7)]; rfl; done)
    · skip
      refine r_iconst (v := 1) X dX13_in_10 (by decide) ?_
      refine r_goto (tgt := 15) X dX13_in_11 (by decide) ?_
      refine r_ireturn X dX13_in_15 rfl (by first | omega | decide | (simp only [rmL, rmA]; omega)) (by first | omega | decide | (simp only [rmL, rmA]; omega)) ?_
      refine ⟨?_, rfl⟩
      first | (rw [decide_eq_true (Int32.not_lt.mp h2), decide_eq_true (Int32.not_lt.mp h7)]; rfl; done) | (rw [decide_eq_false (Int32.not_le.mpr h2)]; rfl; done) | (rw [decide_eq_true (Int32.not_lt.mp h2), decide_eq_false (Int32.not_le.mpr h7)]; rfl; done)
set_option maxHeartbeats 2000000 in
set_option maxRecDepth 20000 in
/-- SledHouseModel.isTeam -/
theorem c_mIsTeam {E : Ev} (GE : Glob E) (S : Nat → Option (Nat × Nat)) (I : Nat → Nat → Int32) (V : Nat → Nat → Option Nat) (J : Nat → Nat → Int64) (N : Nat) (g c : Nat) (x : Int32) (hs0 : S g = some (12, 0)) (hc : I g 5 = nI c) : Ct E yX13_isTeam cX13_isTeam 2 (some .boolean) (rmL 0) [.ref g, .int x] (S, I, V, J, N) (fun v w' => v = some (.int (bI (ixI x c).isSome)) ∧ w' = (S, I, V, J, N)) := by
  refine Ct.start GE (by decide) rfl (Nat.le_of_ble_eq_true rfl) (fun M X => ?_)
  have X : Cx E M RX13 cX13_isTeam 2 (rmL 0) (some .boolean) "isTeam" := X
  refine r_loc (L' := [some (.ref g), some (.int x)]) rfl ?_
  refine r_iload_n X dX13_isTeam_0 rfl rfl ?_
  refine r_if_lt (tgt := 16) X dX13_isTeam_1 (by decide) (fun h1 => ?_) (fun h1 => ?_)
  · skip
    refine r_iconst (v := 0) X dX13_isTeam_16 (by decide) ?_
    refine r_ireturn X dX13_isTeam_17 rfl (by first | omega | decide | (simp only [rmL, rmA]; omega)) (by first | omega | decide | (simp only [rmL, rmA]; omega)) ?_
    refine ⟨?_, rfl⟩
    first | (rw [ixI, if_pos ⟨Int32.not_lt.mp h1, Int32.not_le.mp h9⟩]; rfl; done) | (rw [ixI, if_neg (fun z => absurd h1 (Int32.not_lt.mpr z.1))]; rfl; done) | (rw [ixI, if_neg (fun z => absurd h9 (Int32.not_le.mpr z.2))]; rfl; done)
  · skip
    refine r_iload_n X dX13_isTeam_4 rfl rfl ?_
    refine r_aload_n X dX13_isTeam_5 rfl rfl ?_
    refine r_getI X dX13_isTeam_6 fX13_94 (by assumption) (by first | assumption | rfl) ?_
    refine r_icmp_ge (tgt := 16) X dX13_isTeam_9 (by decide) (fun h9 => ?_) (fun h9 => ?_)
    · skip
      refine r_iconst (v := 0) X dX13_isTeam_16 (by decide) ?_
      refine r_ireturn X dX13_isTeam_17 rfl (by first | omega | decide | (simp only [rmL, rmA]; omega)) (by first | omega | decide | (simp only [rmL, rmA]; omega)) ?_
      refine ⟨?_, rfl⟩
      first | (rw [ixI, if_pos ⟨Int32.not_lt.mp h1, Int32.not_le.mp h9⟩]; rfl; done) | (rw [ixI, if_neg (fun z => absurd h1 (Int32.not_lt.mpr z.1))]; rfl; done) | (rw [ixI, if_neg (fun z => absurd h9 (Int32.not_le.mpr z.2))]; rfl; done)
    · skip
      refine r_iconst (v := 1) X dX13_isTeam_12 (by decide) ?_
      refine r_goto (tgt := 17) X dX13_isTeam_13 (by decide) ?_
      refine r_ireturn X dX13_isTeam_17 rfl (by first | omega | decide | (simp only [rmL, rmA]; omega)) (by first | omega | decide | (simp only [rmL, rmA]; omega)) ?_
      refine ⟨?_, rfl⟩
      first | (rw [ixI, if_pos ⟨Int32.not_lt.mp h1, Int32.not_le.mp h9⟩]; rfl; done) | (rw [ixI, if_neg (fun z => absurd h1 (Int32.not_lt.mpr z.1))]; rfl; done) | (rw [ixI, if_neg (fun z => absurd h9 (Int32.not_le.mpr z.2))]; rfl; done)
set_option maxHeartbeats 2000000 in
set_option maxRecDepth 20000 in
/-- SledHouseModel.isPlan -/
theorem c_mIsPlan {E : Ev} (GE : Glob E) (S : Nat → Option (Nat × Nat)) (I : Nat → Nat → Int32) (V : Nat → Nat → Option Nat) (J : Nat → Nat → Int64) (N : Nat) (g c : Nat) (x : Int32) (hs0 : S g = some (12, 0)) (hc : I g 31 = nI c) : Ct E yX13_isPlan cX13_isPlan 2 (some .boolean) (rmL 0) [.ref g, .int x] (S, I, V, J, N) (fun v w' => v = some (.int (bI (ixI x c).isSome)) ∧ w' = (S, I, V, J, N)) := by
  refine Ct.start GE (by decide) rfl (Nat.le_of_ble_eq_true rfl) (fun M X => ?_)
  have X : Cx E M RX13 cX13_isPlan 2 (rmL 0) (some .boolean) "isPlan" := X
  refine r_loc (L' := [some (.ref g), some (.int x)]) rfl ?_
  refine r_iload_n X dX13_isPlan_0 rfl rfl ?_
  refine r_if_lt (tgt := 16) X dX13_isPlan_1 (by decide) (fun h1 => ?_) (fun h1 => ?_)
  · skip
    refine r_iconst (v := 0) X dX13_isPlan_16 (by decide) ?_
    refine r_ireturn X dX13_isPlan_17 rfl (by first | omega | decide | (simp only [rmL, rmA]; omega)) (by first | omega | decide | (simp only [rmL, rmA]; omega)) ?_
    refine ⟨?_, rfl⟩
    first | (rw [ixI, if_pos ⟨Int32.not_lt.mp h1, Int32.not_le.mp h9⟩]; rfl; done) | (rw [ixI, if_neg (fun z => absurd h1 (Int32.not_lt.mpr z.1))]; rfl; done) | (rw [ixI, if_neg (fun z => absurd h9 (Int32.not_le.mpr z.2))]; rfl; done)
  · skip
    refine r_iload_n X dX13_isPlan_4 rfl rfl ?_
    refine r_aload_n X dX13_isPlan_5 rfl rfl ?_
    refine r_getI X dX13_isPlan_6 fX13_227 (by assumption) (by first | assumption | rfl) ?_
    refine r_icmp_ge (tgt := 16) X dX13_isPlan_9 (by decide) (fun h9 => ?_) (fun h9 => ?_)
    · skip
      refine r_iconst (v := 0) X dX13_isPlan_16 (by decide) ?_
      refine r_ireturn X dX13_isPlan_17 rfl (by first | omega | decide | (simp only [rmL, rmA]; omega)) (by first | omega | decide | (simp only [rmL, rmA]; omega)) ?_
      refine ⟨?_, rfl⟩
      first | (rw [ixI, if_pos ⟨Int32.not_lt.mp h1, Int32.not_le.mp h9⟩]; rfl; done) | (rw [ixI, if_neg (fun z => absurd h1 (Int32.not_lt.mpr z.1))]; rfl; done) | (rw [ixI, if_neg (fun z => absurd h9 (Int32.not_le.mpr z.2))]; rfl; done)
    · skip
      refine r_iconst (v := 1) X dX13_isPlan_12 (by decide) ?_
      refine r_goto (tgt := 17) X dX13_isPlan_13 (by decide) ?_
      refine r_ireturn X dX13_isPlan_17 rfl (by first | omega | decide | (simp only [rmL, rmA]; omega)) (by first | omega | decide | (simp only [rmL, rmA]; omega)) ?_
      refine ⟨?_, rfl⟩
      first | (rw [ixI, if_pos ⟨Int32.not_lt.mp h1, Int32.not_le.mp h9⟩]; rfl; done) | (rw [ixI, if_neg (fun z => absurd h1 (Int32.not_lt.mpr z.1))]; rfl; done) | (rw [ixI, if_neg (fun z => absurd h9 (Int32.not_le.mpr z.2))]; rfl; done)
