/-! ===== SledHouse: its shape, small questions ===== -/
def HouseSh (S : Nat → Option (Nat × Nat)) (V : Nat → Nat → Option Nat) (h : Nat) : Prop :=
  S h = some (9, 0) ∧ V h 0 = some (h + 1) ∧ V h 1 = some (h + 3) ∧ V h 2 = some (h + 4) ∧ V h 3 = some (h + 9) ∧ V h 4 = some (h + 76) ∧ V h 5 = some (h + 77) ∧ TapeSh S V (h + 1) ∧ S (h + 3) = some (103, 9) ∧
  (∀ i, i < 9 → V (h + 3) i = some (h + 87 + 7 * i) ∧ PlanSh S V (h + 87 + 7 * i)) ∧ LawSh S V (h + 4) ∧ RaceSh S V (h + 9) ∧ S (h + 76) = some (104, 6) ∧ TeamSh S V (h + 77) ∧ ∀ i, i < 6 → V (h + 76) i = some (h + 150 + 2 * i) ∧ S (h + 150 + 2 * i) = some (5, 0)
/-- an index below c -/
def ixI (x : Int32) (c : Nat) : Option Nat := if 0 ≤ x ∧ x < nI c then some x.toNatClampNeg else none
theorem ixI_some {x : Int32} {c i : Nat} (hc : c < 2 ^ 31) (h : ixI x c = some i) : i < c ∧ x = nI i := by
  unfold ixI at h
  split at h
  · next q =>
    cases h
    obtain ⟨j, hj, rfl⟩ := nI_of (Int32.not_lt.mpr q.1)
    rw [nI_clamp hj]
    exact ⟨(nI_ltI hj hc).mp q.2, rfl⟩
  · cases h
theorem ixI_none {x : Int32} {c : Nat} (h : ixI x c = none) : x < 0 ∨ nI c ≤ x := by
  unfold ixI at h
  split at h
  · cases h
  · next q =>
    by_cases h0 : x < 0
    · exact Or.inl h0
    · exact Or.inr (Int32.not_lt.mp (fun z => q ⟨Int32.not_lt.mp h0, z⟩))
theorem ixI_nI {c i : Nat} (hi : i < c) (hc : c < 2 ^ 31) : ixI (nI i) c = some i := by
  unfold ixI
  rw [if_pos ⟨nI_pos' (by omega), (nI_ltI (by omega) hc).mpr hi⟩, nI_clamp (by omega)]
theorem ix_t {x : Int32} {c i : Nat} (hx : ixI x c = some i) (h : bI (ixI x c).isSome = 0) : False := by
  rw [hx] at h
  exact absurd h (show ¬ (1 : Int32) = 0 by decide)
theorem ix_f {x : Int32} {c : Nat} (hx : ixI x c = none) (h : ¬ bI (ixI x c).isSome = 0) : False := by
  rw [hx] at h
  exact h rfl
set_option maxHeartbeats 2000000 in
set_option maxRecDepth 20000 in
/-- SledHouse.within -/
theorem c_hWithin {E : Ev} (GE : Glob E) (x y z : Int32) (w : Wd) : Ct E yX10_within cX10_within 3 (some .boolean) (rmL 0) [.int x, .int y, .int z] w (fun v w' => v = some (.int (bI (decide (y ≤ x) && decide (x ≤ z)))) ∧ w' = w) := by
  refine Ct.start GE (by decide) rfl (Nat.le_of_ble_eq_true rfl) (fun M X => ?_)
  have X : Cx E M RX10 cX10_within 3 (rmL 0) (some .boolean) "within" := X
  refine r_loc (L' := [some (.int x), some (.int y), some (.int z)]) rfl ?_
  refine r_iload_n X dX10_within_0 rfl rfl ?_
  refine r_iload_n X dX10_within_1 rfl rfl ?_
  refine r_icmp_lt (tgt := 14) X dX10_within_2 (by decide) (fun h2 => ?_) (fun h2 => ?_)
  · skip
    refine r_iconst (v := 0) X dX10_within_14 (by decide) ?_
    refine r_ireturn X dX10_within_15 rfl (by first | omega | decide | (simp only [rmL, rmA]; omega)) (by first | omega | decide | (simp only [rmL, rmA]; omega)) ?_
    refine ⟨?_, rfl⟩
    first | (rw [decide_eq_true (Int32.not_lt.mp h2), decide_eq_true (Int32.not_lt.mp h7)]; rfl; done) | (rw [decide_eq_false (Int32.not_le.mpr h2)]; rfl; done) | (rw [decide_eq_true (Int32.not_lt.mp h2), decide_eq_false (Int32.not_le.mpr h7)]; rfl; done)
  · skip
    refine r_iload_n X dX10_within_5 rfl rfl ?_
    refine r_iload_n X dX10_within_6 rfl rfl ?_
    refine r_icmp_gt (tgt := 14) X dX10_within_7 (by decide) (fun h7 => ?_) (fun h7 => ?_)
    · skip
      refine r_iconst (v := 0) X dX10_within_14 (by decide) ?_
      refine r_ireturn X dX10_within_15 rfl (by first | omega | decide | (simp only [rmL, rmA]; omega)) (by first | omega | decide | (simp only [rmL, rmA]; omega)) ?_
      refine ⟨?_, rfl⟩
      first | (rw [decide_eq_true (Int32.not_lt.mp h2), decide_eq_true (Int32.not_lt.mp h7)]; rfl; done) | (rw [decide_eq_false (Int32.not_le.mpr h2)]; rfl; done) | (rw [decide_eq_true (Int32.not_lt.mp h2), decide_eq_false (Int32.not_le.mpr h7)]; rfl; done)
    · skip
      refine r_iconst (v := 1) X dX10_within_10 (by decide) ?_
      refine r_goto (tgt := 15) X dX10_within_11 (by decide) ?_
      refine r_ireturn X dX10_within_15 rfl (by first | omega | decide | (simp only [rmL, rmA]; omega)) (by first | omega | decide | (simp only [rmL, rmA]; omega)) ?_
      refine ⟨?_, rfl⟩
      first | (rw [decide_eq_true (Int32.not_lt.mp h2), decide_eq_true (Int32.not_lt.mp h7)]; rfl; done) | (rw [decide_eq_false (Int32.not_le.mpr h2)]; rfl; done) | (rw [decide_eq_true (Int32.not_lt.mp h2), decide_eq_false (Int32.not_le.mpr h7)]; rfl; done)
set_option maxHeartbeats 2000000 in
set_option maxRecDepth 20000 in
/-- SledHouse.refuse -/
theorem c_hRefuse {E : Ev} (GE : Glob E) (S : Nat → Option (Nat × Nat)) (I : Nat → Nat → Int32) (V : Nat → Nat → Option Nat) (J : Nat → Nat → Int64) (N : Nat) (h : Nat) (x : Int32) (hs0 : S h = some (9, 0)) : Ct E yX10_refuse cX10_refuse 2 (some .int) (rmL 0) [.ref h, .int x] (S, I, V, J, N) (fun v w' => v = some (.int (-1)) ∧ w' = (S, up2 I h 8 x, V, J, N)) := by
  refine Ct.start GE (by decide) rfl (Nat.le_of_ble_eq_true rfl) (fun M X => ?_)
  have X : Cx E M RX10 cX10_refuse 2 (rmL 0) (some .int) "refuse" := X
  refine r_loc (L' := [some (.ref h), some (.int x)]) rfl ?_
  refine r_aload_n X dX10_refuse_0 rfl rfl ?_
  refine r_iload_n X dX10_refuse_1 rfl rfl ?_
  refine r_putI X dX10_refuse_2 fX10_56 wX10_56 (by assumption) rfl rfl ?_
  refine r_iconst (v := -1) X dX10_refuse_5 (by decide) ?_
  refine r_ireturn X dX10_refuse_6 rfl (by first | omega | decide | (simp only [rmL, rmA]; omega)) (by first | omega | decide | (simp only [rmL, rmA]; omega)) ?_
  exact ⟨rfl, rfl⟩
set_option maxHeartbeats 2000000 in
set_option maxRecDepth 20000 in
/-- SledHouse.deny -/
theorem c_hDeny {E : Ev} (GE : Glob E) (S : Nat → Option (Nat × Nat)) (I : Nat → Nat → Int32) (V : Nat → Nat → Option Nat) (J : Nat → Nat → Int64) (N : Nat) (h : Nat) (x : Int32) (hs0 : S h = some (9, 0)) : Ct E yX10_deny cX10_deny 2 (some .boolean) (rmL 0) [.ref h, .int x] (S, I, V, J, N) (fun v w' => v = some (.int 0) ∧ w' = (S, up2 I h 8 x, V, J, N)) := by
  refine Ct.start GE (by decide) rfl (Nat.le_of_ble_eq_true rfl) (fun M X => ?_)
  have X : Cx E M RX10 cX10_deny 2 (rmL 0) (some .boolean) "deny" := X
  refine r_loc (L' := [some (.ref h), some (.int x)]) rfl ?_
  refine r_aload_n X dX10_deny_0 rfl rfl ?_
  refine r_iload_n X dX10_deny_1 rfl rfl ?_
  refine r_putI X dX10_deny_2 fX10_56 wX10_56 (by assumption) rfl rfl ?_
  refine r_iconst (v := 0) X dX10_deny_5 (by decide) ?_
  refine r_ireturn X dX10_deny_6 rfl (by first | omega | decide | (simp only [rmL, rmA]; omega)) (by first | omega | decide | (simp only [rmL, rmA]; omega)) ?_
  exact ⟨rfl, rfl⟩
set_option maxHeartbeats 2000000 in
set_option maxRecDepth 20000 in
/-- SledHouse.grant -/
theorem c_hGrant {E : Ev} (GE : Glob E) (S : Nat → Option (Nat × Nat)) (I : Nat → Nat → Int32) (V : Nat → Nat → Option Nat) (J : Nat → Nat → Int64) (N : Nat) (h : Nat) (x : Int32) (hs0 : S h = some (9, 0)) : Ct E yX10_grant cX10_grant 2 (some .int) (rmL 0) [.ref h, .int x] (S, I, V, J, N) (fun v w' => v = some (.int x) ∧ w' = (S, up2 I h 8 0, V, J, N)) := by
  refine Ct.start GE (by decide) rfl (Nat.le_of_ble_eq_true rfl) (fun M X => ?_)
  have X : Cx E M RX10 cX10_grant 2 (rmL 0) (some .int) "grant" := X
  refine r_loc (L' := [some (.ref h), some (.int x)]) rfl ?_
  refine r_aload_n X dX10_grant_0 rfl rfl ?_
  refine r_iconst (v := 0) X dX10_grant_1 (by decide) ?_
  refine r_putI X dX10_grant_2 fX10_56 wX10_56 (by assumption) rfl rfl ?_
  refine r_iload_n X dX10_grant_5 rfl rfl ?_
  refine r_ireturn X dX10_grant_6 rfl (by first | omega | decide | (simp only [rmL, rmA]; omega)) (by first | omega | decide | (simp only [rmL, rmA]; omega)) ?_
  exact ⟨rfl, rfl⟩
set_option maxHeartbeats 2000000 in
set_option maxRecDepth 20000 in
/-- SledHouse.allow -/
theorem c_hAllow {E : Ev} (GE : Glob E) (S : Nat → Option (Nat × Nat)) (I : Nat → Nat → Int32) (V : Nat → Nat → Option Nat) (J : Nat → Nat → Int64) (N : Nat) (h : Nat) (hs0 : S h = some (9, 0)) : Ct E yX10_allow cX10_allow 1 (some .boolean) (rmL 0) [.ref h] (S, I, V, J, N) (fun v w' => v = some (.int 1) ∧ w' = (S, up2 I h 8 0, V, J, N)) := by
  refine Ct.start GE (by decide) rfl (Nat.le_of_ble_eq_true rfl) (fun M X => ?_)
  have X : Cx E M RX10 cX10_allow 1 (rmL 0) (some .boolean) "allow" := X
  refine r_loc (L' := [some (.ref h)]) rfl ?_
  refine r_aload_n X dX10_allow_0 rfl rfl ?_
  refine r_iconst (v := 0) X dX10_allow_1 (by decide) ?_
  refine r_putI X dX10_allow_2 fX10_56 wX10_56 (by assumption) rfl rfl ?_
  refine r_iconst (v := 1) X dX10_allow_5 (by decide) ?_
  refine r_ireturn X dX10_allow_6 rfl (by first | omega | decide | (simp only [rmL, rmA]; omega)) (by first | omega | decide | (simp only [rmL, rmA]; omega)) ?_
  exact ⟨rfl, rfl⟩
set_option maxHeartbeats 2000000 in
set_option maxRecDepth 20000 in
/-- SledHouse.isTeam -/
theorem c_hIsTeam {E : Ev} (GE : Glob E) (S : Nat → Option (Nat × Nat)) (I : Nat → Nat → Int32) (V : Nat → Nat → Option Nat) (J : Nat → Nat → Int64) (N : Nat) (h c : Nat) (x : Int32) (hH : HouseSh S V h) (hc : I (h + 9) 2 = nI c) : Ct E yX10_isTeam cX10_isTeam 2 (some .boolean) (rmL 0) [.ref h, .int x] (S, I, V, J, N) (fun v w' => v = some (.int (bI (ixI x c).isSome)) ∧ w' = (S, I, V, J, N)) := by
  refine Ct.start GE (by decide) rfl (Nat.le_of_ble_eq_true rfl) (fun M X => ?_)
  have X : Cx E M RX10 cX10_isTeam 2 (rmL 0) (some .boolean) "isTeam" := X
  refine r_loc (L' := [some (.ref h), some (.int x)]) rfl ?_
  obtain ⟨hs0, hv0, hv1, hv2, hv3, hv4, hv5, hTp, hs3, hPl, hLw, hRc, hs76, hGh, hRow⟩ := id hH
  obtain ⟨rs0, rv0, rv1, rTr, rs6, rTe⟩ := id hRc
  have qs0 := rTr.1
  have ts0 := hTp.1
  have ls0 := hLw.1
  refine r_iload_n X dX10_isTeam_0 rfl rfl ?_
  refine r_if_lt (tgt := 19) X dX10_isTeam_1 (by decide) (fun h1 => ?_) (fun h1 => ?_)
  · skip
    refine r_iconst (v := 0) X dX10_isTeam_19 (by decide) ?_
    refine r_ireturn X dX10_isTeam_20 rfl (by first | omega | decide | (simp only [rmL, rmA]; omega)) (by first | omega | decide | (simp only [rmL, rmA]; omega)) ?_
    refine ⟨?_, rfl⟩
    first | (rw [ixI, if_pos ⟨Int32.not_lt.mp h1, Int32.not_le.mp h12⟩]; rfl; done) | (rw [ixI, if_neg (fun z => absurd h1 (Int32.not_lt.mpr z.1))]; rfl; done) | (rw [ixI, if_neg (fun z => absurd h12 (Int32.not_le.mpr z.2))]; rfl; done)
  · skip
    refine r_iload_n X dX10_isTeam_4 rfl rfl ?_
    refine r_aload_n X dX10_isTeam_5 rfl rfl ?_
    refine r_getR X dX10_isTeam_6 fX10_32 (by assumption) (by assumption) ?_
    refine r_getI X dX10_isTeam_9 fX10_142 (by assumption) (by first | assumption | rfl) ?_
    refine r_icmp_ge (tgt := 19) X dX10_isTeam_12 (by decide) (fun h12 => ?_) (fun h12 => ?_)
    · skip
      refine r_iconst (v := 0) X dX10_isTeam_19 (by decide) ?_
      refine r_ireturn X dX10_isTeam_20 rfl (by first | omega | decide | (simp only [rmL, rmA]; omega)) (by first | omega | decide | (simp only [rmL, rmA]; omega)) ?_
      refine ⟨?_, rfl⟩
      first | (rw [ixI, if_pos ⟨Int32.not_lt.mp h1, Int32.not_le.mp h12⟩]; rfl; done) | (rw [ixI, if_neg (fun z => absurd h1 (Int32.not_lt.mpr z.1))]; rfl; done) | (rw [ixI, if_neg (fun z => absurd h12 (Int32.not_le.mpr z.2))]; rfl; done)
    · skip
      refine r_iconst (v := 1) X dX10_isTeam_15 (by decide) ?_
      refine r_goto (tgt := 20) X dX10_isTeam_16 (by decide) ?_
      refine r_ireturn X dX10_isTeam_20 rfl (by first | omega | decide | (simp only [rmL, rmA]; omega)) (by first | omega | decide | (simp only [rmL, rmA]; omega)) ?_
      refine ⟨?_, rfl⟩
      first | (rw [ixI, if_pos ⟨Int32.not_lt.mp h1, Int32.not_le.mp h12⟩]; rfl; done) | (rw [ixI, if_neg (fun z => absurd h1 (Int32.not_lt.mpr z.1))]; rfl; done) | (rw [ixI, if_neg (fun z => absurd h12 (Int32.not_le.mpr z.2))]; rfl; done)
set_option maxHeartbeats 2000000 in
set_option maxRecDepth 20000 in
/-- SledHouse.isPlan -/
theorem c_hIsPlan {E : Ev} (GE : Glob E) (S : Nat → Option (Nat × Nat)) (I : Nat → Nat → Int32) (V : Nat → Nat → Option Nat) (J : Nat → Nat → Int64) (N : Nat) (h c : Nat) (x : Int32) (hH : HouseSh S V h) (hc : I h 7 = nI c) : Ct E yX10_isPlan cX10_isPlan 2 (some .boolean) (rmL 0) [.ref h, .int x] (S, I, V, J, N) (fun v w' => v = some (.int (bI (ixI x c).isSome)) ∧ w' = (S, I, V, J, N)) := by
  refine Ct.start GE (by decide) rfl (Nat.le_of_ble_eq_true rfl) (fun M X => ?_)
  have X : Cx E M RX10 cX10_isPlan 2 (rmL 0) (some .boolean) "isPlan" := X
  refine r_loc (L' := [some (.ref h), some (.int x)]) rfl ?_
  obtain ⟨hs0, hv0, hv1, hv2, hv3, hv4, hv5, hTp, hs3, hPl, hLw, hRc, hs76, hGh, hRow⟩ := id hH
  obtain ⟨rs0, rv0, rv1, rTr, rs6, rTe⟩ := id hRc
  have qs0 := rTr.1
  have ts0 := hTp.1
  have ls0 := hLw.1
  refine r_iload_n X dX10_isPlan_0 rfl rfl ?_
  refine r_if_lt (tgt := 16) X dX10_isPlan_1 (by decide) (fun h1 => ?_) (fun h1 => ?_)
  · skip
    refine r_iconst (v := 0) X dX10_isPlan_16 (by decide) ?_
    refine r_ireturn X dX10_isPlan_17 rfl (by first | omega | decide | (simp only [rmL, rmA]; omega)) (by first | omega | decide | (simp only [rmL, rmA]; omega)) ?_
    refine ⟨?_, rfl⟩
    first | (rw [ixI, if_pos ⟨Int32.not_lt.mp h1, Int32.not_le.mp h9⟩]; rfl; done) | (rw [ixI, if_neg (fun z => absurd h1 (Int32.not_lt.mpr z.1))]; rfl; done) | (rw [ixI, if_neg (fun z => absurd h9 (Int32.not_le.mpr z.2))]; rfl; done)
  · skip
    refine r_iload_n X dX10_isPlan_4 rfl rfl ?_
    refine r_aload_n X dX10_isPlan_5 rfl rfl ?_
    refine r_getI X dX10_isPlan_6 fX10_52 (by assumption) (by first | assumption | rfl) ?_
    refine r_icmp_ge (tgt := 16) X dX10_isPlan_9 (by decide) (fun h9 => ?_) (fun h9 => ?_)
    · skip
      refine r_iconst (v := 0) X dX10_isPlan_16 (by decide) ?_
      refine r_ireturn X dX10_isPlan_17 rfl (by first | omega | decide | (simp only [rmL, rmA]; omega)) (by first | omega | decide | (simp only [rmL, rmA]; omega)) ?_
      refine ⟨?_, rfl⟩
      first | (rw [ixI, if_pos ⟨Int32.not_lt.mp h1, Int32.not_le.mp h9⟩]; rfl; done) | (rw [ixI, if_neg (fun z => absurd h1 (Int32.not_lt.mpr z.1))]; rfl; done) | (rw [ixI, if_neg (fun z => absurd h9 (Int32.not_le.mpr z.2))]; rfl; done)
    · skip
      refine r_iconst (v := 1) X dX10_isPlan_12 (by decide) ?_
      refine r_goto (tgt := 17) X dX10_isPlan_13 (by decide) ?_
      refine r_ireturn X dX10_isPlan_17 rfl (by first | omega | decide | (simp only [rmL, rmA]; omega)) (by first | omega | decide | (simp only [rmL, rmA]; omega)) ?_
      refine ⟨?_, rfl⟩
      first | (rw [ixI, if_pos ⟨Int32.not_lt.mp h1, Int32.not_le.mp h9⟩]; rfl; done) | (rw [ixI, if_neg (fun z => absurd h1 (Int32.not_lt.mpr z.1))]; rfl; done) | (rw [ixI, if_neg (fun z => absurd h9 (Int32.not_le.mpr z.2))]; rfl; done)
set_option maxHeartbeats 2000000 in
set_option maxRecDepth 20000 in
/-- SledHouse.isLaw -/
theorem c_hIsLaw {E : Ev} (GE : Glob E) (S : Nat → Option (Nat × Nat)) (I : Nat → Nat → Int32) (V : Nat → Nat → Option Nat) (J : Nat → Nat → Int64) (N : Nat) (h c : Nat) (x : Int32) (hH : HouseSh S V h) (hc : I (h + 4) 4 = nI c) : Ct E yX10_isLaw cX10_isLaw 2 (some .boolean) (rmL 0) [.ref h, .int x] (S, I, V, J, N) (fun v w' => v = some (.int (bI (ixI x c).isSome)) ∧ w' = (S, I, V, J, N)) := by
  refine Ct.start GE (by decide) rfl (Nat.le_of_ble_eq_true rfl) (fun M X => ?_)
  have X : Cx E M RX10 cX10_isLaw 2 (rmL 0) (some .boolean) "isLaw" := X
  refine r_loc (L' := [some (.ref h), some (.int x)]) rfl ?_
  obtain ⟨hs0, hv0, hv1, hv2, hv3, hv4, hv5, hTp, hs3, hPl, hLw, hRc, hs76, hGh, hRow⟩ := id hH
  obtain ⟨rs0, rv0, rv1, rTr, rs6, rTe⟩ := id hRc
  have qs0 := rTr.1
  have ts0 := hTp.1
  have ls0 := hLw.1
  refine r_iload_n X dX10_isLaw_0 rfl rfl ?_
  refine r_if_lt (tgt := 19) X dX10_isLaw_1 (by decide) (fun h1 => ?_) (fun h1 => ?_)
  · skip
    refine r_iconst (v := 0) X dX10_isLaw_19 (by decide) ?_
    refine r_ireturn X dX10_isLaw_20 rfl (by first | omega | decide | (simp only [rmL, rmA]; omega)) (by first | omega | decide | (simp only [rmL, rmA]; omega)) ?_
    refine ⟨?_, rfl⟩
    first | (rw [ixI, if_pos ⟨Int32.not_lt.mp h1, Int32.not_le.mp h12⟩]; rfl; done) | (rw [ixI, if_neg (fun z => absurd h1 (Int32.not_lt.mpr z.1))]; rfl; done) | (rw [ixI, if_neg (fun z => absurd h12 (Int32.not_le.mpr z.2))]; rfl; done)
  · skip
    refine r_iload_n X dX10_isLaw_4 rfl rfl ?_
    refine r_aload_n X dX10_isLaw_5 rfl rfl ?_
    refine r_getR X dX10_isLaw_6 fX10_25 (by assumption) (by assumption) ?_
    refine r_getI X dX10_isLaw_9 fX10_130 (by assumption) (by first | assumption | rfl) ?_
    refine r_icmp_ge (tgt := 19) X dX10_isLaw_12 (by decide) (fun h12 => ?_) (fun h12 => ?_)
    · skip
      refine r_iconst (v := 0) X dX10_isLaw_19 (by decide) ?_
      refine r_ireturn X dX10_isLaw_20 rfl (by first | omega | decide | (simp only [rmL, rmA]; omega)) (by first | omega | decide | (simp only [rmL, rmA]; omega)) ?_
      refine ⟨?_, rfl⟩
      first | (rw [ixI, if_pos ⟨Int32.not_lt.mp h1, Int32.not_le.mp h12⟩]; rfl; done) | (rw [ixI, if_neg (fun z => absurd h1 (Int32.not_lt.mpr z.1))]; rfl; done) | (rw [ixI, if_neg (fun z => absurd h12 (Int32.not_le.mpr z.2))]; rfl; done)
    · skip
      refine r_iconst (v := 1) X dX10_isLaw_15 (by decide) ?_
      refine r_goto (tgt := 20) X dX10_isLaw_16 (by decide) ?_
      refine r_ireturn X dX10_isLaw_20 rfl (by first | omega | decide | (simp only [rmL, rmA]; omega)) (by first | omega | decide | (simp only [rmL, rmA]; omega)) ?_
      refine ⟨?_, rfl⟩
      first | (rw [ixI, if_pos ⟨Int32.not_lt.mp h1, Int32.not_le.mp h12⟩]; rfl; done) | (rw [ixI, if_neg (fun z => absurd h1 (Int32.not_lt.mpr z.1))]; rfl; done) | (rw [ixI, if_neg (fun z => absurd h12 (Int32.not_le.mpr z.2))]; rfl; done)
theorem le_nI {x : Int32} {n : Nat} (hn : n + 1 < 2 ^ 31) (h0 : 0 ≤ x) : x ≤ nI n ↔ x < nI (n + 1) := by
  obtain ⟨j, hj, rfl⟩ := nI_of (Int32.not_lt.mpr h0)
  rw [nI_leI hj (by omega), nI_ltI hj hn]
  omega
set_option maxHeartbeats 2000000 in
set_option maxRecDepth 20000 in
/-- SledHouse.isPost -/
theorem c_hIsPost {E : Ev} (GE : Glob E) (S : Nat → Option (Nat × Nat)) (I : Nat → Nat → Int32) (V : Nat → Nat → Option Nat) (J : Nat → Nat → Int64) (N : Nat) (h n : Nat) (x : Int32) (hH : HouseSh S V h) (hn : I (h + 9 + 1) 4 = nI n) (hn12 : n ≤ 12) : Ct E yX10_isPost cX10_isPost 2 (some .boolean) (rmL 0) [.ref h, .int x] (S, I, V, J, N) (fun v w' => v = some (.int (bI (ixI x (n + 1)).isSome)) ∧ w' = (S, I, V, J, N)) := by
  refine Ct.start GE (by decide) rfl (Nat.le_of_ble_eq_true rfl) (fun M X => ?_)
  have X : Cx E M RX10 cX10_isPost 2 (rmL 0) (some .boolean) "isPost" := X
  refine r_loc (L' := [some (.ref h), some (.int x)]) rfl ?_
  obtain ⟨hs0, hv0, hv1, hv2, hv3, hv4, hv5, hTp, hs3, hPl, hLw, hRc, hs76, hGh, hRow⟩ := id hH
  obtain ⟨rs0, rv0, rv1, rTr, rs6, rTe⟩ := id hRc
  have qs0 := rTr.1
  have ts0 := hTp.1
  have ls0 := hLw.1
  refine r_iload_n X dX10_isPost_0 rfl rfl ?_
  refine r_if_lt (tgt := 22) X dX10_isPost_1 (by decide) (fun h1 => ?_) (fun h1 => ?_)
  · skip
    refine r_iconst (v := 0) X dX10_isPost_22 (by decide) ?_
    refine r_ireturn X dX10_isPost_23 rfl (by first | omega | decide | (simp only [rmL, rmA]; omega)) (by first | omega | decide | (simp only [rmL, rmA]; omega)) ?_
    refine ⟨?_, rfl⟩
    first | (rw [ixI, if_pos ⟨Int32.not_lt.mp h1, (le_nI (by omega) (Int32.not_lt.mp h1)).mp (Int32.not_lt.mp h15)⟩]; rfl; done) | (rw [ixI, if_neg (fun z => absurd h1 (Int32.not_lt.mpr z.1))]; rfl; done) | (rw [ixI, if_neg (fun z => absurd h15 (Int32.not_lt.mpr ((le_nI (by omega) z.1).mpr z.2)))]; rfl; done)
  · skip
    refine r_iload_n X dX10_isPost_4 rfl rfl ?_
    refine r_aload_n X dX10_isPost_5 rfl rfl ?_
    refine r_getR X dX10_isPost_6 fX10_32 (by assumption) (by assumption) ?_
    refine r_getR X dX10_isPost_9 fX10_81 (by assumption) (by assumption) ?_
    refine r_getI X dX10_isPost_12 fX10_85 (by assumption) (by first | assumption | rfl) ?_
    refine r_icmp_gt (tgt := 22) X dX10_isPost_15 (by decide) (fun h15 => ?_) (fun h15 => ?_)
    · skip
      refine r_iconst (v := 0) X dX10_isPost_22 (by decide) ?_
      refine r_ireturn X dX10_isPost_23 rfl (by first | omega | decide | (simp only [rmL, rmA]; omega)) (by first | omega | decide | (simp only [rmL, rmA]; omega)) ?_
      refine ⟨?_, rfl⟩
      first | (rw [ixI, if_pos ⟨Int32.not_lt.mp h1, (le_nI (by omega) (Int32.not_lt.mp h1)).mp (Int32.not_lt.mp h15)⟩]; rfl; done) | (rw [ixI, if_neg (fun z => absurd h1 (Int32.not_lt.mpr z.1))]; rfl; done) | (rw [ixI, if_neg (fun z => absurd h15 (Int32.not_lt.mpr ((le_nI (by omega) z.1).mpr z.2)))]; rfl; done)
    · skip
      refine r_iconst (v := 1) X dX10_isPost_18 (by decide) ?_
      refine r_goto (tgt := 23) X dX10_isPost_19 (by decide) ?_
      refine r_ireturn X dX10_isPost_23 rfl (by first | omega | decide | (simp only [rmL, rmA]; omega)) (by first | omega | decide | (simp only [rmL, rmA]; omega)) ?_
      refine ⟨?_, rfl⟩
      first | (rw [ixI, if_pos ⟨Int32.not_lt.mp h1, (le_nI (by omega) (Int32.not_lt.mp h1)).mp (Int32.not_lt.mp h15)⟩]; rfl; done) | (rw [ixI, if_neg (fun z => absurd h1 (Int32.not_lt.mpr z.1))]; rfl; done) | (rw [ixI, if_neg (fun z => absurd h15 (Int32.not_lt.mpr ((le_nI (by omega) z.1).mpr z.2)))]; rfl; done)
set_option maxHeartbeats 2000000 in
set_option maxRecDepth 20000 in
/-- SledHouse.fault -/
theorem c_hFault {E : Ev} (GE : Glob E) (S : Nat → Option (Nat × Nat)) (I : Nat → Nat → Int32) (V : Nat → Nat → Option Nat) (J : Nat → Nat → Int64) (N : Nat) (h : Nat) (hH : HouseSh S V h) : Ct E yX10_fault cX10_fault 1 (some .int) (rmL 0) [.ref h] (S, I, V, J, N) (fun v w' => v = some (.int (I (h + 1) 7)) ∧ w' = (S, I, V, J, N)) := by
  refine Ct.start GE (by decide) rfl (Nat.le_of_ble_eq_true rfl) (fun M X => ?_)
  have X : Cx E M RX10 cX10_fault 1 (rmL 0) (some .int) "fault" := X
  refine r_loc (L' := [some (.ref h)]) rfl ?_
  obtain ⟨hs0, hv0, hv1, hv2, hv3, hv4, hv5, hTp, hs3, hPl, hLw, hRc, hs76, hGh, hRow⟩ := id hH
  obtain ⟨rs0, rv0, rv1, rTr, rs6, rTe⟩ := id hRc
  have qs0 := rTr.1
  have ts0 := hTp.1
  have ls0 := hLw.1
  refine r_aload_n X dX10_fault_0 rfl rfl ?_
  refine r_getR X dX10_fault_1 fX10_10 (by assumption) (by assumption) ?_
  refine r_getI X dX10_fault_4 fX10_133 (by assumption) (by first | assumption | rfl) ?_
  refine r_ireturn X dX10_fault_7 rfl (by first | omega | decide | (simp only [rmL, rmA]; omega)) (by first | omega | decide | (simp only [rmL, rmA]; omega)) ?_
  exact ⟨rfl, rfl⟩
set_option maxHeartbeats 2000000 in
set_option maxRecDepth 20000 in
/-- SledHouse.where -/
theorem c_hWhere {E : Ev} (GE : Glob E) (S : Nat → Option (Nat × Nat)) (I : Nat → Nat → Int32) (V : Nat → Nat → Option Nat) (J : Nat → Nat → Int64) (N : Nat) (h : Nat) (hH : HouseSh S V h) : Ct E yX10_where cX10_where 1 (some .int) (rmL 0) [.ref h] (S, I, V, J, N) (fun v w' => v = some (.int (if I h 8 = 4 then I (h + 1) 8 else -1)) ∧ w' = (S, I, V, J, N)) := by
  refine Ct.start GE (by decide) rfl (Nat.le_of_ble_eq_true rfl) (fun M X => ?_)
  have X : Cx E M RX10 cX10_where 1 (rmL 0) (some .int) "where" := X
  refine r_loc (L' := [some (.ref h)]) rfl ?_
  obtain ⟨hs0, hv0, hv1, hv2, hv3, hv4, hv5, hTp, hs3, hPl, hLw, hRc, hs76, hGh, hRow⟩ := id hH
  obtain ⟨rs0, rv0, rv1, rTr, rs6, rTe⟩ := id hRc
  have qs0 := rTr.1
  have ts0 := hTp.1
  have ls0 := hLw.1
  refine r_aload_n X dX10_where_0 rfl rfl ?_
  refine r_getI X dX10_where_1 fX10_56 (by assumption) (by first | assumption | rfl) ?_
  refine r_iconst (v := 4) X dX10_where_4 (by decide) ?_
  refine r_icmp_ne (tgt := 18) X dX10_where_5 (by decide) (fun h5 => ?_) (fun h5 => ?_)
  · skip
    refine r_iconst (v := -1) X dX10_where_18 (by decide) ?_
    refine r_ireturn X dX10_where_19 rfl (by first | omega | decide | (simp only [rmL, rmA]; omega)) (by first | omega | decide | (simp only [rmL, rmA]; omega)) ?_
    exact ⟨by simp [*], rfl⟩
  · skip
    refine r_aload_n X dX10_where_8 rfl rfl ?_
    refine r_getR X dX10_where_9 fX10_10 (by assumption) (by assumption) ?_
    refine r_getI X dX10_where_12 fX10_136 (by assumption) (by first | assumption | rfl) ?_
    refine r_goto (tgt := 19) X dX10_where_15 (by decide) ?_
    refine r_ireturn X dX10_where_19 rfl (by first | omega | decide | (simp only [rmL, rmA]; omega)) (by first | omega | decide | (simp only [rmL, rmA]; omega)) ?_
    exact ⟨by simp [*], rfl⟩
set_option maxHeartbeats 2000000 in
set_option maxRecDepth 20000 in
/-- SledHouse.trouble -/
theorem c_hTrouble {E : Ev} (GE : Glob E) (S : Nat → Option (Nat × Nat)) (I : Nat → Nat → Int32) (V : Nat → Nat → Option Nat) (J : Nat → Nat → Int64) (N : Nat) (h : Nat) (hH : HouseSh S V h) : Ct E yX10_trouble cX10_trouble 1 (some .int) (rmL 0) [.ref h] (S, I, V, J, N) (fun v w' => v = some (.int (I h 8)) ∧ w' = (S, I, V, J, N)) := by
  refine Ct.start GE (by decide) rfl (Nat.le_of_ble_eq_true rfl) (fun M X => ?_)
  have X : Cx E M RX10 cX10_trouble 1 (rmL 0) (some .int) "trouble" := X
  refine r_loc (L' := [some (.ref h)]) rfl ?_
  obtain ⟨hs0, hv0, hv1, hv2, hv3, hv4, hv5, hTp, hs3, hPl, hLw, hRc, hs76, hGh, hRow⟩ := id hH
  obtain ⟨rs0, rv0, rv1, rTr, rs6, rTe⟩ := id hRc
  have qs0 := rTr.1
  have ts0 := hTp.1
  have ls0 := hLw.1
  refine r_aload_n X dX10_trouble_0 rfl rfl ?_
  refine r_getI X dX10_trouble_1 fX10_56 (by assumption) (by first | assumption | rfl) ?_
  refine r_ireturn X dX10_trouble_4 rfl (by first | omega | decide | (simp only [rmL, rmA]; omega)) (by first | omega | decide | (simp only [rmL, rmA]; omega)) ?_
  exact ⟨rfl, rfl⟩
def hCount (I : Mem) (h n : Nat) (x : Int32) : Int32 := if x = 0 then nI n else if x = 1 then I (h + 9) 2 else if x = 2 then I h 7 else if x = 3 then I (h + 4) 4 else if x = 4 then I (h + 9) 3 else if x = 5 then I (h + 9 + 1 + 3) n else if x = 6 then I (h + 1) 1 else -1
set_option maxHeartbeats 2000000 in
set_option maxRecDepth 20000 in
/-- SledHouse.count -/
theorem c_hCount {E : Ev} (GE : Glob E) (S : Nat → Option (Nat × Nat)) (I : Nat → Nat → Int32) (V : Nat → Nat → Option Nat) (J : Nat → Nat → Int64) (N : Nat) (h n : Nat) (x : Int32) (hH : HouseSh S V h) (hn : I (h + 9 + 1) 4 = nI n) (hn12 : n ≤ 12) : Ct E yX10_count cX10_count 2 (some .int) (rmL 1) [.ref h, .int x] (S, I, V, J, N) (fun v w' => v = some (.int (hCount I h n x)) ∧ w' = (S, I, V, J, N)) := by
  refine Ct.start GE (by decide) rfl (Nat.le_of_ble_eq_true rfl) (fun M X => ?_)
  have X : Cx E M RX10 cX10_count 2 (rmL 1) (some .int) "count" := X
  refine r_loc (L' := [some (.ref h), some (.int x)]) rfl ?_
  obtain ⟨hs0, hv0, hv1, hv2, hv3, hv4, hv5, hTp, hs3, hPl, hLw, hRc, hs76, hGh, hRow⟩ := id hH
  obtain ⟨rs0, rv0, rv1, rTr, rs6, rTe⟩ := id hRc
  have qs0 := rTr.1
  have ts0 := hTp.1
  have ls0 := hLw.1
  refine r_iload_n X dX10_count_0 rfl rfl ?_
  refine r_sw (0) (fun h1_0 => ?_) (fun h1_0 => ?_)
  · skip
    refine r_tableIn (off := 43) (tgt := 44) X dX10_count_1 (by rw [h1_0]; decide) (by rw [h1_0]; decide) (by rw [h1_0]; rfl) (by decide) ?_
    refine r_aload_n X dX10_count_44 rfl rfl ?_
    refine r_getR X dX10_count_45 fX10_32 (by assumption) (by assumption) ?_
    refine r_getR X dX10_count_48 fX10_81 (by assumption) (by assumption) ?_
    refine r_getI X dX10_count_51 fX10_85 (by assumption) (by first | assumption | rfl) ?_
    refine r_ireturn X dX10_count_54 rfl (by first | omega | decide | (simp only [rmL, rmA]; omega)) (by first | omega | decide | (simp only [rmL, rmA]; omega)) ?_
    exact ⟨by simp [hCount, *], rfl⟩
  · skip
    refine r_sw (1) (fun h1_1 => ?_) (fun h1_1 => ?_)
    · skip
      refine r_tableIn (off := 54) (tgt := 55) X dX10_count_1 (by rw [h1_1]; decide) (by rw [h1_1]; decide) (by rw [h1_1]; rfl) (by decide) ?_
      refine r_aload_n X dX10_count_55 rfl rfl ?_
      refine r_getR X dX10_count_56 fX10_32 (by assumption) (by assumption) ?_
      refine r_getI X dX10_count_59 fX10_142 (by assumption) (by first | assumption | rfl) ?_
      refine r_ireturn X dX10_count_62 rfl (by first | omega | decide | (simp only [rmL, rmA]; omega)) (by first | omega | decide | (simp only [rmL, rmA]; omega)) ?_
      exact ⟨by simp [hCount, *], rfl⟩
    · skip
      refine r_sw (2) (fun h1_2 => ?_) (fun h1_2 => ?_)
      · skip
        refine r_tableIn (off := 62) (tgt := 63) X dX10_count_1 (by rw [h1_2]; decide) (by rw [h1_2]; decide) (by rw [h1_2]; rfl) (by decide) ?_
        refine r_aload_n X dX10_count_63 rfl rfl ?_
        refine r_getI X dX10_count_64 fX10_52 (by assumption) (by first | assumption | rfl) ?_
        refine r_ireturn X dX10_count_67 rfl (by first | omega | decide | (simp only [rmL, rmA]; omega)) (by first | omega | decide | (simp only [rmL, rmA]; omega)) ?_
        exact ⟨by simp [hCount, *], rfl⟩
      · skip
        refine r_sw (3) (fun h1_3 => ?_) (fun h1_3 => ?_)
        · skip
          refine r_tableIn (off := 67) (tgt := 68) X dX10_count_1 (by rw [h1_3]; decide) (by rw [h1_3]; decide) (by rw [h1_3]; rfl) (by decide) ?_
          refine r_aload_n X dX10_count_68 rfl rfl ?_
          refine r_getR X dX10_count_69 fX10_25 (by assumption) (by assumption) ?_
          refine r_getI X dX10_count_72 fX10_130 (by assumption) (by first | assumption | rfl) ?_
          refine r_ireturn X dX10_count_75 rfl (by first | omega | decide | (simp only [rmL, rmA]; omega)) (by first | omega | decide | (simp only [rmL, rmA]; omega)) ?_
          exact ⟨by simp [hCount, *], rfl⟩
        · skip
          refine r_sw (4) (fun h1_4 => ?_) (fun h1_4 => ?_)
          · skip
            refine r_tableIn (off := 75) (tgt := 76) X dX10_count_1 (by rw [h1_4]; decide) (by rw [h1_4]; decide) (by rw [h1_4]; rfl) (by decide) ?_
            refine r_aload_n X dX10_count_76 rfl rfl ?_
            refine r_getR X dX10_count_77 fX10_32 (by assumption) (by assumption) ?_
            refine r_getI X dX10_count_80 fX10_70 (by assumption) (by first | assumption | rfl) ?_
            refine r_ireturn X dX10_count_83 rfl (by first | omega | decide | (simp only [rmL, rmA]; omega)) (by first | omega | decide | (simp only [rmL, rmA]; omega)) ?_
            exact ⟨by simp [hCount, *], rfl⟩
          · skip
            refine r_sw (5) (fun h1_5 => ?_) (fun h1_5 => ?_)
            · skip
              refine r_tableIn (off := 83) (tgt := 84) X dX10_count_1 (by rw [h1_5]; decide) (by rw [h1_5]; decide) (by rw [h1_5]; rfl) (by decide) ?_
              refine r_aload_n X dX10_count_84 rfl rfl ?_
              refine r_getR X dX10_count_85 fX10_32 (by assumption) (by assumption) ?_
              refine r_getR X dX10_count_88 fX10_81 (by assumption) (by assumption) ?_
              refine q_callV X dX10_count_91 mX10_285 cwX9_whole (c_trWhole GE S I V J N (h + 9 + 1) n rTr hn hn12) rfl (by assumption) rfl rfl rfl (Nat.le_of_ble_eq_true rfl) ⟨Nat.le_of_ble_eq_true rfl, Nat.le_of_ble_eq_true rfl⟩ ⟨(by first | omega | decide | (simp only [rmL, rmA]; omega)), (by first | omega | decide | (simp only [rmL, rmA]; omega))⟩ ?_
              rintro _ _ ⟨rfl, rfl⟩
              refine r_ireturn X dX10_count_94 rfl (by first | omega | decide | (simp only [rmL, rmA]; omega)) (by first | omega | decide | (simp only [rmL, rmA]; omega)) ?_
              exact ⟨by simp [hCount, *], rfl⟩
            · skip
              refine r_sw (6) (fun h1_6 => ?_) (fun h1_6 => ?_)
              · skip
                refine r_tableIn (off := 94) (tgt := 95) X dX10_count_1 (by rw [h1_6]; decide) (by rw [h1_6]; decide) (by rw [h1_6]; rfl) (by decide) ?_
                refine r_aload_n X dX10_count_95 rfl rfl ?_
                refine r_getR X dX10_count_96 fX10_10 (by assumption) (by assumption) ?_
                refine r_getI X dX10_count_99 fX10_115 (by assumption) (by first | assumption | rfl) ?_
                refine r_ireturn X dX10_count_102 rfl (by first | omega | decide | (simp only [rmL, rmA]; omega)) (by first | omega | decide | (simp only [rmL, rmA]; omega)) ?_
                exact ⟨by simp [hCount, *], rfl⟩
              · skip
                refine r_tableOut (tgt := 103) X dX10_count_1 (by have e0 := lv_neT (a := 0) h1_0 (by decide); have e1 := lv_neT (a := 1) h1_1 (by decide); have e2 := lv_neT (a := 2) h1_2 (by decide); have e3 := lv_neT (a := 3) h1_3 (by decide); have e4 := lv_neT (a := 4) h1_4 (by decide); have e5 := lv_neT (a := 5) h1_5 (by decide); have e6 := lv_neT (a := 6) h1_6 (by decide); omega) (by decide) ?_
                refine r_iconst (v := -1) X dX10_count_103 (by decide) ?_
                refine r_ireturn X dX10_count_104 rfl (by first | omega | decide | (simp only [rmL, rmA]; omega)) (by first | omega | decide | (simp only [rmL, rmA]; omega)) ?_
                exact ⟨by simp [hCount, *], rfl⟩
def hLaw (I : Mem) (h k : Nat) (x y : Int32) : Int32 := match ixI x k with
  | none => -1
  | some i => lPart I (h + 4) i y
set_option maxHeartbeats 2000000 in
set_option maxRecDepth 20000 in
/-- SledHouse.law -/
theorem c_hLaw {E : Ev} (GE : Glob E) (S : Nat → Option (Nat × Nat)) (I : Nat → Nat → Int32) (V : Nat → Nat → Option Nat) (J : Nat → Nat → Int64) (N : Nat) (h k : Nat) (x y : Int32) (hH : HouseSh S V h) (hk : I (h + 4) 4 = nI k) (hk10 : k ≤ 10) : Ct E yX10_law cX10_law 3 (some .int) (rmL 1) [.ref h, .int x, .int y] (S, I, V, J, N) (fun v w' => v = some (.int (hLaw I h k x y)) ∧ w' = (S, I, V, J, N)) := by
  refine Ct.start GE (by decide) rfl (Nat.le_of_ble_eq_true rfl) (fun M X => ?_)
  have X : Cx E M RX10 cX10_law 3 (rmL 1) (some .int) "law" := X
  refine r_loc (L' := [some (.ref h), some (.int x), some (.int y)]) rfl ?_
  obtain ⟨hs0, hv0, hv1, hv2, hv3, hv4, hv5, hTp, hs3, hPl, hLw, hRc, hs76, hGh, hRow⟩ := id hH
  obtain ⟨rs0, rv0, rv1, rTr, rs6, rTe⟩ := id hRc
  have qs0 := rTr.1
  have ts0 := hTp.1
  have ls0 := hLw.1
  rcases hx : ixI x k with _ | i
  · skip
    refine r_aload_n X dX10_law_0 rfl rfl ?_
    refine r_iload_n X dX10_law_1 rfl rfl ?_
    refine q_callV X dX10_law_2 mX10_249 cwX10_isLaw (c_hIsLaw GE S I V J N h k x hH hk) rfl (by assumption) rfl rfl rfl (Nat.le_of_ble_eq_true rfl) ⟨Nat.le_of_ble_eq_true rfl, Nat.le_of_ble_eq_true rfl⟩ ⟨(by first | omega | decide | (simp only [rmL, rmA]; omega)), (by first | omega | decide | (simp only [rmL, rmA]; omega))⟩ ?_
    rintro _ _ ⟨rfl, rfl⟩
    refine r_if_eq (tgt := 20) X dX10_law_5 (by decide) (fun h5 => ?_) (fun h5 => ?_)
    · skip
      refine r_iconst (v := -1) X dX10_law_20 (by decide) ?_
      refine r_ireturn X dX10_law_21 rfl (by first | omega | decide | (simp only [rmL, rmA]; omega)) (by first | omega | decide | (simp only [rmL, rmA]; omega)) ?_
      exact ⟨by simp [hLaw, hx], rfl⟩
    · skip
      exact (ix_f hx h5).elim
  · obtain ⟨hi, rfl⟩ := ixI_some (by omega) hx
    refine r_aload_n X dX10_law_0 rfl rfl ?_
    refine r_iload_n X dX10_law_1 rfl rfl ?_
    refine q_callV X dX10_law_2 mX10_249 cwX10_isLaw (c_hIsLaw GE S I V J N h k _ hH hk) rfl (by assumption) rfl rfl rfl (Nat.le_of_ble_eq_true rfl) ⟨Nat.le_of_ble_eq_true rfl, Nat.le_of_ble_eq_true rfl⟩ ⟨(by first | omega | decide | (simp only [rmL, rmA]; omega)), (by first | omega | decide | (simp only [rmL, rmA]; omega))⟩ ?_
    rintro _ _ ⟨rfl, rfl⟩
    refine r_if_eq (tgt := 20) X dX10_law_5 (by decide) (fun h5 => ?_) (fun h5 => ?_)
    · skip
      exact (ix_t hx h5).elim
    · skip
      refine r_aload_n X dX10_law_8 rfl rfl ?_
      refine r_getR X dX10_law_9 fX10_25 (by assumption) (by assumption) ?_
      refine r_iload_n X dX10_law_12 rfl rfl ?_
      refine r_iload_n X dX10_law_13 rfl rfl ?_
      refine q_callV X dX10_law_14 mX10_276 cwX2_part (c_lPart GE S I V J N (h + 4) i y hLw (by omega)) rfl (by assumption) rfl rfl rfl (Nat.le_of_ble_eq_true rfl) ⟨Nat.le_of_ble_eq_true rfl, Nat.le_of_ble_eq_true rfl⟩ ⟨(by first | omega | decide | (simp only [rmL, rmA]; omega)), (by first | omega | decide | (simp only [rmL, rmA]; omega))⟩ ?_
      rintro _ _ ⟨rfl, rfl⟩
      refine r_goto (tgt := 21) X dX10_law_17 (by decide) ?_
      refine r_ireturn X dX10_law_21 rfl (by first | omega | decide | (simp only [rmL, rmA]; omega)) (by first | omega | decide | (simp only [rmL, rmA]; omega)) ?_
      exact ⟨by simp [hLaw, hx], rfl⟩
def hPlanned (I : Mem) (h c : Nat) (x y : Int32) : Int32 := match ixI x c with
  | none => -1
  | some i => if y = 0 then I (h + 87 + 7 * i) 6 else if y = 1 then I (h + 87 + 7 * i) 7 else -1
set_option maxHeartbeats 2000000 in
set_option maxRecDepth 20000 in
/-- SledHouse.planned -/
theorem c_hPlanned {E : Ev} (GE : Glob E) (S : Nat → Option (Nat × Nat)) (I : Nat → Nat → Int32) (V : Nat → Nat → Option Nat) (J : Nat → Nat → Int64) (N : Nat) (h c : Nat) (x y : Int32) (hH : HouseSh S V h) (hc : I h 7 = nI c) (hc8 : c ≤ 8) : Ct E yX10_planned cX10_planned 3 (some .int) (rmL 1) [.ref h, .int x, .int y] (S, I, V, J, N) (fun v w' => v = some (.int (hPlanned I h c x y)) ∧ w' = (S, I, V, J, N)) := by
  refine Ct.start GE (by decide) rfl (Nat.le_of_ble_eq_true rfl) (fun M X => ?_)
  have X : Cx E M RX10 cX10_planned 3 (rmL 1) (some .int) "planned" := X
  refine r_loc (L' := [some (.ref h), some (.int x), some (.int y)]) rfl ?_
  obtain ⟨hs0, hv0, hv1, hv2, hv3, hv4, hv5, hTp, hs3, hPl, hLw, hRc, hs76, hGh, hRow⟩ := id hH
  obtain ⟨rs0, rv0, rv1, rTr, rs6, rTe⟩ := id hRc
  have qs0 := rTr.1
  have ts0 := hTp.1
  have ls0 := hLw.1
  rcases hx : ixI x c with _ | i
  · skip
    refine r_aload_n X dX10_planned_0 rfl rfl ?_
    refine r_iload_n X dX10_planned_1 rfl rfl ?_
    refine q_callV X dX10_planned_2 mX10_139 cwX10_isPlan (c_hIsPlan GE S I V J N h c x hH hc) rfl (by assumption) rfl rfl rfl (Nat.le_of_ble_eq_true rfl) ⟨Nat.le_of_ble_eq_true rfl, Nat.le_of_ble_eq_true rfl⟩ ⟨(by first | omega | decide | (simp only [rmL, rmA]; omega)), (by first | omega | decide | (simp only [rmL, rmA]; omega))⟩ ?_
    rintro _ _ ⟨rfl, rfl⟩
    refine r_if_ne (tgt := 10) X dX10_planned_5 (by decide) (fun h5 => ?_) (fun h5 => ?_)
    · skip
      exact (ix_f hx h5).elim
    · skip
      refine r_iconst (v := -1) X dX10_planned_8 (by decide) ?_
      refine r_ireturn X dX10_planned_9 rfl (by first | omega | decide | (simp only [rmL, rmA]; omega)) (by first | omega | decide | (simp only [rmL, rmA]; omega)) ?_
      exact ⟨by simp [hPlanned, hx], rfl⟩
  · obtain ⟨hi, rfl⟩ := ixI_some (by omega) hx
    have hp := hPl i (by omega)
    have hp1 := hp.1
    have hp2 := hp.2.1
    refine r_aload_n X dX10_planned_0 rfl rfl ?_
    refine r_iload_n X dX10_planned_1 rfl rfl ?_
    refine q_callV X dX10_planned_2 mX10_139 cwX10_isPlan (c_hIsPlan GE S I V J N h c _ hH hc) rfl (by assumption) rfl rfl rfl (Nat.le_of_ble_eq_true rfl) ⟨Nat.le_of_ble_eq_true rfl, Nat.le_of_ble_eq_true rfl⟩ ⟨(by first | omega | decide | (simp only [rmL, rmA]; omega)), (by first | omega | decide | (simp only [rmL, rmA]; omega))⟩ ?_
    rintro _ _ ⟨rfl, rfl⟩
    refine r_if_ne (tgt := 10) X dX10_planned_5 (by decide) (fun h5 => ?_) (fun h5 => ?_)
    · skip
      refine r_iload_n X dX10_planned_10 rfl rfl ?_
      refine r_sw (0) (fun h11_0 => ?_) (fun h11_0 => ?_)
      · skip
        refine r_lookup (off := 25) (tgt := 36) X dX10_planned_11 (by decide) (by rw [h11_0]; decide) (by decide) ?_
        refine r_aload_n X dX10_planned_36 rfl rfl ?_
        refine r_getR X dX10_planned_37 fX10_18 (by assumption) (by assumption) ?_
        refine r_iload_n X dX10_planned_40 rfl rfl ?_
        refine r_aaldN X dX10_planned_41 (by assumption) (by decide) rfl (by omega) (by omega) (by assumption) ?_
        refine r_getI X dX10_planned_42 fX10_279 (by assumption) (by first | assumption | rfl) ?_
        refine r_ireturn X dX10_planned_45 rfl (by first | omega | decide | (simp only [rmL, rmA]; omega)) (by first | omega | decide | (simp only [rmL, rmA]; omega)) ?_
        exact ⟨by simp [hPlanned, hx, *], rfl⟩
      · skip
        refine r_sw (1) (fun h11_1 => ?_) (fun h11_1 => ?_)
        · skip
          refine r_lookup (off := 35) (tgt := 46) X dX10_planned_11 (by decide) (by rw [h11_1]; decide) (by decide) ?_
          refine r_aload_n X dX10_planned_46 rfl rfl ?_
          refine r_getR X dX10_planned_47 fX10_18 (by assumption) (by assumption) ?_
          refine r_iload_n X dX10_planned_50 rfl rfl ?_
          refine r_aaldN X dX10_planned_51 (by assumption) (by decide) rfl (by omega) (by omega) (by assumption) ?_
          refine r_getI X dX10_planned_52 fX10_282 (by assumption) (by first | assumption | rfl) ?_
          refine r_ireturn X dX10_planned_55 rfl (by first | omega | decide | (simp only [rmL, rmA]; omega)) (by first | omega | decide | (simp only [rmL, rmA]; omega)) ?_
          exact ⟨by simp [hPlanned, hx, *], rfl⟩
        · skip
          refine r_lookup (off := 45) (tgt := 56) X dX10_planned_11 (by decide) (by simp only []; rw [lv_osw (k := 0) h11_0 (by decide), lv_osw (k := 1) h11_1 (by decide)]; rfl) (by decide) ?_
          refine r_iconst (v := -1) X dX10_planned_56 (by decide) ?_
          refine r_ireturn X dX10_planned_57 rfl (by first | omega | decide | (simp only [rmL, rmA]; omega)) (by first | omega | decide | (simp only [rmL, rmA]; omega)) ?_
          exact ⟨by simp [hPlanned, hx, *], rfl⟩
    · skip
      exact (ix_t hx h5).elim
