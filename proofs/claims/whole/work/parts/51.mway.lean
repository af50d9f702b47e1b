/-! ===== the reference: its shape, did, way ===== -/
/-- the reference's object g but for its reader's rows -/
def MdSh (S : Nat → Option (Nat × Nat)) (V : Nat → Nat → Option Nat) (g : Nat) : Prop := S g = some (12, 0) ∧ V g 8 = some (g + 1) ∧ V g 9 = some (g + 2) ∧ V g 10 = some (g + 3) ∧ V g 11 = some (g + 4) ∧ V g 16 = some (g + 5) ∧ V g 17 = some (g + 6) ∧ V g 18 = some (g + 7) ∧ V g 19 = some (g + 8) ∧ V g 20 = some (g + 9) ∧ S (g + 1) = some (100, 12) ∧ S (g + 2) = some (100, 12) ∧ S (g + 3) = some (100, 334) ∧ S (g + 4) = some (106, 6) ∧ S (g + 5) = some (100, 12) ∧ S (g + 6) = some (100, 12) ∧ S (g + 7) = some (100, 334) ∧ S (g + 8) = some (106, 6) ∧ MtSh S V (g + 9) ∧ (∀ i, i < 6 → V (g + 4) i = some (g + 28 + 20 * i) ∧ MtSh S V (g + 28 + 20 * i)) ∧ ∀ i, i < 6 → V (g + 8) i = some (g + 38 + 20 * i) ∧ MtSh S V (g + 38 + 20 * i)
abbrev mt (g i : Nat) : Nat := g + 28 + 20 * i
def mDid (I : Mem) (g c : Nat) (x : Int32) : Int32 := match ixI x c with
  | none => -1
  | some i => I (mt g i) 10
set_option maxHeartbeats 2000000 in
set_option maxRecDepth 20000 in
/-- SledHouseModel.did -/
theorem c_mDid {E : Ev} (GE : Glob E) (S : Nat → Option (Nat × Nat)) (I : Nat → Nat → Int32) (V : Nat → Nat → Option Nat) (J : Nat → Nat → Int64) (N : Nat) (g c : Nat) (x : Int32) (hM : MdSh S V g) (hc : I g 5 = nI c) (hc6 : c ≤ 6) : Ct E yX13_did cX13_did 2 (some .int) (rmL 1) [.ref g, .int x] (S, I, V, J, N) (fun v w' => v = some (.int (mDid I g c x)) ∧ w' = (S, up2 I g 0 0, V, J, N)) := by
  refine Ct.start GE (by decide) rfl (Nat.le_of_ble_eq_true rfl) (fun M X => ?_)
  have X : Cx E M RX13 cX13_did 2 (rmL 1) (some .int) "did" := X
  refine r_loc (L' := [some (.ref g), some (.int x)]) rfl ?_
  obtain ⟨hs0, v8, v9, v10, v11, v16, v17, v18, v19, v20, s1, s2, s3, s4, s5, s6, s7, s8, hOt, hTe, hKt⟩ := id hM
  have hc1 : up2 I g 0 0 g 5 = nI c := (up2_k (by decide)).trans hc
  rcases hx : ixI x c with _ | i
  · skip
    refine r_aload_n X dX13_did_0 rfl rfl ?_
    refine r_iconst (v := 0) X dX13_did_1 (by decide) ?_
    refine r_putI X dX13_did_2 fX13_1 wX13_1 (by assumption) rfl rfl ?_
    refine r_aload_n X dX13_did_5 rfl rfl ?_
    refine r_iload_n X dX13_did_6 rfl rfl ?_
    refine q_callV X dX13_did_7 mX13_286 cwX13_isTeam (c_mIsTeam GE S _ V J N g c x hs0 hc1) rfl (by assumption) rfl rfl rfl (Nat.le_of_ble_eq_true rfl) ⟨Nat.le_of_ble_eq_true rfl, Nat.le_of_ble_eq_true rfl⟩ ⟨(by first | omega | decide | (simp only [rmL, rmA]; omega)), (by first | omega | decide | (simp only [rmL, rmA]; omega))⟩ ?_
    rintro _ _ ⟨rfl, rfl⟩
    refine r_if_eq (tgt := 25) X dX13_did_10 (by decide) (fun h10 => ?_) (fun h10 => ?_)
    · skip
      refine r_iconst (v := -1) X dX13_did_25 (by decide) ?_
      refine r_ireturn X dX13_did_26 rfl (by first | omega | decide | (simp only [rmL, rmA]; omega)) (by first | omega | decide | (simp only [rmL, rmA]; omega)) ?_
      exact ⟨by simp [mDid, hx], rfl⟩
    · skip
      exact (ix_f hx h10).elim
  · skip
    obtain ⟨hi, rfl⟩ := ixI_some (by omega) hx
    have te1 := (hTe i (by omega)).1
    have te2 := (hTe i (by omega)).2.1
    refine r_aload_n X dX13_did_0 rfl rfl ?_
    refine r_iconst (v := 0) X dX13_did_1 (by decide) ?_
    refine r_putI X dX13_did_2 fX13_1 wX13_1 (by assumption) rfl rfl ?_
    refine r_aload_n X dX13_did_5 rfl rfl ?_
    refine r_iload_n X dX13_did_6 rfl rfl ?_
    refine q_callV X dX13_did_7 mX13_286 cwX13_isTeam (c_mIsTeam GE S _ V J N g c _ hs0 hc1) rfl (by assumption) rfl rfl rfl (Nat.le_of_ble_eq_true rfl) ⟨Nat.le_of_ble_eq_true rfl, Nat.le_of_ble_eq_true rfl⟩ ⟨(by first | omega | decide | (simp only [rmL, rmA]; omega)), (by first | omega | decide | (simp only [rmL, rmA]; omega))⟩ ?_
    rintro _ _ ⟨rfl, rfl⟩
    refine r_if_eq (tgt := 25) X dX13_did_10 (by decide) (fun h10 => ?_) (fun h10 => ?_)
    · skip
      exact (ix_t hx h10).elim
    · skip
      refine r_aload_n X dX13_did_13 rfl rfl ?_
      refine r_getR X dX13_did_14 fX13_34 (by assumption) (by assumption) ?_
      refine r_iload_n X dX13_did_17 rfl rfl ?_
      refine r_aaldN X dX13_did_18 (by assumption) (by decide) rfl (by omega) (by omega) te1 ?_
      refine r_getI X dX13_did_19 fX13_342 (by assumption) (up2_a (by omega)) ?_
      refine r_goto (tgt := 26) X dX13_did_22 (by decide) ?_
      refine r_ireturn X dX13_did_26 rfl (by first | omega | decide | (simp only [rmL, rmA]; omega)) (by first | omega | decide | (simp only [rmL, rmA]; omega)) ?_
      exact ⟨by simp [mDid, hx], rfl⟩
