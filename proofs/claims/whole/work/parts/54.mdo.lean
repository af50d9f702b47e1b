/-! ===== the reference: leg, each, follow, gap, team ===== -/
def mLeg (I : Mem) (g n : Nat) (x y : Int32) : Int32 × Mem :=
  if I g 6 ≤ 0 then
    if inB x 10 2000 = true ∧ inB y 50 200 = true then
      if n < 12 then (nI (n + 1), mTrb (up2 (up2 (up2 I (g + 1) n x) (g + 2) n y) g 4 (nI (n + 1))) g 0) else (-1, mTrb I g 3)
    else (-1, mTrb I g 2)
  else (-1, mTrb I g 5)
set_option maxHeartbeats 2000000 in
set_option maxRecDepth 20000 in
/-- SledHouseModel.leg -/
theorem c_mLeg {E : Ev} (GE : Glob E) (S : Nat → Option (Nat × Nat)) (I : Nat → Nat → Int32) (V : Nat → Nat → Option Nat) (J : Nat → Nat → Int64) (N : Nat) (g n : Nat) (x y : Int32) (hM : MdSh S V g) (h0 : I g 0 = 0) (hn : I g 4 = nI n) (hn12 : n ≤ 12) : Ct E yX13_leg cX13_leg 3 (some .int) (rmL 1) [.ref g, .int x, .int y] (S, I, V, J, N) (fun v w' => v = some (.int (mLeg I g n x y).1) ∧ w' = (S, (mLeg I g n x y).2, V, J, N)) := by
  refine Ct.start GE (by decide) rfl (Nat.le_of_ble_eq_true rfl) (fun M X => ?_)
  have X : Cx E M RX13 cX13_leg 3 (rmL 1) (some .int) "leg" := X
  refine r_loc (L' := [some (.ref g), some (.int x), some (.int y)]) rfl ?_
  obtain ⟨hs0, v8, v9, v10, v11, v16, v17, v18, v19, v20, s1, s2, s3, s4, s5, s6, s7, s8, hOt, hTe, hKt⟩ := id hM
  refine r_aload_n X dX13_leg_0 rfl rfl ?_
  refine r_iconst (v := 0) X dX13_leg_1 (by decide) ?_
  refine r_putI X dX13_leg_2 fX13_1 wX13_1 (by assumption) rfl rfl ?_
  refine r_world (w' := (S, I, V, J, N)) (by rw [up2_id I h0]) ?_
  refine r_aload_n X dX13_leg_5 rfl rfl ?_
  refine r_getI X dX13_leg_6 fX13_100 (by assumption) (by first | assumption | rfl) ?_
  refine r_if_le (tgt := 18) X dX13_leg_9 (by decide) (fun h9 => ?_) (fun h9 => ?_)
  · skip
    refine r_iload_n X dX13_leg_18 rfl rfl ?_
    refine r_bipush (v := 10) X dX13_leg_19 (by decide) ?_
    refine r_sipush (v := 2000) X dX13_leg_21 (by decide) ?_
    refine q_callS X dX13_leg_24 mX13_125 cwX13_in (c_mIn GE _ _ _ _) rfl rfl (Nat.le_of_ble_eq_true rfl) ⟨Nat.le_of_ble_eq_true rfl, Nat.le_of_ble_eq_true rfl⟩ ⟨(by first | omega | decide | (simp only [rmL, rmA]; omega)), (by first | omega | decide | (simp only [rmL, rmA]; omega))⟩ ?_
    rintro _ _ ⟨rfl, rfl⟩
    refine r_if_eq (tgt := 42) X dX13_leg_27 (by decide) (fun h27 => ?_) (fun h27 => ?_)
    · skip
      refine r_aload_n X dX13_leg_42 rfl rfl ?_
      refine r_iconst (v := 2) X dX13_leg_43 (by decide) ?_
      refine q_callV X dX13_leg_44 mX13_121 cwX13_refused (c_mRefused GE S I V J N g _ hs0) rfl (by assumption) rfl rfl rfl (Nat.le_of_ble_eq_true rfl) ⟨Nat.le_of_ble_eq_true rfl, Nat.le_of_ble_eq_true rfl⟩ ⟨(by first | omega | decide | (simp only [rmL, rmA]; omega)), (by first | omega | decide | (simp only [rmL, rmA]; omega))⟩ ?_
      rintro _ _ ⟨rfl, rfl⟩
      refine r_ireturn X dX13_leg_47 rfl (by first | omega | decide | (simp only [rmL, rmA]; omega)) (by first | omega | decide | (simp only [rmL, rmA]; omega)) ?_
      have hno : ¬ (inB x 10 2000 = true ∧ inB y 50 200 = true) := by
        rintro ⟨q1, q2⟩
        first | exact absurd ((bI_0 h27).symm.trans q1) (by decide) | exact absurd ((bI_0 h39).symm.trans q2) (by decide)
      exact ⟨by rw [mLeg, if_pos h9, if_neg hno], by rw [mLeg, if_pos h9, if_neg hno]⟩
    · skip
      refine r_iload_n X dX13_leg_30 rfl rfl ?_
      refine r_bipush (v := 50) X dX13_leg_31 (by decide) ?_
      refine r_sipush (v := 200) X dX13_leg_33 (by decide) ?_
      refine q_callS X dX13_leg_36 mX13_125 cwX13_in (c_mIn GE _ _ _ _) rfl rfl (Nat.le_of_ble_eq_true rfl) ⟨Nat.le_of_ble_eq_true rfl, Nat.le_of_ble_eq_true rfl⟩ ⟨(by first | omega | decide | (simp only [rmL, rmA]; omega)), (by first | omega | decide | (simp only [rmL, rmA]; omega))⟩ ?_
      rintro _ _ ⟨rfl, rfl⟩
      refine r_if_ne (tgt := 48) X dX13_leg_39 (by decide) (fun h39 => ?_) (fun h39 => ?_)
      · skip
        refine r_aload_n X dX13_leg_48 rfl rfl ?_
        refine r_getI X dX13_leg_49 fX13_91 (by assumption) (by first | assumption | rfl) ?_
        refine r_bipush (v := nI 12) X dX13_leg_52 (by decide) ?_
        refine r_icmpN_ne (tgt := 63) X dX13_leg_54 (by decide) (by omega) (by omega) (fun h54 => ?_) (fun h54 => ?_)
        · skip
          refine r_aload_n X dX13_leg_63 rfl rfl ?_
          refine r_getR X dX13_leg_64 fX13_22 (by assumption) (by assumption) ?_
          refine r_aload_n X dX13_leg_67 rfl rfl ?_
          refine r_getI X dX13_leg_68 fX13_91 (by assumption) (by first | assumption | rfl) ?_
          refine r_iload_n X dX13_leg_71 rfl rfl ?_
          refine r_iastN X dX13_leg_72 (by assumption) (by omega) (by omega) ?_
          refine r_aload_n X dX13_leg_73 rfl rfl ?_
          refine r_getR X dX13_leg_74 fX13_26 (by assumption) (by assumption) ?_
          refine r_aload_n X dX13_leg_77 rfl rfl ?_
          refine r_getI X dX13_leg_78 fX13_91 (by assumption) ((up2_a (by omega)).trans hn) ?_
          refine r_iload_n X dX13_leg_81 rfl rfl ?_
          refine r_iastN X dX13_leg_82 (by assumption) (by omega) (by omega) ?_
          refine r_aload_n X dX13_leg_83 rfl rfl ?_
          refine r_dup X dX13_leg_84 rfl ?_
          refine r_getI X dX13_leg_85 fX13_91 (by assumption) ((up2_a (by omega)).trans ((up2_a (by omega)).trans hn)) ?_
          refine r_iconst (v := 1) X dX13_leg_88 (by decide) ?_
          refine r_iadd X dX13_leg_89 ?_
          refine r_topi (nI (n + 1)) (nI_1 n) ?_
          refine r_putI X dX13_leg_90 fX13_91 wX13_91 (by assumption) rfl rfl ?_
          refine r_aload_n X dX13_leg_93 rfl rfl ?_
          refine r_aload_n X dX13_leg_94 rfl rfl ?_
          refine r_getI X dX13_leg_95 fX13_91 (by assumption) (up2_same _ _ _ _) ?_
          refine q_callV X dX13_leg_98 mX13_129 cwX13_done (c_mDone GE S _ V J N g _ hs0) rfl (by assumption) rfl rfl rfl (Nat.le_of_ble_eq_true rfl) ⟨Nat.le_of_ble_eq_true rfl, Nat.le_of_ble_eq_true rfl⟩ ⟨(by first | omega | decide | (simp only [rmL, rmA]; omega)), (by first | omega | decide | (simp only [rmL, rmA]; omega))⟩ ?_
          rintro _ _ ⟨rfl, rfl⟩
          refine r_ireturn X dX13_leg_101 rfl (by first | omega | decide | (simp only [rmL, rmA]; omega)) (by first | omega | decide | (simp only [rmL, rmA]; omega)) ?_
          have hyes : inB x 10 2000 = true ∧ inB y 50 200 = true := ⟨bI_1 h27, bI_1 h39⟩
          exact ⟨by rw [mLeg, if_pos h9, if_pos hyes, if_pos (by omega)], by rw [mLeg, if_pos h9, if_pos hyes, if_pos (by omega)]⟩
        · skip
          refine r_aload_n X dX13_leg_57 rfl rfl ?_
          refine r_iconst (v := 3) X dX13_leg_58 (by decide) ?_
          refine q_callV X dX13_leg_59 mX13_121 cwX13_refused (c_mRefused GE S I V J N g _ hs0) rfl (by assumption) rfl rfl rfl (Nat.le_of_ble_eq_true rfl) ⟨Nat.le_of_ble_eq_true rfl, Nat.le_of_ble_eq_true rfl⟩ ⟨(by first | omega | decide | (simp only [rmL, rmA]; omega)), (by first | omega | decide | (simp only [rmL, rmA]; omega))⟩ ?_
          rintro _ _ ⟨rfl, rfl⟩
          refine r_ireturn X dX13_leg_62 rfl (by first | omega | decide | (simp only [rmL, rmA]; omega)) (by first | omega | decide | (simp only [rmL, rmA]; omega)) ?_
          have hyes : inB x 10 2000 = true ∧ inB y 50 200 = true := ⟨bI_1 h27, bI_1 h39⟩
          exact ⟨by rw [mLeg, if_pos h9, if_pos hyes, if_neg (by omega)], by rw [mLeg, if_pos h9, if_pos hyes, if_neg (by omega)]⟩
      · skip
        refine r_aload_n X dX13_leg_42 rfl rfl ?_
        refine r_iconst (v := 2) X dX13_leg_43 (by decide) ?_
        refine q_callV X dX13_leg_44 mX13_121 cwX13_refused (c_mRefused GE S I V J N g _ hs0) rfl (by assumption) rfl rfl rfl (Nat.le_of_ble_eq_true rfl) ⟨Nat.le_of_ble_eq_true rfl, Nat.le_of_ble_eq_true rfl⟩ ⟨(by first | omega | decide | (simp only [rmL, rmA]; omega)), (by first | omega | decide | (simp only [rmL, rmA]; omega))⟩ ?_
        rintro _ _ ⟨rfl, rfl⟩
        refine r_ireturn X dX13_leg_47 rfl (by first | omega | decide | (simp only [rmL, rmA]; omega)) (by first | omega | decide | (simp only [rmL, rmA]; omega)) ?_
        have hno : ¬ (inB x 10 2000 = true ∧ inB y 50 200 = true) := by
          rintro ⟨q1, q2⟩
          first | exact absurd ((bI_0 h27).symm.trans q1) (by decide) | exact absurd ((bI_0 h39).symm.trans q2) (by decide)
        exact ⟨by rw [mLeg, if_pos h9, if_neg hno], by rw [mLeg, if_pos h9, if_neg hno]⟩
  · skip
    refine r_aload_n X dX13_leg_12 rfl rfl ?_
    refine r_iconst (v := 5) X dX13_leg_13 (by decide) ?_
    refine q_callV X dX13_leg_14 mX13_121 cwX13_refused (c_mRefused GE S I V J N g _ hs0) rfl (by assumption) rfl rfl rfl (Nat.le_of_ble_eq_true rfl) ⟨Nat.le_of_ble_eq_true rfl, Nat.le_of_ble_eq_true rfl⟩ ⟨(by first | omega | decide | (simp only [rmL, rmA]; omega)), (by first | omega | decide | (simp only [rmL, rmA]; omega))⟩ ?_
    rintro _ _ ⟨rfl, rfl⟩
    refine r_ireturn X dX13_leg_17 rfl (by first | omega | decide | (simp only [rmL, rmA]; omega)) (by first | omega | decide | (simp only [rmL, rmA]; omega)) ?_
    exact ⟨by rw [mLeg, if_neg h9], by rw [mLeg, if_neg h9]⟩
def mEach (I : Mem) (g : Nat) (x : Int32) : Int32 × Mem := if I g 6 ≤ 0 then (if inB x 1 48 = true then (1, mTrb (up2 I g 7 x) g 0) else (0, mTrb I g 2)) else (0, mTrb I g 5)
set_option maxHeartbeats 2000000 in
set_option maxRecDepth 20000 in
/-- SledHouseModel.each -/
theorem c_mEach {E : Ev} (GE : Glob E) (S : Nat → Option (Nat × Nat)) (I : Nat → Nat → Int32) (V : Nat → Nat → Option Nat) (J : Nat → Nat → Int64) (N : Nat) (g : Nat) (x : Int32) (hM : MdSh S V g) (h0 : I g 0 = 0) : Ct E yX13_each cX13_each 2 (some .boolean) (rmL 1) [.ref g, .int x] (S, I, V, J, N) (fun v w' => v = some (.int (mEach I g x).1) ∧ w' = (S, (mEach I g x).2, V, J, N)) := by
  refine Ct.start GE (by decide) rfl (Nat.le_of_ble_eq_true rfl) (fun M X => ?_)
  have X : Cx E M RX13 cX13_each 2 (rmL 1) (some .boolean) "each" := X
  refine r_loc (L' := [some (.ref g), some (.int x)]) rfl ?_
  obtain ⟨hs0, v8, v9, v10, v11, v16, v17, v18, v19, v20, s1, s2, s3, s4, s5, s6, s7, s8, hOt, hTe, hKt⟩ := id hM
  refine r_aload_n X dX13_each_0 rfl rfl ?_
  refine r_iconst (v := 0) X dX13_each_1 (by decide) ?_
  refine r_putI X dX13_each_2 fX13_1 wX13_1 (by assumption) rfl rfl ?_
  refine r_world (w' := (S, I, V, J, N)) (by rw [up2_id I h0]) ?_
  refine r_aload_n X dX13_each_5 rfl rfl ?_
  refine r_getI X dX13_each_6 fX13_100 (by assumption) (by first | assumption | rfl) ?_
  refine r_if_le (tgt := 18) X dX13_each_9 (by decide) (fun h9 => ?_) (fun h9 => ?_)
  · skip
    refine r_iload_n X dX13_each_18 rfl rfl ?_
    refine r_iconst (v := 1) X dX13_each_19 (by decide) ?_
    refine r_bipush (v := 48) X dX13_each_20 (by decide) ?_
    refine q_callS X dX13_each_22 mX13_125 cwX13_in (c_mIn GE _ _ _ _) rfl rfl (Nat.le_of_ble_eq_true rfl) ⟨Nat.le_of_ble_eq_true rfl, Nat.le_of_ble_eq_true rfl⟩ ⟨(by first | omega | decide | (simp only [rmL, rmA]; omega)), (by first | omega | decide | (simp only [rmL, rmA]; omega))⟩ ?_
    rintro _ _ ⟨rfl, rfl⟩
    refine r_if_ne (tgt := 34) X dX13_each_25 (by decide) (fun h25 => ?_) (fun h25 => ?_)
    · skip
      refine r_aload_n X dX13_each_34 rfl rfl ?_
      refine r_iload_n X dX13_each_35 rfl rfl ?_
      refine r_putI X dX13_each_36 fX13_19 wX13_19 (by assumption) rfl rfl ?_
      refine r_aload_n X dX13_each_39 rfl rfl ?_
      refine q_callV X dX13_each_40 mX13_117 cwX13_granted (c_mGranted GE S _ V J N g hs0) rfl (by assumption) rfl rfl rfl (Nat.le_of_ble_eq_true rfl) ⟨Nat.le_of_ble_eq_true rfl, Nat.le_of_ble_eq_true rfl⟩ ⟨(by first | omega | decide | (simp only [rmL, rmA]; omega)), (by first | omega | decide | (simp only [rmL, rmA]; omega))⟩ ?_
      rintro _ _ ⟨rfl, rfl⟩
      refine r_ireturn X dX13_each_43 rfl (by first | omega | decide | (simp only [rmL, rmA]; omega)) (by first | omega | decide | (simp only [rmL, rmA]; omega)) ?_
      have q : inB x 1 48 = true := bI_1 h25
      exact ⟨by rw [mEach, if_pos h9, if_pos q], by rw [mEach, if_pos h9, if_pos q]⟩
    · skip
      refine r_aload_n X dX13_each_28 rfl rfl ?_
      refine r_iconst (v := 2) X dX13_each_29 (by decide) ?_
      refine q_callV X dX13_each_30 mX13_113 cwX13_denied (c_mDenied GE S I V J N g _ hs0) rfl (by assumption) rfl rfl rfl (Nat.le_of_ble_eq_true rfl) ⟨Nat.le_of_ble_eq_true rfl, Nat.le_of_ble_eq_true rfl⟩ ⟨(by first | omega | decide | (simp only [rmL, rmA]; omega)), (by first | omega | decide | (simp only [rmL, rmA]; omega))⟩ ?_
      rintro _ _ ⟨rfl, rfl⟩
      refine r_ireturn X dX13_each_33 rfl (by first | omega | decide | (simp only [rmL, rmA]; omega)) (by first | omega | decide | (simp only [rmL, rmA]; omega)) ?_
      have q : ¬ inB x 1 48 = true := fun z => absurd ((bI_0 h25).symm.trans z) (by decide)
      exact ⟨by rw [mEach, if_pos h9, if_neg q], by rw [mEach, if_pos h9, if_neg q]⟩
  · skip
    refine r_aload_n X dX13_each_12 rfl rfl ?_
    refine r_iconst (v := 5) X dX13_each_13 (by decide) ?_
    refine q_callV X dX13_each_14 mX13_113 cwX13_denied (c_mDenied GE S I V J N g _ hs0) rfl (by assumption) rfl rfl rfl (Nat.le_of_ble_eq_true rfl) ⟨Nat.le_of_ble_eq_true rfl, Nat.le_of_ble_eq_true rfl⟩ ⟨(by first | omega | decide | (simp only [rmL, rmA]; omega)), (by first | omega | decide | (simp only [rmL, rmA]; omega))⟩ ?_
    rintro _ _ ⟨rfl, rfl⟩
    refine r_ireturn X dX13_each_17 rfl (by first | omega | decide | (simp only [rmL, rmA]; omega)) (by first | omega | decide | (simp only [rmL, rmA]; omega)) ?_
    exact ⟨by rw [mEach, if_neg h9], by rw [mEach, if_neg h9]⟩
def mFollow (I : Mem) (g c pc : Nat) (x y : Int32) : Int32 × Mem := match ixI x c with
  | none => (0, mTrb I g 1)
  | some i => if (ixI y pc).isSome = true then (if I (mt g i) 5 ≤ 1 then (1, mTrb (up2 I (mt g i) 4 y) g 0) else (0, mTrb I g 5)) else (0, mTrb I g 1)
set_option maxHeartbeats 2000000 in
set_option maxRecDepth 20000 in
/-- SledHouseModel.follow -/
theorem c_mFollow {E : Ev} (GE : Glob E) (S : Nat → Option (Nat × Nat)) (I : Nat → Nat → Int32) (V : Nat → Nat → Option Nat) (J : Nat → Nat → Int64) (N : Nat) (g c pc : Nat) (x y : Int32) (hM : MdSh S V g) (h0 : I g 0 = 0) (hc : I g 5 = nI c) (hc6 : c ≤ 6) (hpc : I g 31 = nI pc) : Ct E yX13_follow cX13_follow 4 (some .boolean) (rmL 1) [.ref g, .int x, .int y] (S, I, V, J, N) (fun v w' => v = some (.int (mFollow I g c pc x y).1) ∧ w' = (S, (mFollow I g c pc x y).2, V, J, N)) := by
  refine Ct.start GE (by decide) rfl (Nat.le_of_ble_eq_true rfl) (fun M X => ?_)
  have X : Cx E M RX13 cX13_follow 4 (rmL 1) (some .boolean) "follow" := X
  refine r_loc (L' := [some (.ref g), some (.int x), some (.int y), none]) rfl ?_
  obtain ⟨hs0, v8, v9, v10, v11, v16, v17, v18, v19, v20, s1, s2, s3, s4, s5, s6, s7, s8, hOt, hTe, hKt⟩ := id hM
  rcases hx : ixI x c with _ | i
  · skip
    refine r_aload_n X dX13_follow_0 rfl rfl ?_
    refine r_iconst (v := 0) X dX13_follow_1 (by decide) ?_
    refine r_putI X dX13_follow_2 fX13_1 wX13_1 (by assumption) rfl rfl ?_
    refine r_world (w' := (S, I, V, J, N)) (by rw [up2_id I h0]) ?_
    refine r_aload_n X dX13_follow_5 rfl rfl ?_
    refine r_iload_n X dX13_follow_6 rfl rfl ?_
    refine q_callV X dX13_follow_7 mX13_286 cwX13_isTeam (c_mIsTeam GE S I V J N g c x hs0 hc) rfl (by assumption) rfl rfl rfl (Nat.le_of_ble_eq_true rfl) ⟨Nat.le_of_ble_eq_true rfl, Nat.le_of_ble_eq_true rfl⟩ ⟨(by first | omega | decide | (simp only [rmL, rmA]; omega)), (by first | omega | decide | (simp only [rmL, rmA]; omega))⟩ ?_
    rintro _ _ ⟨rfl, rfl⟩
    refine r_if_eq (tgt := 21) X dX13_follow_10 (by decide) (fun h10 => ?_) (fun h10 => ?_)
    · skip
      refine r_aload_n X dX13_follow_21 rfl rfl ?_
      refine r_iconst (v := 1) X dX13_follow_22 (by decide) ?_
      refine q_callV X dX13_follow_23 mX13_113 cwX13_denied (c_mDenied GE S I V J N g _ hs0) rfl (by assumption) rfl rfl rfl (Nat.le_of_ble_eq_true rfl) ⟨Nat.le_of_ble_eq_true rfl, Nat.le_of_ble_eq_true rfl⟩ ⟨(by first | omega | decide | (simp only [rmL, rmA]; omega)), (by first | omega | decide | (simp only [rmL, rmA]; omega))⟩ ?_
      rintro _ _ ⟨rfl, rfl⟩
      refine r_ireturn X dX13_follow_26 rfl (by first | omega | decide | (simp only [rmL, rmA]; omega)) (by first | omega | decide | (simp only [rmL, rmA]; omega)) ?_
      exact ⟨by simp [mFollow, hx], by simp [mFollow, hx]⟩
    · skip
      exact (ix_f hx h10).elim
  · skip
    obtain ⟨hi, rfl⟩ := ixI_some (by omega) hx
    have te1 := (hTe i (by omega)).1
    have hT := (hTe i (by omega)).2
    obtain ⟨ts0, u15, u16, u17, u18, u19, u20, u21, u22, u23, w1, w2, w3, w4, w5, w6, w7, w8, w9⟩ := id hT
    refine r_aload_n X dX13_follow_0 rfl rfl ?_
    refine r_iconst (v := 0) X dX13_follow_1 (by decide) ?_
    refine r_putI X dX13_follow_2 fX13_1 wX13_1 (by assumption) rfl rfl ?_
    refine r_world (w' := (S, I, V, J, N)) (by rw [up2_id I h0]) ?_
    refine r_aload_n X dX13_follow_5 rfl rfl ?_
    refine r_iload_n X dX13_follow_6 rfl rfl ?_
    refine q_callV X dX13_follow_7 mX13_286 cwX13_isTeam (c_mIsTeam GE S I V J N g c _ hs0 hc) rfl (by assumption) rfl rfl rfl (Nat.le_of_ble_eq_true rfl) ⟨Nat.le_of_ble_eq_true rfl, Nat.le_of_ble_eq_true rfl⟩ ⟨(by first | omega | decide | (simp only [rmL, rmA]; omega)), (by first | omega | decide | (simp only [rmL, rmA]; omega))⟩ ?_
    rintro _ _ ⟨rfl, rfl⟩
    refine r_if_eq (tgt := 21) X dX13_follow_10 (by decide) (fun h10 => ?_) (fun h10 => ?_)
    · skip
      exact (ix_t hx h10).elim
    · skip
      refine r_aload_n X dX13_follow_13 rfl rfl ?_
      refine r_iload_n X dX13_follow_14 rfl rfl ?_
      refine q_callV X dX13_follow_15 mX13_279 cwX13_isPlan (c_mIsPlan GE S I V J N g pc y hs0 hpc) rfl (by assumption) rfl rfl rfl (Nat.le_of_ble_eq_true rfl) ⟨Nat.le_of_ble_eq_true rfl, Nat.le_of_ble_eq_true rfl⟩ ⟨(by first | omega | decide | (simp only [rmL, rmA]; omega)), (by first | omega | decide | (simp only [rmL, rmA]; omega))⟩ ?_
      rintro _ _ ⟨rfl, rfl⟩
      refine r_if_ne (tgt := 27) X dX13_follow_18 (by decide) (fun h18 => ?_) (fun h18 => ?_)
      · skip
        refine r_aload_n X dX13_follow_27 rfl rfl ?_
        refine r_getR X dX13_follow_28 fX13_34 (by assumption) (by assumption) ?_
        refine r_iload_n X dX13_follow_31 rfl rfl ?_
        refine r_aaldN X dX13_follow_32 (by assumption) (by decide) rfl (by omega) (by omega) (by assumption) ?_
        refine r_astore_n X dX13_follow_33 rfl (by decide) rfl ?_
        refine r_aload_n X dX13_follow_34 rfl rfl ?_
        refine r_getI X dX13_follow_35 fX13_289 (by assumption) (by first | assumption | rfl) ?_
        refine r_iconst (v := 1) X dX13_follow_38 (by decide) ?_
        refine r_icmp_le (tgt := 48) X dX13_follow_39 (by decide) (fun h39 => ?_) (fun h39 => ?_)
        · skip
          refine r_aload_n X dX13_follow_48 rfl rfl ?_
          refine r_iload_n X dX13_follow_49 rfl rfl ?_
          refine r_putI X dX13_follow_50 fX13_292 wX13_292 (by assumption) rfl rfl ?_
          refine r_aload_n X dX13_follow_53 rfl rfl ?_
          refine q_callV X dX13_follow_54 mX13_117 cwX13_granted (c_mGranted GE S _ V J N g hs0) rfl (by assumption) rfl rfl rfl (Nat.le_of_ble_eq_true rfl) ⟨Nat.le_of_ble_eq_true rfl, Nat.le_of_ble_eq_true rfl⟩ ⟨(by first | omega | decide | (simp only [rmL, rmA]; omega)), (by first | omega | decide | (simp only [rmL, rmA]; omega))⟩ ?_
          rintro _ _ ⟨rfl, rfl⟩
          refine r_ireturn X dX13_follow_57 rfl (by first | omega | decide | (simp only [rmL, rmA]; omega)) (by first | omega | decide | (simp only [rmL, rmA]; omega)) ?_
          have h39' : I (mt g i) 5 ≤ 1 := by first | exact h39 | exact Int32.not_lt.mp h39
          exact ⟨by simp [mFollow, hx, bI_1 h18, h39'], by simp [mFollow, hx, bI_1 h18, h39']⟩
        · skip
          refine r_aload_n X dX13_follow_42 rfl rfl ?_
          refine r_iconst (v := 5) X dX13_follow_43 (by decide) ?_
          refine q_callV X dX13_follow_44 mX13_113 cwX13_denied (c_mDenied GE S I V J N g _ hs0) rfl (by assumption) rfl rfl rfl (Nat.le_of_ble_eq_true rfl) ⟨Nat.le_of_ble_eq_true rfl, Nat.le_of_ble_eq_true rfl⟩ ⟨(by first | omega | decide | (simp only [rmL, rmA]; omega)), (by first | omega | decide | (simp only [rmL, rmA]; omega))⟩ ?_
          rintro _ _ ⟨rfl, rfl⟩
          refine r_ireturn X dX13_follow_47 rfl (by first | omega | decide | (simp only [rmL, rmA]; omega)) (by first | omega | decide | (simp only [rmL, rmA]; omega)) ?_
          have h39' : ¬ I (mt g i) 5 ≤ 1 := by first | exact h39 | exact Int32.not_le.mpr h39
          exact ⟨by simp [mFollow, hx, bI_1 h18, h39'], by simp [mFollow, hx, bI_1 h18, h39']⟩
      · skip
        refine r_aload_n X dX13_follow_21 rfl rfl ?_
        refine r_iconst (v := 1) X dX13_follow_22 (by decide) ?_
        refine q_callV X dX13_follow_23 mX13_113 cwX13_denied (c_mDenied GE S I V J N g _ hs0) rfl (by assumption) rfl rfl rfl (Nat.le_of_ble_eq_true rfl) ⟨Nat.le_of_ble_eq_true rfl, Nat.le_of_ble_eq_true rfl⟩ ⟨(by first | omega | decide | (simp only [rmL, rmA]; omega)), (by first | omega | decide | (simp only [rmL, rmA]; omega))⟩ ?_
        rintro _ _ ⟨rfl, rfl⟩
        refine r_ireturn X dX13_follow_26 rfl (by first | omega | decide | (simp only [rmL, rmA]; omega)) (by first | omega | decide | (simp only [rmL, rmA]; omega)) ?_
        exact ⟨by simp [mFollow, hx, bI_0 h18], by simp [mFollow, hx, bI_0 h18]⟩
def mG (I : Mem) (t : Nat) : Nat := (I t 12).toNatClampNeg
def mGapD (I : Mem) (g c : Nat) (x y z : Int32) : Int32 × Mem := match ixI x c with
  | none => (-1, mTrb I g 1)
  | some i => if inB y 0 2000 = true ∧ inB z y 2000 = true then (if mG I (mt g i) < 4 then (nI (mG I (mt g i) + 1), mTrb (up2 (up2 (up2 I (mt g i + 8) (mG I (mt g i)) y) (mt g i + 9) (mG I (mt g i)) z) (mt g i) 12 (nI (mG I (mt g i) + 1))) g 0) else (-1, mTrb I g 3)) else (-1, mTrb I g 2)
set_option maxHeartbeats 2000000 in
set_option maxRecDepth 20000 in
/-- SledHouseModel.gap -/
theorem c_mGapD {E : Ev} (GE : Glob E) (S : Nat → Option (Nat × Nat)) (I : Nat → Nat → Int32) (V : Nat → Nat → Option Nat) (J : Nat → Nat → Int64) (N : Nat) (g c : Nat) (x y z : Int32) (hM : MdSh S V g) (h0 : I g 0 = 0) (hc : I g 5 = nI c) (hc6 : c ≤ 6) (hg : ∀ i, i < c → I (mt g i) 12 = nI (mG I (mt g i)) ∧ mG I (mt g i) ≤ 4) : Ct E yX13_gap cX13_gap 5 (some .int) (rmL 1) [.ref g, .int x, .int y, .int z] (S, I, V, J, N) (fun v w' => v = some (.int (mGapD I g c x y z).1) ∧ w' = (S, (mGapD I g c x y z).2, V, J, N)) := by
  refine Ct.start GE (by decide) rfl (Nat.le_of_ble_eq_true rfl) (fun M X => ?_)
  have X : Cx E M RX13 cX13_gap 5 (rmL 1) (some .int) "gap" := X
  refine r_loc (L' := [some (.ref g), some (.int x), some (.int y), some (.int z), none]) rfl ?_
  obtain ⟨hs0, v8, v9, v10, v11, v16, v17, v18, v19, v20, s1, s2, s3, s4, s5, s6, s7, s8, hOt, hTe, hKt⟩ := id hM
  rcases hx : ixI x c with _ | i
  · skip
    refine r_aload_n X dX13_gap_0 rfl rfl ?_
    refine r_iconst (v := 0) X dX13_gap_1 (by decide) ?_
    refine r_putI X dX13_gap_2 fX13_1 wX13_1 (by assumption) rfl rfl ?_
    refine r_world (w' := (S, I, V, J, N)) (by rw [up2_id I h0]) ?_
    refine r_aload_n X dX13_gap_5 rfl rfl ?_
    refine r_iload_n X dX13_gap_6 rfl rfl ?_
    refine q_callV X dX13_gap_7 mX13_286 cwX13_isTeam (c_mIsTeam GE S I V J N g c x hs0 hc) rfl (by assumption) rfl rfl rfl (Nat.le_of_ble_eq_true rfl) ⟨Nat.le_of_ble_eq_true rfl, Nat.le_of_ble_eq_true rfl⟩ ⟨(by first | omega | decide | (simp only [rmL, rmA]; omega)), (by first | omega | decide | (simp only [rmL, rmA]; omega))⟩ ?_
    rintro _ _ ⟨rfl, rfl⟩
    refine r_if_ne (tgt := 19) X dX13_gap_10 (by decide) (fun h10 => ?_) (fun h10 => ?_)
    · skip
      exact (ix_f hx h10).elim
    · skip
      refine r_aload_n X dX13_gap_13 rfl rfl ?_
      refine r_iconst (v := 1) X dX13_gap_14 (by decide) ?_
      refine q_callV X dX13_gap_15 mX13_121 cwX13_refused (c_mRefused GE S I V J N g _ hs0) rfl (by assumption) rfl rfl rfl (Nat.le_of_ble_eq_true rfl) ⟨Nat.le_of_ble_eq_true rfl, Nat.le_of_ble_eq_true rfl⟩ ⟨(by first | omega | decide | (simp only [rmL, rmA]; omega)), (by first | omega | decide | (simp only [rmL, rmA]; omega))⟩ ?_
      rintro _ _ ⟨rfl, rfl⟩
      refine r_ireturn X dX13_gap_18 rfl (by first | omega | decide | (simp only [rmL, rmA]; omega)) (by first | omega | decide | (simp only [rmL, rmA]; omega)) ?_
      exact ⟨by simp [mGapD, hx], by simp [mGapD, hx]⟩
  · skip
    obtain ⟨hi, rfl⟩ := ixI_some (by omega) hx
    have te1 := (hTe i (by omega)).1
    have hT := (hTe i (by omega)).2
    obtain ⟨ts0, u15, u16, u17, u18, u19, u20, u21, u22, u23, w1, w2, w3, w4, w5, w6, w7, w8, w9⟩ := id hT
    obtain ⟨hg1, hg2⟩ := hg i hi
    refine r_aload_n X dX13_gap_0 rfl rfl ?_
    refine r_iconst (v := 0) X dX13_gap_1 (by decide) ?_
    refine r_putI X dX13_gap_2 fX13_1 wX13_1 (by assumption) rfl rfl ?_
    refine r_world (w' := (S, I, V, J, N)) (by rw [up2_id I h0]) ?_
    refine r_aload_n X dX13_gap_5 rfl rfl ?_
    refine r_iload_n X dX13_gap_6 rfl rfl ?_
    refine q_callV X dX13_gap_7 mX13_286 cwX13_isTeam (c_mIsTeam GE S I V J N g c _ hs0 hc) rfl (by assumption) rfl rfl rfl (Nat.le_of_ble_eq_true rfl) ⟨Nat.le_of_ble_eq_true rfl, Nat.le_of_ble_eq_true rfl⟩ ⟨(by first | omega | decide | (simp only [rmL, rmA]; omega)), (by first | omega | decide | (simp only [rmL, rmA]; omega))⟩ ?_
    rintro _ _ ⟨rfl, rfl⟩
    refine r_if_ne (tgt := 19) X dX13_gap_10 (by decide) (fun h10 => ?_) (fun h10 => ?_)
    · skip
      refine r_iload_n X dX13_gap_19 rfl rfl ?_
      refine r_iconst (v := 0) X dX13_gap_20 (by decide) ?_
      refine r_sipush (v := 2000) X dX13_gap_21 (by decide) ?_
      refine q_callS X dX13_gap_24 mX13_125 cwX13_in (c_mIn GE _ _ _ _) rfl rfl (Nat.le_of_ble_eq_true rfl) ⟨Nat.le_of_ble_eq_true rfl, Nat.le_of_ble_eq_true rfl⟩ ⟨(by first | omega | decide | (simp only [rmL, rmA]; omega)), (by first | omega | decide | (simp only [rmL, rmA]; omega))⟩ ?_
      rintro _ _ ⟨rfl, rfl⟩
      refine r_if_eq (tgt := 41) X dX13_gap_27 (by decide) (fun h27 => ?_) (fun h27 => ?_)
      · skip
        refine r_aload_n X dX13_gap_41 rfl rfl ?_
        refine r_iconst (v := 2) X dX13_gap_42 (by decide) ?_
        refine q_callV X dX13_gap_43 mX13_121 cwX13_refused (c_mRefused GE S I V J N g _ hs0) rfl (by assumption) rfl rfl rfl (Nat.le_of_ble_eq_true rfl) ⟨Nat.le_of_ble_eq_true rfl, Nat.le_of_ble_eq_true rfl⟩ ⟨(by first | omega | decide | (simp only [rmL, rmA]; omega)), (by first | omega | decide | (simp only [rmL, rmA]; omega))⟩ ?_
        rintro _ _ ⟨rfl, rfl⟩
        refine r_ireturn X dX13_gap_46 rfl (by first | omega | decide | (simp only [rmL, rmA]; omega)) (by first | omega | decide | (simp only [rmL, rmA]; omega)) ?_
        have hno : ¬ (inB y 0 2000 = true ∧ inB z y 2000 = true) := by
          rintro ⟨q1, q2⟩
          first | exact absurd ((bI_0 h27).symm.trans q1) (by decide) | exact absurd ((bI_0 h38).symm.trans q2) (by decide)
        exact ⟨by simp only [mGapD, hx]; rw [if_neg hno], by simp only [mGapD, hx]; rw [if_neg hno]⟩
      · skip
        refine r_iload_n X dX13_gap_30 rfl rfl ?_
        refine r_iload_n X dX13_gap_31 rfl rfl ?_
        refine r_sipush (v := 2000) X dX13_gap_32 (by decide) ?_
        refine q_callS X dX13_gap_35 mX13_125 cwX13_in (c_mIn GE _ _ _ _) rfl rfl (Nat.le_of_ble_eq_true rfl) ⟨Nat.le_of_ble_eq_true rfl, Nat.le_of_ble_eq_true rfl⟩ ⟨(by first | omega | decide | (simp only [rmL, rmA]; omega)), (by first | omega | decide | (simp only [rmL, rmA]; omega))⟩ ?_
        rintro _ _ ⟨rfl, rfl⟩
        refine r_if_ne (tgt := 47) X dX13_gap_38 (by decide) (fun h38 => ?_) (fun h38 => ?_)
        · skip
          refine r_aload_n X dX13_gap_47 rfl rfl ?_
          refine r_getR X dX13_gap_48 fX13_34 (by assumption) (by assumption) ?_
          refine r_iload_n X dX13_gap_51 rfl rfl ?_
          refine r_aaldN X dX13_gap_52 (by assumption) (by decide) rfl (by omega) (by omega) (by assumption) ?_
          refine r_astore X dX13_gap_53 (by decide) rfl ?_
          refine r_aload X dX13_gap_55 rfl ?_
          refine r_getI X dX13_gap_57 fX13_295 (by assumption) (by first | assumption | rfl) ?_
          refine r_iconst (v := nI 4) X dX13_gap_60 (by decide) ?_
          refine r_icmpN_ne (tgt := 70) X dX13_gap_61 (by decide) (by omega) (by omega) (fun h61 => ?_) (fun h61 => ?_)
          · skip
            refine r_aload X dX13_gap_70 rfl ?_
            refine r_getR X dX13_gap_72 fX13_298 (by assumption) (by assumption) ?_
            refine r_aload X dX13_gap_75 rfl ?_
            refine r_getI X dX13_gap_77 fX13_295 (by assumption) (by first | assumption | rfl) ?_
            refine r_iload_n X dX13_gap_80 rfl rfl ?_
            refine r_iastN X dX13_gap_81 (by assumption) (by omega) (by omega) ?_
            refine r_aload X dX13_gap_82 rfl ?_
            refine r_getR X dX13_gap_84 fX13_301 (by assumption) (by assumption) ?_
            refine r_aload X dX13_gap_87 rfl ?_
            refine r_getI X dX13_gap_89 fX13_295 (by assumption) ((up2_a (by omega)).trans hg1) ?_
            refine r_iload_n X dX13_gap_92 rfl rfl ?_
            refine r_iastN X dX13_gap_93 (by assumption) (by omega) (by omega) ?_
            refine r_aload X dX13_gap_94 rfl ?_
            refine r_dup X dX13_gap_96 rfl ?_
            refine r_getI X dX13_gap_97 fX13_295 (by assumption) ((up2_a (by omega)).trans ((up2_a (by omega)).trans hg1)) ?_
            refine r_iconst (v := 1) X dX13_gap_100 (by decide) ?_
            refine r_iadd X dX13_gap_101 ?_
            refine r_topi (nI (mG I (mt g i) + 1)) (nI_1 _) ?_
            refine r_putI X dX13_gap_102 fX13_295 wX13_295 (by assumption) rfl rfl ?_
            refine r_aload_n X dX13_gap_105 rfl rfl ?_
            refine r_aload X dX13_gap_106 rfl ?_
            refine r_getI X dX13_gap_108 fX13_295 (by assumption) (up2_same _ _ _ _) ?_
            refine q_callV X dX13_gap_111 mX13_129 cwX13_done (c_mDone GE S _ V J N g _ hs0) rfl (by assumption) rfl rfl rfl (Nat.le_of_ble_eq_true rfl) ⟨Nat.le_of_ble_eq_true rfl, Nat.le_of_ble_eq_true rfl⟩ ⟨(by first | omega | decide | (simp only [rmL, rmA]; omega)), (by first | omega | decide | (simp only [rmL, rmA]; omega))⟩ ?_
            rintro _ _ ⟨rfl, rfl⟩
            refine r_ireturn X dX13_gap_114 rfl (by first | omega | decide | (simp only [rmL, rmA]; omega)) (by first | omega | decide | (simp only [rmL, rmA]; omega)) ?_
            have hyes : inB y 0 2000 = true ∧ inB z y 2000 = true := ⟨bI_1 h27, bI_1 h38⟩
            exact ⟨by simp only [mGapD, hx]; rw [if_pos hyes, if_pos (by omega)], by simp only [mGapD, hx]; rw [if_pos hyes, if_pos (by omega)]⟩
          · skip
            refine r_aload_n X dX13_gap_64 rfl rfl ?_
            refine r_iconst (v := 3) X dX13_gap_65 (by decide) ?_
            refine q_callV X dX13_gap_66 mX13_121 cwX13_refused (c_mRefused GE S I V J N g _ hs0) rfl (by assumption) rfl rfl rfl (Nat.le_of_ble_eq_true rfl) ⟨Nat.le_of_ble_eq_true rfl, Nat.le_of_ble_eq_true rfl⟩ ⟨(by first | omega | decide | (simp only [rmL, rmA]; omega)), (by first | omega | decide | (simp only [rmL, rmA]; omega))⟩ ?_
            rintro _ _ ⟨rfl, rfl⟩
            refine r_ireturn X dX13_gap_69 rfl (by first | omega | decide | (simp only [rmL, rmA]; omega)) (by first | omega | decide | (simp only [rmL, rmA]; omega)) ?_
            have hyes : inB y 0 2000 = true ∧ inB z y 2000 = true := ⟨bI_1 h27, bI_1 h38⟩
            exact ⟨by simp only [mGapD, hx]; rw [if_pos hyes, if_neg (by omega)], by simp only [mGapD, hx]; rw [if_pos hyes, if_neg (by omega)]⟩
        · skip
          refine r_aload_n X dX13_gap_41 rfl rfl ?_
          refine r_iconst (v := 2) X dX13_gap_42 (by decide) ?_
          refine q_callV X dX13_gap_43 mX13_121 cwX13_refused (c_mRefused GE S I V J N g _ hs0) rfl (by assumption) rfl rfl rfl (Nat.le_of_ble_eq_true rfl) ⟨Nat.le_of_ble_eq_true rfl, Nat.le_of_ble_eq_true rfl⟩ ⟨(by first | omega | decide | (simp only [rmL, rmA]; omega)), (by first | omega | decide | (simp only [rmL, rmA]; omega))⟩ ?_
          rintro _ _ ⟨rfl, rfl⟩
          refine r_ireturn X dX13_gap_46 rfl (by first | omega | decide | (simp only [rmL, rmA]; omega)) (by first | omega | decide | (simp only [rmL, rmA]; omega)) ?_
          have hno : ¬ (inB y 0 2000 = true ∧ inB z y 2000 = true) := by
            rintro ⟨q1, q2⟩
            first | exact absurd ((bI_0 h27).symm.trans q1) (by decide) | exact absurd ((bI_0 h38).symm.trans q2) (by decide)
          exact ⟨by simp only [mGapD, hx]; rw [if_neg hno], by simp only [mGapD, hx]; rw [if_neg hno]⟩
    · skip
      exact (ix_t hx h10).elim
def mTeam (I : Mem) (g c n pc : Nat) (d l m s p : Int32) : Int32 × Mem :=
  if 0 < I g 6 ∨ n = 0 then (-1, mTrb I g 5)
  else if (ixI p pc).isSome = true then
    if inB d 4 16 = true ∧ inB l 20 300 = true ∧ inB m 0 60 = true ∧ inB s 0 100 = true then
      if c < 6 then (nI c, mTrb (up2 (mBegin I (mt g c) d l m s p) g 5 (nI (c + 1))) g 0) else (-1, mTrb I g 3)
    else (-1, mTrb I g 2)
  else (-1, mTrb I g 1)
set_option maxHeartbeats 2000000 in
set_option maxRecDepth 20000 in
/-- SledHouseModel.team -/
theorem c_mTeam {E : Ev} (GE : Glob E) (S : Nat → Option (Nat × Nat)) (I : Nat → Nat → Int32) (V : Nat → Nat → Option Nat) (J : Nat → Nat → Int64) (N : Nat) (g c n pc : Nat) (d l m s p : Int32) (hM : MdSh S V g) (h0 : I g 0 = 0) (hc : I g 5 = nI c) (hc6 : c ≤ 6) (hn : I g 4 = nI n) (hn12 : n ≤ 12) (hpc : I g 31 = nI pc) : Ct E yX13_team cX13_team 6 (some .int) (rmL 3) [.ref g, .int d, .int l, .int m, .int s, .int p] (S, I, V, J, N) (fun v w' => v = some (.int (mTeam I g c n pc d l m s p).1) ∧ w' = (S, (mTeam I g c n pc d l m s p).2, V, J, N)) := by
  refine Ct.start GE (by decide) rfl (Nat.le_of_ble_eq_true rfl) (fun M X => ?_)
  have X : Cx E M RX13 cX13_team 6 (rmL 3) (some .int) "team" := X
  refine r_loc (L' := [some (.ref g), some (.int d), some (.int l), some (.int m), some (.int s), some (.int p)]) rfl ?_
  obtain ⟨hs0, v8, v9, v10, v11, v16, v17, v18, v19, v20, s1, s2, s3, s4, s5, s6, s7, s8, hOt, hTe, hKt⟩ := id hM
  refine r_aload_n X dX13_team_0 rfl rfl ?_
  refine r_iconst (v := 0) X dX13_team_1 (by decide) ?_
  refine r_putI X dX13_team_2 fX13_1 wX13_1 (by assumption) rfl rfl ?_
  refine r_world (w' := (S, I, V, J, N)) (by rw [up2_id I h0]) ?_
  refine r_aload_n X dX13_team_5 rfl rfl ?_
  refine r_getI X dX13_team_6 fX13_100 (by assumption) (by first | assumption | rfl) ?_
  refine r_if_gt (tgt := 19) X dX13_team_9 (by decide) (fun h9 => ?_) (fun h9 => ?_)
  · skip
    refine r_aload_n X dX13_team_19 rfl rfl ?_
    refine r_iconst (v := 5) X dX13_team_20 (by decide) ?_
    refine q_callV X dX13_team_21 mX13_121 cwX13_refused (c_mRefused GE S I V J N g _ hs0) rfl (by assumption) rfl rfl rfl (Nat.le_of_ble_eq_true rfl) ⟨Nat.le_of_ble_eq_true rfl, Nat.le_of_ble_eq_true rfl⟩ ⟨(by first | omega | decide | (simp only [rmL, rmA]; omega)), (by first | omega | decide | (simp only [rmL, rmA]; omega))⟩ ?_
    rintro _ _ ⟨rfl, rfl⟩
    refine r_ireturn X dX13_team_24 rfl (by first | omega | decide | (simp only [rmL, rmA]; omega)) (by first | omega | decide | (simp only [rmL, rmA]; omega)) ?_
    have hyes : 0 < I g 6 ∨ n = 0 := by first | exact Or.inl h9 | exact Or.inr ((nI_eq (by omega) (by decide)).mp h16)
    exact ⟨by rw [mTeam, if_pos hyes], by rw [mTeam, if_pos hyes]⟩
  · skip
    refine r_aload_n X dX13_team_12 rfl rfl ?_
    refine r_getI X dX13_team_13 fX13_91 (by assumption) (by first | assumption | rfl) ?_
    refine r_if_ne (tgt := 25) X dX13_team_16 (by decide) (fun h16 => ?_) (fun h16 => ?_)
    · skip
      refine r_aload_n X dX13_team_25 rfl rfl ?_
      refine r_iload X dX13_team_26 rfl ?_
      refine q_callV X dX13_team_28 mX13_279 cwX13_isPlan (c_mIsPlan GE S I V J N g pc p hs0 hpc) rfl (by assumption) rfl rfl rfl (Nat.le_of_ble_eq_true rfl) ⟨Nat.le_of_ble_eq_true rfl, Nat.le_of_ble_eq_true rfl⟩ ⟨(by first | omega | decide | (simp only [rmL, rmA]; omega)), (by first | omega | decide | (simp only [rmL, rmA]; omega))⟩ ?_
      rintro _ _ ⟨rfl, rfl⟩
      refine r_if_ne (tgt := 40) X dX13_team_31 (by decide) (fun h31 => ?_) (fun h31 => ?_)
      · skip
        refine r_iload_n X dX13_team_40 rfl rfl ?_
        refine r_iconst (v := 4) X dX13_team_41 (by decide) ?_
        refine r_bipush (v := 16) X dX13_team_42 (by decide) ?_
        refine q_callS X dX13_team_44 mX13_125 cwX13_in (c_mIn GE _ _ _ _) rfl rfl (Nat.le_of_ble_eq_true rfl) ⟨Nat.le_of_ble_eq_true rfl, Nat.le_of_ble_eq_true rfl⟩ ⟨(by first | omega | decide | (simp only [rmL, rmA]; omega)), (by first | omega | decide | (simp only [rmL, rmA]; omega))⟩ ?_
        rintro _ _ ⟨rfl, rfl⟩
        refine r_if_eq (tgt := 83) X dX13_team_47 (by decide) (fun h47 => ?_) (fun h47 => ?_)
        · skip
          refine r_aload_n X dX13_team_83 rfl rfl ?_
          refine r_iconst (v := 2) X dX13_team_84 (by decide) ?_
          refine q_callV X dX13_team_85 mX13_121 cwX13_refused (c_mRefused GE S I V J N g _ hs0) rfl (by assumption) rfl rfl rfl (Nat.le_of_ble_eq_true rfl) ⟨Nat.le_of_ble_eq_true rfl, Nat.le_of_ble_eq_true rfl⟩ ⟨(by first | omega | decide | (simp only [rmL, rmA]; omega)), (by first | omega | decide | (simp only [rmL, rmA]; omega))⟩ ?_
          rintro _ _ ⟨rfl, rfl⟩
          refine r_ireturn X dX13_team_88 rfl (by first | omega | decide | (simp only [rmL, rmA]; omega)) (by first | omega | decide | (simp only [rmL, rmA]; omega)) ?_
          have hno : ¬ (0 < I g 6 ∨ n = 0) := by rintro (q | q); (· exact h9 q); (· exact h16 (by rw [q]; rfl))
          have hn2 : ¬ (inB d 4 16 = true ∧ inB l 20 300 = true ∧ inB m 0 60 = true ∧ inB s 0 100 = true) := by
            rintro ⟨q1, q2, q3, q4⟩
            first | exact absurd ((bI_0 h47).symm.trans q1) (by decide) | exact absurd ((bI_0 h59).symm.trans q2) (by decide) | exact absurd ((bI_0 h69).symm.trans q3) (by decide) | exact absurd ((bI_0 h80).symm.trans q4) (by decide)
          exact ⟨by rw [mTeam, if_neg hno, bI_1 h31, if_pos rfl, if_neg hn2], by rw [mTeam, if_neg hno, bI_1 h31, if_pos rfl, if_neg hn2]⟩
        · skip
          refine r_iload_n X dX13_team_50 rfl rfl ?_
          refine r_bipush (v := 20) X dX13_team_51 (by decide) ?_
          refine r_sipush (v := 300) X dX13_team_53 (by decide) ?_
          refine q_callS X dX13_team_56 mX13_125 cwX13_in (c_mIn GE _ _ _ _) rfl rfl (Nat.le_of_ble_eq_true rfl) ⟨Nat.le_of_ble_eq_true rfl, Nat.le_of_ble_eq_true rfl⟩ ⟨(by first | omega | decide | (simp only [rmL, rmA]; omega)), (by first | omega | decide | (simp only [rmL, rmA]; omega))⟩ ?_
          rintro _ _ ⟨rfl, rfl⟩
          refine r_if_eq (tgt := 83) X dX13_team_59 (by decide) (fun h59 => ?_) (fun h59 => ?_)
          · skip
            refine r_aload_n X dX13_team_83 rfl rfl ?_
            refine r_iconst (v := 2) X dX13_team_84 (by decide) ?_
            refine q_callV X dX13_team_85 mX13_121 cwX13_refused (c_mRefused GE S I V J N g _ hs0) rfl (by assumption) rfl rfl rfl (Nat.le_of_ble_eq_true rfl) ⟨Nat.le_of_ble_eq_true rfl, Nat.le_of_ble_eq_true rfl⟩ ⟨(by first | omega | decide | (simp only [rmL, rmA]; omega)), (by first | omega | decide | (simp only [rmL, rmA]; omega))⟩ ?_
            rintro _ _ ⟨rfl, rfl⟩
            refine r_ireturn X dX13_team_88 rfl (by first | omega | decide | (simp only [rmL, rmA]; omega)) (by first | omega | decide | (simp only [rmL, rmA]; omega)) ?_
            have hno : ¬ (0 < I g 6 ∨ n = 0) := by rintro (q | q); (· exact h9 q); (· exact h16 (by rw [q]; rfl))
            have hn2 : ¬ (inB d 4 16 = true ∧ inB l 20 300 = true ∧ inB m 0 60 = true ∧ inB s 0 100 = true) := by
              rintro ⟨q1, q2, q3, q4⟩
              first | exact absurd ((bI_0 h47).symm.trans q1) (by decide) | exact absurd ((bI_0 h59).symm.trans q2) (by decide) | exact absurd ((bI_0 h69).symm.trans q3) (by decide) | exact absurd ((bI_0 h80).symm.trans q4) (by decide)
            exact ⟨by rw [mTeam, if_neg hno, bI_1 h31, if_pos rfl, if_neg hn2], by rw [mTeam, if_neg hno, bI_1 h31, if_pos rfl, if_neg hn2]⟩
          · skip
            refine r_iload_n X dX13_team_62 rfl rfl ?_
            refine r_iconst (v := 0) X dX13_team_63 (by decide) ?_
            refine r_bipush (v := 60) X dX13_team_64 (by decide) ?_
            refine q_callS X dX13_team_66 mX13_125 cwX13_in (c_mIn GE _ _ _ _) rfl rfl (Nat.le_of_ble_eq_true rfl) ⟨Nat.le_of_ble_eq_true rfl, Nat.le_of_ble_eq_true rfl⟩ ⟨(by first | omega | decide | (simp only [rmL, rmA]; omega)), (by first | omega | decide | (simp only [rmL, rmA]; omega))⟩ ?_
            rintro _ _ ⟨rfl, rfl⟩
            refine r_if_eq (tgt := 83) X dX13_team_69 (by decide) (fun h69 => ?_) (fun h69 => ?_)
            · skip
              refine r_aload_n X dX13_team_83 rfl rfl ?_
              refine r_iconst (v := 2) X dX13_team_84 (by decide) ?_
              refine q_callV X dX13_team_85 mX13_121 cwX13_refused (c_mRefused GE S I V J N g _ hs0) rfl (by assumption) rfl rfl rfl (Nat.le_of_ble_eq_true rfl) ⟨Nat.le_of_ble_eq_true rfl, Nat.le_of_ble_eq_true rfl⟩ ⟨(by first | omega | decide | (simp only [rmL, rmA]; omega)), (by first | omega | decide | (simp only [rmL, rmA]; omega))⟩ ?_
              rintro _ _ ⟨rfl, rfl⟩
              refine r_ireturn X dX13_team_88 rfl (by first | omega | decide | (simp only [rmL, rmA]; omega)) (by first | omega | decide | (simp only [rmL, rmA]; omega)) ?_
              have hno : ¬ (0 < I g 6 ∨ n = 0) := by rintro (q | q); (· exact h9 q); (· exact h16 (by rw [q]; rfl))
              have hn2 : ¬ (inB d 4 16 = true ∧ inB l 20 300 = true ∧ inB m 0 60 = true ∧ inB s 0 100 = true) := by
                rintro ⟨q1, q2, q3, q4⟩
                first | exact absurd ((bI_0 h47).symm.trans q1) (by decide) | exact absurd ((bI_0 h59).symm.trans q2) (by decide) | exact absurd ((bI_0 h69).symm.trans q3) (by decide) | exact absurd ((bI_0 h80).symm.trans q4) (by decide)
              exact ⟨by rw [mTeam, if_neg hno, bI_1 h31, if_pos rfl, if_neg hn2], by rw [mTeam, if_neg hno, bI_1 h31, if_pos rfl, if_neg hn2]⟩
            · skip
              refine r_iload X dX13_team_72 rfl ?_
              refine r_iconst (v := 0) X dX13_team_74 (by decide) ?_
              refine r_bipush (v := 100) X dX13_team_75 (by decide) ?_
              refine q_callS X dX13_team_77 mX13_125 cwX13_in (c_mIn GE _ _ _ _) rfl rfl (Nat.le_of_ble_eq_true rfl) ⟨Nat.le_of_ble_eq_true rfl, Nat.le_of_ble_eq_true rfl⟩ ⟨(by first | omega | decide | (simp only [rmL, rmA]; omega)), (by first | omega | decide | (simp only [rmL, rmA]; omega))⟩ ?_
              rintro _ _ ⟨rfl, rfl⟩
              refine r_if_ne (tgt := 89) X dX13_team_80 (by decide) (fun h80 => ?_) (fun h80 => ?_)
              · skip
                refine r_aload_n X dX13_team_89 rfl rfl ?_
                refine r_getI X dX13_team_90 fX13_94 (by assumption) (by first | assumption | rfl) ?_
                refine r_bipush (v := nI 6) X dX13_team_93 (by decide) ?_
                refine r_icmpN_ne (tgt := 104) X dX13_team_95 (by decide) (by omega) (by omega) (fun h95 => ?_) (fun h95 => ?_)
                · skip
                  have te1 := (hTe c (by omega)).1
                  have hT := (hTe c (by omega)).2
                  refine r_aload_n X dX13_team_104 rfl rfl ?_
                  refine r_getR X dX13_team_105 fX13_34 (by assumption) (by assumption) ?_
                  refine r_aload_n X dX13_team_108 rfl rfl ?_
                  refine r_getI X dX13_team_109 fX13_94 (by assumption) (by first | assumption | rfl) ?_
                  refine r_aaldN X dX13_team_112 (by assumption) (by decide) rfl (by omega) (by omega) (by assumption) ?_
                  refine r_iload_n X dX13_team_113 rfl rfl ?_
                  refine r_iload_n X dX13_team_114 rfl rfl ?_
                  refine r_iload_n X dX13_team_115 rfl rfl ?_
                  refine r_iload X dX13_team_116 rfl ?_
                  refine r_iload X dX13_team_118 rfl ?_
                  refine q_callV X dX13_team_120 mX13_282 cwX12_begin (c_mBegin GE S I V J N _ _ _ _ _ _ hT) rfl (hT.1) rfl rfl rfl (Nat.le_of_ble_eq_true rfl) ⟨Nat.le_of_ble_eq_true rfl, Nat.le_of_ble_eq_true rfl⟩ ⟨(by first | omega | decide | (simp only [rmL, rmA]; omega)), (by first | omega | decide | (simp only [rmL, rmA]; omega))⟩ ?_
                  rintro _ _ ⟨rfl, rfl⟩
                  refine r_aload_n X dX13_team_123 rfl rfl ?_
                  refine r_dup X dX13_team_124 rfl ?_
                  refine r_getI X dX13_team_125 fX13_94 (by assumption) ((mBegin_a (by omega)).trans hc) ?_
                  refine r_iconst (v := 1) X dX13_team_128 (by decide) ?_
                  refine r_iadd X dX13_team_129 ?_
                  refine r_topi (nI (c + 1)) (nI_1 c) ?_
                  refine r_putI X dX13_team_130 fX13_94 wX13_94 (by assumption) rfl rfl ?_
                  refine r_aload_n X dX13_team_133 rfl rfl ?_
                  refine r_aload_n X dX13_team_134 rfl rfl ?_
                  refine r_getI X dX13_team_135 fX13_94 (by assumption) (up2_same _ _ _ _) ?_
                  refine r_iconst (v := 1) X dX13_team_138 (by decide) ?_
                  refine r_isub X dX13_team_139 ?_
                  refine r_topi (nI c) (pk_sub (a := c + 1) (b := 1) (by omega)) ?_
                  refine q_callV X dX13_team_140 mX13_129 cwX13_done (c_mDone GE S _ V J N g _ hs0) rfl (by assumption) rfl rfl rfl (Nat.le_of_ble_eq_true rfl) ⟨Nat.le_of_ble_eq_true rfl, Nat.le_of_ble_eq_true rfl⟩ ⟨(by first | omega | decide | (simp only [rmL, rmA]; omega)), (by first | omega | decide | (simp only [rmL, rmA]; omega))⟩ ?_
                  rintro _ _ ⟨rfl, rfl⟩
                  refine r_ireturn X dX13_team_143 rfl (by first | omega | decide | (simp only [rmL, rmA]; omega)) (by first | omega | decide | (simp only [rmL, rmA]; omega)) ?_
                  have hno : ¬ (0 < I g 6 ∨ n = 0) := by rintro (q | q); (· exact h9 q); (· exact h16 (by rw [q]; rfl))
                  have hn2 : inB d 4 16 = true ∧ inB l 20 300 = true ∧ inB m 0 60 = true ∧ inB s 0 100 = true := ⟨bI_1 h47, bI_1 h59, bI_1 h69, bI_1 h80⟩
                  exact ⟨by rw [mTeam, if_neg hno, bI_1 h31, if_pos rfl, if_pos hn2, if_pos (by omega)], by rw [mTeam, if_neg hno, bI_1 h31, if_pos rfl, if_pos hn2, if_pos (by omega)]⟩
                · skip
                  refine r_aload_n X dX13_team_98 rfl rfl ?_
                  refine r_iconst (v := 3) X dX13_team_99 (by decide) ?_
                  refine q_callV X dX13_team_100 mX13_121 cwX13_refused (c_mRefused GE S I V J N g _ hs0) rfl (by assumption) rfl rfl rfl (Nat.le_of_ble_eq_true rfl) ⟨Nat.le_of_ble_eq_true rfl, Nat.le_of_ble_eq_true rfl⟩ ⟨(by first | omega | decide | (simp only [rmL, rmA]; omega)), (by first | omega | decide | (simp only [rmL, rmA]; omega))⟩ ?_
                  rintro _ _ ⟨rfl, rfl⟩
                  refine r_ireturn X dX13_team_103 rfl (by first | omega | decide | (simp only [rmL, rmA]; omega)) (by first | omega | decide | (simp only [rmL, rmA]; omega)) ?_
                  have hno : ¬ (0 < I g 6 ∨ n = 0) := by rintro (q | q); (· exact h9 q); (· exact h16 (by rw [q]; rfl))
                  have hn2 : inB d 4 16 = true ∧ inB l 20 300 = true ∧ inB m 0 60 = true ∧ inB s 0 100 = true := ⟨bI_1 h47, bI_1 h59, bI_1 h69, bI_1 h80⟩
                  exact ⟨by rw [mTeam, if_neg hno, bI_1 h31, if_pos rfl, if_pos hn2, if_neg (by omega)], by rw [mTeam, if_neg hno, bI_1 h31, if_pos rfl, if_pos hn2, if_neg (by omega)]⟩
              · skip
                refine r_aload_n X dX13_team_83 rfl rfl ?_
                refine r_iconst (v := 2) X dX13_team_84 (by decide) ?_
                refine q_callV X dX13_team_85 mX13_121 cwX13_refused (c_mRefused GE S I V J N g _ hs0) rfl (by assumption) rfl rfl rfl (Nat.le_of_ble_eq_true rfl) ⟨Nat.le_of_ble_eq_true rfl, Nat.le_of_ble_eq_true rfl⟩ ⟨(by first | omega | decide | (simp only [rmL, rmA]; omega)), (by first | omega | decide | (simp only [rmL, rmA]; omega))⟩ ?_
                rintro _ _ ⟨rfl, rfl⟩
                refine r_ireturn X dX13_team_88 rfl (by first | omega | decide | (simp only [rmL, rmA]; omega)) (by first | omega | decide | (simp only [rmL, rmA]; omega)) ?_
                have hno : ¬ (0 < I g 6 ∨ n = 0) := by rintro (q | q); (· exact h9 q); (· exact h16 (by rw [q]; rfl))
                have hn2 : ¬ (inB d 4 16 = true ∧ inB l 20 300 = true ∧ inB m 0 60 = true ∧ inB s 0 100 = true) := by
                  rintro ⟨q1, q2, q3, q4⟩
                  first | exact absurd ((bI_0 h47).symm.trans q1) (by decide) | exact absurd ((bI_0 h59).symm.trans q2) (by decide) | exact absurd ((bI_0 h69).symm.trans q3) (by decide) | exact absurd ((bI_0 h80).symm.trans q4) (by decide)
                exact ⟨by rw [mTeam, if_neg hno, bI_1 h31, if_pos rfl, if_neg hn2], by rw [mTeam, if_neg hno, bI_1 h31, if_pos rfl, if_neg hn2]⟩
      · skip
        refine r_aload_n X dX13_team_34 rfl rfl ?_
        refine r_iconst (v := 1) X dX13_team_35 (by decide) ?_
        refine q_callV X dX13_team_36 mX13_121 cwX13_refused (c_mRefused GE S I V J N g _ hs0) rfl (by assumption) rfl rfl rfl (Nat.le_of_ble_eq_true rfl) ⟨Nat.le_of_ble_eq_true rfl, Nat.le_of_ble_eq_true rfl⟩ ⟨(by first | omega | decide | (simp only [rmL, rmA]; omega)), (by first | omega | decide | (simp only [rmL, rmA]; omega))⟩ ?_
        rintro _ _ ⟨rfl, rfl⟩
        refine r_ireturn X dX13_team_39 rfl (by first | omega | decide | (simp only [rmL, rmA]; omega)) (by first | omega | decide | (simp only [rmL, rmA]; omega)) ?_
        have hno : ¬ (0 < I g 6 ∨ n = 0) := by rintro (q | q); (· exact h9 q); (· exact h16 (by rw [q]; rfl))
        exact ⟨by rw [mTeam, if_neg hno, bI_0 h31, if_neg (by decide)], by rw [mTeam, if_neg hno, bI_0 h31, if_neg (by decide)]⟩
    · skip
      refine r_aload_n X dX13_team_19 rfl rfl ?_
      refine r_iconst (v := 5) X dX13_team_20 (by decide) ?_
      refine q_callV X dX13_team_21 mX13_121 cwX13_refused (c_mRefused GE S I V J N g _ hs0) rfl (by assumption) rfl rfl rfl (Nat.le_of_ble_eq_true rfl) ⟨Nat.le_of_ble_eq_true rfl, Nat.le_of_ble_eq_true rfl⟩ ⟨(by first | omega | decide | (simp only [rmL, rmA]; omega)), (by first | omega | decide | (simp only [rmL, rmA]; omega))⟩ ?_
      rintro _ _ ⟨rfl, rfl⟩
      refine r_ireturn X dX13_team_24 rfl (by first | omega | decide | (simp only [rmL, rmA]; omega)) (by first | omega | decide | (simp only [rmL, rmA]; omega)) ?_
      have hyes : 0 < I g 6 ∨ n = 0 := by first | exact Or.inl h9 | exact Or.inr ((nI_eq (by omega) (by decide)).mp h16)
      exact ⟨by rw [mTeam, if_pos hyes], by rw [mTeam, if_pos hyes]⟩
