/-! ===== SledHouse: leg, cold, feed, team, follow, gap, each ===== -/
def inB (x y z : Int32) : Bool := decide (y ≤ x) && decide (x ≤ z)
theorem bI_z {b : Bool} : bI b = 0 ↔ b = false := ⟨bI_0, fun h => by rw [h]; rfl⟩
def hLeg (I : Mem) (h n : Nat) (x y : Int32) : Int32 × Mem :=
  if I (h + 9) 3 ≤ 0 then
    if inB x 10 2000 = true ∧ inB y 50 200 = true then
      if n < 12 then (nI (n + 1), up2 (trAdd I (h + 9 + 1) n x y) h 8 0) else (-1, up2 I h 8 3)
    else (-1, up2 I h 8 2)
  else (-1, up2 I h 8 5)
set_option maxHeartbeats 2000000 in
set_option maxRecDepth 20000 in
/-- SledHouse.leg -/
theorem c_hLeg {E : Ev} (GE : Glob E) (S : Nat → Option (Nat × Nat)) (I : Nat → Nat → Int32) (V : Nat → Nat → Option Nat) (J : Nat → Nat → Int64) (N : Nat) (h n : Nat) (x y : Int32) (hH : HouseSh S V h) (hn : I (h + 9 + 1) 4 = nI n) (hn12 : n ≤ 12) : Ct E yX10_leg cX10_leg 3 (some .int) (rmL 1) [.ref h, .int x, .int y] (S, I, V, J, N) (fun v w' => v = some (.int (hLeg I h n x y).1) ∧ w' = (S, (hLeg I h n x y).2, V, J, N)) := by
  refine Ct.start GE (by decide) rfl (Nat.le_of_ble_eq_true rfl) (fun M X => ?_)
  have X : Cx E M RX10 cX10_leg 3 (rmL 1) (some .int) "leg" := X
  refine r_loc (L' := [some (.ref h), some (.int x), some (.int y)]) rfl ?_
  obtain ⟨hs0, hv0, hv1, hv2, hv3, hv4, hv5, hTp, hs3, hPl, hLw, hRc, hs76, hGh, hRow⟩ := id hH
  obtain ⟨rs0, rv0, rv1, rTr, rs6, rTe⟩ := id hRc
  have qs0 := rTr.1
  have ts0 := hTp.1
  have ls0 := hLw.1
  refine r_aload_n X dX10_leg_0 rfl rfl ?_
  refine r_getR X dX10_leg_1 fX10_32 (by assumption) (by assumption) ?_
  refine r_getI X dX10_leg_4 fX10_70 (by assumption) (by first | assumption | rfl) ?_
  refine r_if_le (tgt := 16) X dX10_leg_7 (by decide) (fun h7 => ?_) (fun h7 => ?_)
  · skip
    refine r_iload_n X dX10_leg_16 rfl rfl ?_
    refine r_bipush (v := 10) X dX10_leg_17 (by decide) ?_
    refine r_sipush (v := 2000) X dX10_leg_19 (by decide) ?_
    refine q_callS X dX10_leg_22 mX10_77 cwX10_within (c_hWithin GE _ _ _ _) rfl rfl (Nat.le_of_ble_eq_true rfl) ⟨Nat.le_of_ble_eq_true rfl, Nat.le_of_ble_eq_true rfl⟩ ⟨(by first | omega | decide | (simp only [rmL, rmA]; omega)), (by first | omega | decide | (simp only [rmL, rmA]; omega))⟩ ?_
    rintro _ _ ⟨rfl, rfl⟩
    refine r_if_eq (tgt := 40) X dX10_leg_25 (by decide) (fun h25 => ?_) (fun h25 => ?_)
    · skip
      refine r_aload_n X dX10_leg_40 rfl rfl ?_
      refine r_iconst (v := 2) X dX10_leg_41 (by decide) ?_
      refine q_callV X dX10_leg_42 mX10_73 cwX10_refuse (c_hRefuse GE S I V J N h _ hs0) rfl (by assumption) rfl rfl rfl (Nat.le_of_ble_eq_true rfl) ⟨Nat.le_of_ble_eq_true rfl, Nat.le_of_ble_eq_true rfl⟩ ⟨(by first | omega | decide | (simp only [rmL, rmA]; omega)), (by first | omega | decide | (simp only [rmL, rmA]; omega))⟩ ?_
      rintro _ _ ⟨rfl, rfl⟩
      refine r_ireturn X dX10_leg_45 rfl (by first | omega | decide | (simp only [rmL, rmA]; omega)) (by first | omega | decide | (simp only [rmL, rmA]; omega)) ?_
      have hno : ¬ (inB x 10 2000 = true ∧ inB y 50 200 = true) := by
        rintro ⟨q1, q2⟩
        first | exact absurd ((bI_0 h25).symm.trans q1) (by decide) | exact absurd ((bI_0 h37).symm.trans q2) (by decide)
      exact ⟨by rw [hLeg, if_pos h7, if_neg hno], by rw [hLeg, if_pos h7, if_neg hno]⟩
    · skip
      refine r_iload_n X dX10_leg_28 rfl rfl ?_
      refine r_bipush (v := 50) X dX10_leg_29 (by decide) ?_
      refine r_sipush (v := 200) X dX10_leg_31 (by decide) ?_
      refine q_callS X dX10_leg_34 mX10_77 cwX10_within (c_hWithin GE _ _ _ _) rfl rfl (Nat.le_of_ble_eq_true rfl) ⟨Nat.le_of_ble_eq_true rfl, Nat.le_of_ble_eq_true rfl⟩ ⟨(by first | omega | decide | (simp only [rmL, rmA]; omega)), (by first | omega | decide | (simp only [rmL, rmA]; omega))⟩ ?_
      rintro _ _ ⟨rfl, rfl⟩
      refine r_if_ne (tgt := 46) X dX10_leg_37 (by decide) (fun h37 => ?_) (fun h37 => ?_)
      · skip
        refine r_aload_n X dX10_leg_46 rfl rfl ?_
        refine r_getR X dX10_leg_47 fX10_32 (by assumption) (by assumption) ?_
        refine r_getR X dX10_leg_50 fX10_81 (by assumption) (by assumption) ?_
        refine r_getI X dX10_leg_53 fX10_85 (by assumption) (by first | assumption | rfl) ?_
        refine r_bipush (v := nI 12) X dX10_leg_56 (by decide) ?_
        refine r_icmpN_lt (tgt := 67) X dX10_leg_58 (by decide) (by omega) (by omega) (fun h58 => ?_) (fun h58 => ?_)
        · skip
          refine r_aload_n X dX10_leg_67 rfl rfl ?_
          refine r_getR X dX10_leg_68 fX10_32 (by assumption) (by assumption) ?_
          refine r_getR X dX10_leg_71 fX10_81 (by assumption) (by assumption) ?_
          refine r_iload_n X dX10_leg_74 rfl rfl ?_
          refine r_iload_n X dX10_leg_75 rfl rfl ?_
          refine q_callV X dX10_leg_76 mX10_90 cwX9_add (c_trAdd GE S I V J N (h + 9 + 1) n x y rTr hn (by omega)) rfl (by assumption) rfl rfl rfl (Nat.le_of_ble_eq_true rfl) ⟨Nat.le_of_ble_eq_true rfl, Nat.le_of_ble_eq_true rfl⟩ ⟨(by first | omega | decide | (simp only [rmL, rmA]; omega)), (by first | omega | decide | (simp only [rmL, rmA]; omega))⟩ ?_
          rintro _ _ ⟨rfl, rfl⟩
          refine r_aload_n X dX10_leg_79 rfl rfl ?_
          refine r_aload_n X dX10_leg_80 rfl rfl ?_
          refine r_getR X dX10_leg_81 fX10_32 (by assumption) (by assumption) ?_
          refine r_getR X dX10_leg_84 fX10_81 (by assumption) (by assumption) ?_
          refine r_getI X dX10_leg_87 fX10_85 (by assumption) (up2_same _ _ _ _) ?_
          refine q_callV X dX10_leg_90 mX10_94 cwX10_grant (c_hGrant GE S _ V J N h _ hs0) rfl (by assumption) rfl rfl rfl (Nat.le_of_ble_eq_true rfl) ⟨Nat.le_of_ble_eq_true rfl, Nat.le_of_ble_eq_true rfl⟩ ⟨(by first | omega | decide | (simp only [rmL, rmA]; omega)), (by first | omega | decide | (simp only [rmL, rmA]; omega))⟩ ?_
          rintro _ _ ⟨rfl, rfl⟩
          refine r_ireturn X dX10_leg_93 rfl (by first | omega | decide | (simp only [rmL, rmA]; omega)) (by first | omega | decide | (simp only [rmL, rmA]; omega)) ?_
          have hyes : inB x 10 2000 = true ∧ inB y 50 200 = true := ⟨bI_1 h25, bI_1 h37⟩
          exact ⟨by rw [hLeg, if_pos h7, if_pos hyes, if_pos (by omega)], by rw [hLeg, if_pos h7, if_pos hyes, if_pos (by omega)]⟩
        · skip
          refine r_aload_n X dX10_leg_61 rfl rfl ?_
          refine r_iconst (v := 3) X dX10_leg_62 (by decide) ?_
          refine q_callV X dX10_leg_63 mX10_73 cwX10_refuse (c_hRefuse GE S I V J N h _ hs0) rfl (by assumption) rfl rfl rfl (Nat.le_of_ble_eq_true rfl) ⟨Nat.le_of_ble_eq_true rfl, Nat.le_of_ble_eq_true rfl⟩ ⟨(by first | omega | decide | (simp only [rmL, rmA]; omega)), (by first | omega | decide | (simp only [rmL, rmA]; omega))⟩ ?_
          rintro _ _ ⟨rfl, rfl⟩
          refine r_ireturn X dX10_leg_66 rfl (by first | omega | decide | (simp only [rmL, rmA]; omega)) (by first | omega | decide | (simp only [rmL, rmA]; omega)) ?_
          have hyes : inB x 10 2000 = true ∧ inB y 50 200 = true := ⟨bI_1 h25, bI_1 h37⟩
          exact ⟨by rw [hLeg, if_pos h7, if_pos hyes, if_neg (by omega)], by rw [hLeg, if_pos h7, if_pos hyes, if_neg (by omega)]⟩
      · skip
        refine r_aload_n X dX10_leg_40 rfl rfl ?_
        refine r_iconst (v := 2) X dX10_leg_41 (by decide) ?_
        refine q_callV X dX10_leg_42 mX10_73 cwX10_refuse (c_hRefuse GE S I V J N h _ hs0) rfl (by assumption) rfl rfl rfl (Nat.le_of_ble_eq_true rfl) ⟨Nat.le_of_ble_eq_true rfl, Nat.le_of_ble_eq_true rfl⟩ ⟨(by first | omega | decide | (simp only [rmL, rmA]; omega)), (by first | omega | decide | (simp only [rmL, rmA]; omega))⟩ ?_
        rintro _ _ ⟨rfl, rfl⟩
        refine r_ireturn X dX10_leg_45 rfl (by first | omega | decide | (simp only [rmL, rmA]; omega)) (by first | omega | decide | (simp only [rmL, rmA]; omega)) ?_
        have hno : ¬ (inB x 10 2000 = true ∧ inB y 50 200 = true) := by
          rintro ⟨q1, q2⟩
          first | exact absurd ((bI_0 h25).symm.trans q1) (by decide) | exact absurd ((bI_0 h37).symm.trans q2) (by decide)
        exact ⟨by rw [hLeg, if_pos h7, if_neg hno], by rw [hLeg, if_pos h7, if_neg hno]⟩
  · skip
    refine r_aload_n X dX10_leg_10 rfl rfl ?_
    refine r_iconst (v := 5) X dX10_leg_11 (by decide) ?_
    refine q_callV X dX10_leg_12 mX10_73 cwX10_refuse (c_hRefuse GE S I V J N h _ hs0) rfl (by assumption) rfl rfl rfl (Nat.le_of_ble_eq_true rfl) ⟨Nat.le_of_ble_eq_true rfl, Nat.le_of_ble_eq_true rfl⟩ ⟨(by first | omega | decide | (simp only [rmL, rmA]; omega)), (by first | omega | decide | (simp only [rmL, rmA]; omega))⟩ ?_
    rintro _ _ ⟨rfl, rfl⟩
    refine r_ireturn X dX10_leg_15 rfl (by first | omega | decide | (simp only [rmL, rmA]; omega)) (by first | omega | decide | (simp only [rmL, rmA]; omega)) ?_
    exact ⟨by rw [hLeg, if_neg h7], by rw [hLeg, if_neg h7]⟩
/-- the hours lo .. j - 1 are so cold -/
def coldTo (I : Mem) (r lo j : Nat) (d : Int32) : Mem := fun b k => if b = r + 4 ∧ lo ≤ k ∧ k < j then d else I b k
theorem coldTo_0 (I : Mem) (r lo : Nat) (d : Int32) : coldTo I r lo lo d = I := by
  funext b k
  unfold coldTo
  rw [if_neg (by omega)]
theorem coldTo_s (I : Mem) (r lo j : Nat) (d : Int32) (h : lo ≤ j) : up2 (coldTo I r lo j d) (r + 4) j d = coldTo I r lo (j + 1) d := by
  funext b k
  unfold up2 coldTo
  by_cases hb : b = r + 4
  · by_cases hk : k = j
    · simp [hb, hk, h]
    · by_cases h2 : lo ≤ k ∧ k < j
      · simp [hb, hk, h2, show k < j + 1 by omega]
      · rw [if_neg (by omega), if_neg (by omega), if_neg (by omega)]
  · simp [hb]
def hCold (I : Mem) (h s : Nat) (x y d : Int32) : Int32 × Mem :=
  if 0 ≤ x ∧ y < 334 ∧ x ≤ y ∧ inB d (-50) 20 = true then (1, up2 (coldTo I (h + 9 + 1) (max x.toNatClampNeg ((s + 5) / 6)) (max (max x.toNatClampNeg ((s + 5) / 6)) (y.toNatClampNeg + 1)) d) h 8 0)
  else (0, up2 I h 8 2)
set_option maxHeartbeats 2000000 in
set_option maxRecDepth 20000 in
/-- SledHouse.cold -/
theorem c_hCold {E : Ev} (GE : Glob E) (S : Nat → Option (Nat × Nat)) (I : Nat → Nat → Int32) (V : Nat → Nat → Option Nat) (J : Nat → Nat → Int64) (N : Nat) (h s : Nat) (x y d : Int32) (hH : HouseSh S V h) (hs : I (h + 9) 3 = nI s) (hs2 : s ≤ 2000) : Ct E yX10_cold cX10_cold 6 (some .boolean) (rmL 1) [.ref h, .int x, .int y, .int d] (S, I, V, J, N) (fun v w' => v = some (.int (hCold I h s x y d).1) ∧ w' = (S, (hCold I h s x y d).2, V, J, N)) := by
  refine Ct.start GE (by decide) rfl (Nat.le_of_ble_eq_true rfl) (fun M X => ?_)
  have X : Cx E M RX10 cX10_cold 6 (rmL 1) (some .boolean) "cold" := X
  refine r_loc (L' := [some (.ref h), some (.int x), some (.int y), some (.int d), none, none]) rfl ?_
  obtain ⟨hs0, hv0, hv1, hv2, hv3, hv4, hv5, hTp, hs3, hPl, hLw, hRc, hs76, hGh, hRow⟩ := id hH
  obtain ⟨rs0, rv0, rv1, rTr, rs6, rTe⟩ := id hRc
  have qs0 := rTr.1
  have ts0 := hTp.1
  have ls0 := hLw.1
  obtain ⟨qs0', qv0, qv1, qv2, qv3, qs1, qs2, qs3, qs4⟩ := id rTr
  refine r_iload_n X dX10_cold_0 rfl rfl ?_
  refine r_if_lt (tgt := 27) X dX10_cold_1 (by decide) (fun h1 => ?_) (fun h1 => ?_)
  · skip
    refine r_aload_n X dX10_cold_27 rfl rfl ?_
    refine r_iconst (v := 2) X dX10_cold_28 (by decide) ?_
    refine q_callV X dX10_cold_29 mX10_97 cwX10_deny (c_hDeny GE S I V J N h _ hs0) rfl (by assumption) rfl rfl rfl (Nat.le_of_ble_eq_true rfl) ⟨Nat.le_of_ble_eq_true rfl, Nat.le_of_ble_eq_true rfl⟩ ⟨(by first | omega | decide | (simp only [rmL, rmA]; omega)), (by first | omega | decide | (simp only [rmL, rmA]; omega))⟩ ?_
    rintro _ _ ⟨rfl, rfl⟩
    refine r_ireturn X dX10_cold_32 rfl (by first | omega | decide | (simp only [rmL, rmA]; omega)) (by first | omega | decide | (simp only [rmL, rmA]; omega)) ?_
    have hno : ¬ (0 ≤ x ∧ y < 334 ∧ x ≤ y ∧ inB d (-50) 20 = true) := by
      rintro ⟨q1, q2, q3, q4⟩
      first | exact absurd h1 (Int32.not_lt.mpr q1) | exact absurd h8 (Int32.not_le.mpr q2) | exact absurd h13 (Int32.not_lt.mpr q3) | exact absurd ((bI_0 h24).symm.trans q4) (by decide)
    exact ⟨by rw [hCold, if_neg hno], by rw [hCold, if_neg hno]⟩
  · skip
    refine r_iload_n X dX10_cold_4 rfl rfl ?_
    refine r_sipush (v := 334) X dX10_cold_5 (by decide) ?_
    refine r_icmp_ge (tgt := 27) X dX10_cold_8 (by decide) (fun h8 => ?_) (fun h8 => ?_)
    · skip
      refine r_aload_n X dX10_cold_27 rfl rfl ?_
      refine r_iconst (v := 2) X dX10_cold_28 (by decide) ?_
      refine q_callV X dX10_cold_29 mX10_97 cwX10_deny (c_hDeny GE S I V J N h _ hs0) rfl (by assumption) rfl rfl rfl (Nat.le_of_ble_eq_true rfl) ⟨Nat.le_of_ble_eq_true rfl, Nat.le_of_ble_eq_true rfl⟩ ⟨(by first | omega | decide | (simp only [rmL, rmA]; omega)), (by first | omega | decide | (simp only [rmL, rmA]; omega))⟩ ?_
      rintro _ _ ⟨rfl, rfl⟩
      refine r_ireturn X dX10_cold_32 rfl (by first | omega | decide | (simp only [rmL, rmA]; omega)) (by first | omega | decide | (simp only [rmL, rmA]; omega)) ?_
      have hno : ¬ (0 ≤ x ∧ y < 334 ∧ x ≤ y ∧ inB d (-50) 20 = true) := by
        rintro ⟨q1, q2, q3, q4⟩
        first | exact absurd h1 (Int32.not_lt.mpr q1) | exact absurd h8 (Int32.not_le.mpr q2) | exact absurd h13 (Int32.not_lt.mpr q3) | exact absurd ((bI_0 h24).symm.trans q4) (by decide)
      exact ⟨by rw [hCold, if_neg hno], by rw [hCold, if_neg hno]⟩
    · skip
      refine r_iload_n X dX10_cold_11 rfl rfl ?_
      refine r_iload_n X dX10_cold_12 rfl rfl ?_
      refine r_icmp_gt (tgt := 27) X dX10_cold_13 (by decide) (fun h13 => ?_) (fun h13 => ?_)
      · skip
        refine r_aload_n X dX10_cold_27 rfl rfl ?_
        refine r_iconst (v := 2) X dX10_cold_28 (by decide) ?_
        refine q_callV X dX10_cold_29 mX10_97 cwX10_deny (c_hDeny GE S I V J N h _ hs0) rfl (by assumption) rfl rfl rfl (Nat.le_of_ble_eq_true rfl) ⟨Nat.le_of_ble_eq_true rfl, Nat.le_of_ble_eq_true rfl⟩ ⟨(by first | omega | decide | (simp only [rmL, rmA]; omega)), (by first | omega | decide | (simp only [rmL, rmA]; omega))⟩ ?_
        rintro _ _ ⟨rfl, rfl⟩
        refine r_ireturn X dX10_cold_32 rfl (by first | omega | decide | (simp only [rmL, rmA]; omega)) (by first | omega | decide | (simp only [rmL, rmA]; omega)) ?_
        have hno : ¬ (0 ≤ x ∧ y < 334 ∧ x ≤ y ∧ inB d (-50) 20 = true) := by
          rintro ⟨q1, q2, q3, q4⟩
          first | exact absurd h1 (Int32.not_lt.mpr q1) | exact absurd h8 (Int32.not_le.mpr q2) | exact absurd h13 (Int32.not_lt.mpr q3) | exact absurd ((bI_0 h24).symm.trans q4) (by decide)
        exact ⟨by rw [hCold, if_neg hno], by rw [hCold, if_neg hno]⟩
      · skip
        refine r_iload_n X dX10_cold_16 rfl rfl ?_
        refine r_bipush (v := -50) X dX10_cold_17 (by decide) ?_
        refine r_bipush (v := 20) X dX10_cold_19 (by decide) ?_
        refine q_callS X dX10_cold_21 mX10_77 cwX10_within (c_hWithin GE _ _ _ _) rfl rfl (Nat.le_of_ble_eq_true rfl) ⟨Nat.le_of_ble_eq_true rfl, Nat.le_of_ble_eq_true rfl⟩ ⟨(by first | omega | decide | (simp only [rmL, rmA]; omega)), (by first | omega | decide | (simp only [rmL, rmA]; omega))⟩ ?_
        rintro _ _ ⟨rfl, rfl⟩
        refine r_if_ne (tgt := 33) X dX10_cold_24 (by decide) (fun h24 => ?_) (fun h24 => ?_)
        · skip
          have hyes : 0 ≤ x ∧ y < 334 ∧ x ≤ y ∧ inB d (-50) 20 = true := ⟨Int32.not_lt.mp h1, Int32.not_le.mp h8, Int32.not_lt.mp h13, bI_1 h24⟩
          have e1 : (hCold I h s x y d).1 = 1 := by rw [hCold, if_pos hyes]
          have e2 : (hCold I h s x y d).2 = up2 (coldTo I (h + 9 + 1) (max x.toNatClampNeg ((s + 5) / 6)) (max (max x.toNatClampNeg ((s + 5) / 6)) (y.toNatClampNeg + 1)) d) h 8 0 := by rw [hCold, if_pos hyes]
          generalize (hCold I h s x y d).1 = v1 at *
          generalize (hCold I h s x y d).2 = I9 at *
          have hy0 : ¬ y < 0 := Int32.not_lt.mpr (Int32.le_trans hyes.1 hyes.2.2.1)
          obtain ⟨a, ha, rfl⟩ := nI_of h1
          obtain ⟨b, hb, rfl⟩ := nI_of hy0
          rw [nI_clamp ha, nI_clamp hb] at e2
          have hb3 : b < 334 := (nI_ltI hb (by decide)).mp hyes.2.1
          have hab : a ≤ b := (nI_leI ha hb).mp hyes.2.2.1
          generalize hlo : max a ((s + 5) / 6) = lo at e2
          have hlo2 : lo ≤ 2005 := by omega
          have H : ∀ j, j ≤ max lo (b + 1) → lo ≤ j → G E M 0 0 (qQ E M (rmL 1) (fun v w' => v = some (.int v1) ∧ w' = (S, I9, V, J, N))) 58 [some (.ref h), some (.int (nI a)), some (.int (nI b)), some (.int d), some (.int (nI ((s + 5) / 6))), some (.int (nI j))] [] (S, coldTo I (h + 9 + 1) lo j d, V, J, N) := by
            refine loopN (max lo (b + 1)) (fun j hj ih => ?_)
            intro hloj
            refine r_iload X dX10_cold_58 rfl ?_
            refine r_iload_n X dX10_cold_60 rfl rfl ?_
            refine r_icmpN_gt (tgt := 84) X dX10_cold_61 (by decide) (by omega) (by omega) (fun h61 => ?_) (fun h61 => ?_)
            · skip
              refine r_aload_n X dX10_cold_84 rfl rfl ?_
              refine q_callV X dX10_cold_85 mX10_111 cwX10_allow (c_hAllow GE S _ V J N h hs0) rfl (by assumption) rfl rfl rfl (Nat.le_of_ble_eq_true rfl) ⟨Nat.le_of_ble_eq_true rfl, Nat.le_of_ble_eq_true rfl⟩ ⟨(by first | omega | decide | (simp only [rmL, rmA]; omega)), (by first | omega | decide | (simp only [rmL, rmA]; omega))⟩ ?_
              rintro _ _ ⟨rfl, rfl⟩
              refine r_ireturn X dX10_cold_88 rfl (by first | omega | decide | (simp only [rmL, rmA]; omega)) (by first | omega | decide | (simp only [rmL, rmA]; omega)) ?_
              exact ⟨by rw [e1], by rw [e2, show j = max lo (b + 1) by omega]⟩
            · skip
              refine r_aload_n X dX10_cold_64 rfl rfl ?_
              refine r_getR X dX10_cold_65 fX10_32 (by assumption) (by assumption) ?_
              refine r_getR X dX10_cold_68 fX10_81 (by assumption) (by assumption) ?_
              refine r_getR X dX10_cold_71 fX10_107 (by assumption) (by assumption) ?_
              refine r_iload X dX10_cold_74 rfl ?_
              refine r_iload_n X dX10_cold_76 rfl rfl ?_
              refine r_iastN X dX10_cold_77 (by assumption) (by omega) (by omega) ?_
              first | refine r_iincN X dX10_cold_78 rfl (by decide) rfl ?_ | refine r_iinc X dX10_cold_78 rfl rfl (by decide) rfl ?_
              refine r_goto (tgt := 58) X dX10_cold_81 (by decide) ?_
              exact r_world (by rw [coldTo_s _ _ _ _ _ hloj]) (ih (by omega) (by omega))
          refine r_aload_n X dX10_cold_33 rfl rfl ?_
          refine r_getR X dX10_cold_34 fX10_32 (by assumption) (by assumption) ?_
          refine r_getI X dX10_cold_37 fX10_70 (by assumption) (by first | assumption | rfl) ?_
          refine r_bipush (v := 6) X dX10_cold_40 (by decide) ?_
          refine r_iadd X dX10_cold_42 ?_
          refine r_topi (nI (s + 6)) (nI_add s 6) ?_
          refine r_iconst (v := 1) X dX10_cold_43 (by decide) ?_
          refine r_isub X dX10_cold_44 ?_
          refine r_topi (nI (s + 5)) (pk_sub (a := s + 6) (b := 1) (by omega)) ?_
          refine r_bipush (v := 6) X dX10_cold_45 (by decide) ?_
          refine r_idiv X dX10_cold_47 (by decide) ?_
          refine r_topi (nI ((s + 5) / 6)) (pk_div (by omega) (by decide) (by decide)) ?_
          refine r_istore X dX10_cold_48 (by decide) rfl ?_
          refine r_iload_n X dX10_cold_50 rfl rfl ?_
          refine r_iload X dX10_cold_51 rfl ?_
          refine r_mmax X dX10_cold_53 mmX10_101 (Nat.le_of_ble_eq_true rfl) (Nat.le_of_ble_eq_true rfl) (by first | omega | decide | (simp only [rmL, rmA]; omega)) (by first | omega | decide | (simp only [rmL, rmA]; omega)) ?_
          refine r_topi (nI lo) (by rw [iMax_nI (by omega) (by omega), hlo]) ?_
          refine r_istore X dX10_cold_56 (by decide) rfl ?_
          exact r_world (by rw [coldTo_0]) (H lo (by omega) (Nat.le_refl _))
        · skip
          refine r_aload_n X dX10_cold_27 rfl rfl ?_
          refine r_iconst (v := 2) X dX10_cold_28 (by decide) ?_
          refine q_callV X dX10_cold_29 mX10_97 cwX10_deny (c_hDeny GE S I V J N h _ hs0) rfl (by assumption) rfl rfl rfl (Nat.le_of_ble_eq_true rfl) ⟨Nat.le_of_ble_eq_true rfl, Nat.le_of_ble_eq_true rfl⟩ ⟨(by first | omega | decide | (simp only [rmL, rmA]; omega)), (by first | omega | decide | (simp only [rmL, rmA]; omega))⟩ ?_
          rintro _ _ ⟨rfl, rfl⟩
          refine r_ireturn X dX10_cold_32 rfl (by first | omega | decide | (simp only [rmL, rmA]; omega)) (by first | omega | decide | (simp only [rmL, rmA]; omega)) ?_
          have hno : ¬ (0 ≤ x ∧ y < 334 ∧ x ≤ y ∧ inB d (-50) 20 = true) := by
            rintro ⟨q1, q2, q3, q4⟩
            first | exact absurd h1 (Int32.not_lt.mpr q1) | exact absurd h8 (Int32.not_le.mpr q2) | exact absurd h13 (Int32.not_lt.mpr q3) | exact absurd ((bI_0 h24).symm.trans q4) (by decide)
          exact ⟨by rw [hCold, if_neg hno], by rw [hCold, if_neg hno]⟩
def hFeed (I : Mem) (h z : Nat) (a b c d e : Int32) : Int32 × Mem :=
  if z + 20 ≤ 400 then (nI (z + 20), tPut (tPut (tPut (tPut (tPut I (h + 1) z a) (h + 1) (z + 4) b) (h + 1) (z + 8) c) (h + 1) (z + 12) d) (h + 1) (z + 16) e) else (-1, I)
theorem tPut_1 (I : Mem) (a z : Nat) (x : Int32) : tPut I a z x a 1 = nI (z + 4) := tPut1_1 _ _ _ _ _
set_option maxHeartbeats 2000000 in
set_option maxRecDepth 20000 in
/-- SledHouse.feed -/
theorem c_hFeed {E : Ev} (GE : Glob E) (S : Nat → Option (Nat × Nat)) (I : Nat → Nat → Int32) (V : Nat → Nat → Option Nat) (J : Nat → Nat → Int64) (N : Nat) (h z : Nat) (a b c d e : Int32) (hH : HouseSh S V h) (hz : I (h + 1) 1 = nI z) (hz4 : z ≤ 400) : Ct E yX10_feed cX10_feed 6 (some .int) (rmL 1) [.ref h, .int a, .int b, .int c, .int d, .int e] (S, I, V, J, N) (fun v w' => v = some (.int (hFeed I h z a b c d e).1) ∧ w' = (S, (hFeed I h z a b c d e).2, V, J, N)) := by
  refine Ct.start GE (by decide) rfl (Nat.le_of_ble_eq_true rfl) (fun M X => ?_)
  have X : Cx E M RX10 cX10_feed 6 (rmL 1) (some .int) "feed" := X
  refine r_loc (L' := [some (.ref h), some (.int a), some (.int b), some (.int c), some (.int d), some (.int e)]) rfl ?_
  obtain ⟨hs0, hv0, hv1, hv2, hv3, hv4, hv5, hTp, hs3, hPl, hLw, hRc, hs76, hGh, hRow⟩ := id hH
  obtain ⟨rs0, rv0, rv1, rTr, rs6, rTe⟩ := id hRc
  have qs0 := rTr.1
  have ts0 := hTp.1
  have ls0 := hLw.1
  refine r_aload_n X dX10_feed_0 rfl rfl ?_
  refine r_getR X dX10_feed_1 fX10_10 (by assumption) (by assumption) ?_
  refine r_getI X dX10_feed_4 fX10_115 (by assumption) (by first | assumption | rfl) ?_
  refine r_bipush (v := 20) X dX10_feed_7 (by decide) ?_
  refine r_iadd X dX10_feed_9 ?_
  refine r_topi (nI (z + 20)) (nI_add z 20) ?_
  refine r_sipush (v := nI 400) X dX10_feed_10 (by decide) ?_
  refine r_icmpN_le (tgt := 18) X dX10_feed_13 (by decide) (by omega) (by omega) (fun h13 => ?_) (fun h13 => ?_)
  · skip
    refine r_aload_n X dX10_feed_18 rfl rfl ?_
    refine r_getR X dX10_feed_19 fX10_10 (by assumption) (by assumption) ?_
    refine r_iload_n X dX10_feed_22 rfl rfl ?_
    refine q_callV X dX10_feed_23 mX10_118 cwX7_put (c_tPut GE S I V J N (h + 1) z _ hTp hz (by omega)) rfl (by assumption) rfl rfl rfl (Nat.le_of_ble_eq_true rfl) ⟨Nat.le_of_ble_eq_true rfl, Nat.le_of_ble_eq_true rfl⟩ ⟨(by first | omega | decide | (simp only [rmL, rmA]; omega)), (by first | omega | decide | (simp only [rmL, rmA]; omega))⟩ ?_
    rintro _ _ ⟨rfl, rfl⟩
    refine r_aload_n X dX10_feed_26 rfl rfl ?_
    refine r_getR X dX10_feed_27 fX10_10 (by assumption) (by assumption) ?_
    refine r_iload_n X dX10_feed_30 rfl rfl ?_
    refine q_callV X dX10_feed_31 mX10_118 cwX7_put (c_tPut GE S _ V J N (h + 1) (z + 4) _ hTp (tPut_1 _ _ _ _) (by omega)) rfl (by assumption) rfl rfl rfl (Nat.le_of_ble_eq_true rfl) ⟨Nat.le_of_ble_eq_true rfl, Nat.le_of_ble_eq_true rfl⟩ ⟨(by first | omega | decide | (simp only [rmL, rmA]; omega)), (by first | omega | decide | (simp only [rmL, rmA]; omega))⟩ ?_
    rintro _ _ ⟨rfl, rfl⟩
    refine r_aload_n X dX10_feed_34 rfl rfl ?_
    refine r_getR X dX10_feed_35 fX10_10 (by assumption) (by assumption) ?_
    refine r_iload_n X dX10_feed_38 rfl rfl ?_
    refine q_callV X dX10_feed_39 mX10_118 cwX7_put (c_tPut GE S _ V J N (h + 1) (z + 8) _ hTp (tPut_1 _ _ _ _) (by omega)) rfl (by assumption) rfl rfl rfl (Nat.le_of_ble_eq_true rfl) ⟨Nat.le_of_ble_eq_true rfl, Nat.le_of_ble_eq_true rfl⟩ ⟨(by first | omega | decide | (simp only [rmL, rmA]; omega)), (by first | omega | decide | (simp only [rmL, rmA]; omega))⟩ ?_
    rintro _ _ ⟨rfl, rfl⟩
    refine r_aload_n X dX10_feed_42 rfl rfl ?_
    refine r_getR X dX10_feed_43 fX10_10 (by assumption) (by assumption) ?_
    refine r_iload X dX10_feed_46 rfl ?_
    refine q_callV X dX10_feed_48 mX10_118 cwX7_put (c_tPut GE S _ V J N (h + 1) (z + 12) _ hTp (tPut_1 _ _ _ _) (by omega)) rfl (by assumption) rfl rfl rfl (Nat.le_of_ble_eq_true rfl) ⟨Nat.le_of_ble_eq_true rfl, Nat.le_of_ble_eq_true rfl⟩ ⟨(by first | omega | decide | (simp only [rmL, rmA]; omega)), (by first | omega | decide | (simp only [rmL, rmA]; omega))⟩ ?_
    rintro _ _ ⟨rfl, rfl⟩
    refine r_aload_n X dX10_feed_51 rfl rfl ?_
    refine r_getR X dX10_feed_52 fX10_10 (by assumption) (by assumption) ?_
    refine r_iload X dX10_feed_55 rfl ?_
    refine q_callV X dX10_feed_57 mX10_118 cwX7_put (c_tPut GE S _ V J N (h + 1) (z + 16) _ hTp (tPut_1 _ _ _ _) (by omega)) rfl (by assumption) rfl rfl rfl (Nat.le_of_ble_eq_true rfl) ⟨Nat.le_of_ble_eq_true rfl, Nat.le_of_ble_eq_true rfl⟩ ⟨(by first | omega | decide | (simp only [rmL, rmA]; omega)), (by first | omega | decide | (simp only [rmL, rmA]; omega))⟩ ?_
    rintro _ _ ⟨rfl, rfl⟩
    refine r_aload_n X dX10_feed_60 rfl rfl ?_
    refine r_getR X dX10_feed_61 fX10_10 (by assumption) (by assumption) ?_
    refine r_getI X dX10_feed_64 fX10_115 (by assumption) (tPut_1 _ _ _ _) ?_
    refine r_ireturn X dX10_feed_67 rfl (by first | omega | decide | (simp only [rmL, rmA]; omega)) (by first | omega | decide | (simp only [rmL, rmA]; omega)) ?_
    exact ⟨by rw [hFeed, if_pos (by omega)], by rw [hFeed, if_pos (by omega)]⟩
  · skip
    refine r_iconst (v := -1) X dX10_feed_16 (by decide) ?_
    refine r_ireturn X dX10_feed_17 rfl (by first | omega | decide | (simp only [rmL, rmA]; omega)) (by first | omega | decide | (simp only [rmL, rmA]; omega)) ?_
    exact ⟨by rw [hFeed, if_neg (by omega)], by rw [hFeed, if_neg (by omega)]⟩
def hEach (I : Mem) (h : Nat) (x : Int32) : Int32 × Mem := if I (h + 9) 3 ≤ 0 then (if inB x 1 48 = true then (1, up2 (up2 I (h + 9) 4 x) h 8 0) else (0, up2 I h 8 2)) else (0, up2 I h 8 5)
set_option maxHeartbeats 2000000 in
set_option maxRecDepth 20000 in
/-- SledHouse.each -/
theorem c_hEach {E : Ev} (GE : Glob E) (S : Nat → Option (Nat × Nat)) (I : Nat → Nat → Int32) (V : Nat → Nat → Option Nat) (J : Nat → Nat → Int64) (N : Nat) (h : Nat) (x : Int32) (hH : HouseSh S V h) : Ct E yX10_each cX10_each 2 (some .boolean) (rmL 1) [.ref h, .int x] (S, I, V, J, N) (fun v w' => v = some (.int (hEach I h x).1) ∧ w' = (S, (hEach I h x).2, V, J, N)) := by
  refine Ct.start GE (by decide) rfl (Nat.le_of_ble_eq_true rfl) (fun M X => ?_)
  have X : Cx E M RX10 cX10_each 2 (rmL 1) (some .boolean) "each" := X
  refine r_loc (L' := [some (.ref h), some (.int x)]) rfl ?_
  obtain ⟨hs0, hv0, hv1, hv2, hv3, hv4, hv5, hTp, hs3, hPl, hLw, hRc, hs76, hGh, hRow⟩ := id hH
  obtain ⟨rs0, rv0, rv1, rTr, rs6, rTe⟩ := id hRc
  have qs0 := rTr.1
  have ts0 := hTp.1
  have ls0 := hLw.1
  refine r_aload_n X dX10_each_0 rfl rfl ?_
  refine r_getR X dX10_each_1 fX10_32 (by assumption) (by assumption) ?_
  refine r_getI X dX10_each_4 fX10_70 (by assumption) (by first | assumption | rfl) ?_
  refine r_if_le (tgt := 16) X dX10_each_7 (by decide) (fun h7 => ?_) (fun h7 => ?_)
  · skip
    refine r_iload_n X dX10_each_16 rfl rfl ?_
    refine r_iconst (v := 1) X dX10_each_17 (by decide) ?_
    refine r_bipush (v := 48) X dX10_each_18 (by decide) ?_
    refine q_callS X dX10_each_20 mX10_77 cwX10_within (c_hWithin GE _ _ _ _) rfl rfl (Nat.le_of_ble_eq_true rfl) ⟨Nat.le_of_ble_eq_true rfl, Nat.le_of_ble_eq_true rfl⟩ ⟨(by first | omega | decide | (simp only [rmL, rmA]; omega)), (by first | omega | decide | (simp only [rmL, rmA]; omega))⟩ ?_
    rintro _ _ ⟨rfl, rfl⟩
    refine r_if_ne (tgt := 32) X dX10_each_23 (by decide) (fun h23 => ?_) (fun h23 => ?_)
    · skip
      refine r_aload_n X dX10_each_32 rfl rfl ?_
      refine r_getR X dX10_each_33 fX10_32 (by assumption) (by assumption) ?_
      refine r_iload_n X dX10_each_36 rfl rfl ?_
      refine r_putI X dX10_each_37 fX10_170 wX10_170 (by assumption) rfl rfl ?_
      refine r_aload_n X dX10_each_40 rfl rfl ?_
      refine q_callV X dX10_each_41 mX10_111 cwX10_allow (c_hAllow GE S _ V J N h hs0) rfl (by assumption) rfl rfl rfl (Nat.le_of_ble_eq_true rfl) ⟨Nat.le_of_ble_eq_true rfl, Nat.le_of_ble_eq_true rfl⟩ ⟨(by first | omega | decide | (simp only [rmL, rmA]; omega)), (by first | omega | decide | (simp only [rmL, rmA]; omega))⟩ ?_
      rintro _ _ ⟨rfl, rfl⟩
      refine r_ireturn X dX10_each_44 rfl (by first | omega | decide | (simp only [rmL, rmA]; omega)) (by first | omega | decide | (simp only [rmL, rmA]; omega)) ?_
      have q : inB x 1 48 = true := bI_1 h23
      exact ⟨by rw [hEach, if_pos h7, if_pos q], by rw [hEach, if_pos h7, if_pos q]⟩
    · skip
      refine r_aload_n X dX10_each_26 rfl rfl ?_
      refine r_iconst (v := 2) X dX10_each_27 (by decide) ?_
      refine q_callV X dX10_each_28 mX10_97 cwX10_deny (c_hDeny GE S I V J N h _ hs0) rfl (by assumption) rfl rfl rfl (Nat.le_of_ble_eq_true rfl) ⟨Nat.le_of_ble_eq_true rfl, Nat.le_of_ble_eq_true rfl⟩ ⟨(by first | omega | decide | (simp only [rmL, rmA]; omega)), (by first | omega | decide | (simp only [rmL, rmA]; omega))⟩ ?_
      rintro _ _ ⟨rfl, rfl⟩
      refine r_ireturn X dX10_each_31 rfl (by first | omega | decide | (simp only [rmL, rmA]; omega)) (by first | omega | decide | (simp only [rmL, rmA]; omega)) ?_
      have q : ¬ inB x 1 48 = true := fun z => absurd ((bI_0 h23).symm.trans z) (by decide)
      exact ⟨by rw [hEach, if_pos h7, if_neg q], by rw [hEach, if_pos h7, if_neg q]⟩
  · skip
    refine r_aload_n X dX10_each_10 rfl rfl ?_
    refine r_iconst (v := 5) X dX10_each_11 (by decide) ?_
    refine q_callV X dX10_each_12 mX10_97 cwX10_deny (c_hDeny GE S I V J N h _ hs0) rfl (by assumption) rfl rfl rfl (Nat.le_of_ble_eq_true rfl) ⟨Nat.le_of_ble_eq_true rfl, Nat.le_of_ble_eq_true rfl⟩ ⟨(by first | omega | decide | (simp only [rmL, rmA]; omega)), (by first | omega | decide | (simp only [rmL, rmA]; omega))⟩ ?_
    rintro _ _ ⟨rfl, rfl⟩
    refine r_ireturn X dX10_each_15 rfl (by first | omega | decide | (simp only [rmL, rmA]; omega)) (by first | omega | decide | (simp only [rmL, rmA]; omega)) ?_
    exact ⟨by rw [hEach, if_neg h7], by rw [hEach, if_neg h7]⟩
def hFollow (I : Mem) (h c pc : Nat) (x y : Int32) : Int32 × Mem := match ixI x c with
  | none => (0, up2 I h 8 1)
  | some i => if (ixI y pc).isSome = true then (if tThrough I (tm h i) = true then (0, up2 I h 8 5) else (1, up2 (up2 I (tm h i) 7 y) h 8 0)) else (0, up2 I h 8 1)
set_option maxHeartbeats 2000000 in
set_option maxRecDepth 20000 in
/-- SledHouse.follow -/
theorem c_hFollow {E : Ev} (GE : Glob E) (S : Nat → Option (Nat × Nat)) (I : Nat → Nat → Int32) (V : Nat → Nat → Option Nat) (J : Nat → Nat → Int64) (N : Nat) (h c pc : Nat) (x y : Int32) (hH : HouseSh S V h) (hc : I (h + 9) 2 = nI c) (hc6 : c ≤ 6) (hpc : I h 7 = nI pc) : Ct E yX10_follow cX10_follow 4 (some .boolean) (rmL 1) [.ref h, .int x, .int y] (S, I, V, J, N) (fun v w' => v = some (.int (hFollow I h c pc x y).1) ∧ w' = (S, (hFollow I h c pc x y).2, V, J, N)) := by
  refine Ct.start GE (by decide) rfl (Nat.le_of_ble_eq_true rfl) (fun M X => ?_)
  have X : Cx E M RX10 cX10_follow 4 (rmL 1) (some .boolean) "follow" := X
  refine r_loc (L' := [some (.ref h), some (.int x), some (.int y), none]) rfl ?_
  obtain ⟨hs0, hv0, hv1, hv2, hv3, hv4, hv5, hTp, hs3, hPl, hLw, hRc, hs76, hGh, hRow⟩ := id hH
  obtain ⟨rs0, rv0, rv1, rTr, rs6, rTe⟩ := id hRc
  have qs0 := rTr.1
  have ts0 := hTp.1
  have ls0 := hLw.1
  rcases hx : ixI x c with _ | i
  · skip
    refine r_aload_n X dX10_follow_0 rfl rfl ?_
    refine r_iload_n X dX10_follow_1 rfl rfl ?_
    refine q_callV X dX10_follow_2 mX10_153 cwX10_isTeam (c_hIsTeam GE S I V J N h c x hH hc) rfl (by assumption) rfl rfl rfl (Nat.le_of_ble_eq_true rfl) ⟨Nat.le_of_ble_eq_true rfl, Nat.le_of_ble_eq_true rfl⟩ ⟨(by first | omega | decide | (simp only [rmL, rmA]; omega)), (by first | omega | decide | (simp only [rmL, rmA]; omega))⟩ ?_
    rintro _ _ ⟨rfl, rfl⟩
    refine r_if_eq (tgt := 16) X dX10_follow_5 (by decide) (fun h5 => ?_) (fun h5 => ?_)
    · skip
      refine r_aload_n X dX10_follow_16 rfl rfl ?_
      refine r_iconst (v := 1) X dX10_follow_17 (by decide) ?_
      refine q_callV X dX10_follow_18 mX10_97 cwX10_deny (c_hDeny GE S I V J N h _ hs0) rfl (by assumption) rfl rfl rfl (Nat.le_of_ble_eq_true rfl) ⟨Nat.le_of_ble_eq_true rfl, Nat.le_of_ble_eq_true rfl⟩ ⟨(by first | omega | decide | (simp only [rmL, rmA]; omega)), (by first | omega | decide | (simp only [rmL, rmA]; omega))⟩ ?_
      rintro _ _ ⟨rfl, rfl⟩
      refine r_ireturn X dX10_follow_21 rfl (by first | omega | decide | (simp only [rmL, rmA]; omega)) (by first | omega | decide | (simp only [rmL, rmA]; omega)) ?_
      exact ⟨by simp [hFollow, hx], by simp [hFollow, hx]⟩
    · skip
      exact (ix_f hx h5).elim
  · skip
    obtain ⟨hi, rfl⟩ := ixI_some (by omega) hx
    have te := rTe i (by omega)
    have te1 := te.1
    have te2 := te.2
    obtain ⟨as0, av0, av1, av2, av3, aD, aG, as8, as9⟩ := id te2
    obtain ⟨ds0, dv0, dv1, dv2, ds1, ds2, ds3⟩ := id aD
    obtain ⟨gs0, gv0, gv1, gs1, gs2⟩ := id aG
    refine r_aload_n X dX10_follow_0 rfl rfl ?_
    refine r_iload_n X dX10_follow_1 rfl rfl ?_
    refine q_callV X dX10_follow_2 mX10_153 cwX10_isTeam (c_hIsTeam GE S I V J N h c _ hH hc) rfl (by assumption) rfl rfl rfl (Nat.le_of_ble_eq_true rfl) ⟨Nat.le_of_ble_eq_true rfl, Nat.le_of_ble_eq_true rfl⟩ ⟨(by first | omega | decide | (simp only [rmL, rmA]; omega)), (by first | omega | decide | (simp only [rmL, rmA]; omega))⟩ ?_
    rintro _ _ ⟨rfl, rfl⟩
    refine r_if_eq (tgt := 16) X dX10_follow_5 (by decide) (fun h5 => ?_) (fun h5 => ?_)
    · skip
      exact (ix_t hx h5).elim
    · skip
      refine r_aload_n X dX10_follow_8 rfl rfl ?_
      refine r_iload_n X dX10_follow_9 rfl rfl ?_
      refine q_callV X dX10_follow_10 mX10_139 cwX10_isPlan (c_hIsPlan GE S I V J N h pc y hH hpc) rfl (by assumption) rfl rfl rfl (Nat.le_of_ble_eq_true rfl) ⟨Nat.le_of_ble_eq_true rfl, Nat.le_of_ble_eq_true rfl⟩ ⟨(by first | omega | decide | (simp only [rmL, rmA]; omega)), (by first | omega | decide | (simp only [rmL, rmA]; omega))⟩ ?_
      rintro _ _ ⟨rfl, rfl⟩
      refine r_if_ne (tgt := 22) X dX10_follow_13 (by decide) (fun h13 => ?_) (fun h13 => ?_)
      · skip
        refine r_aload_n X dX10_follow_22 rfl rfl ?_
        refine r_getR X dX10_follow_23 fX10_32 (by assumption) (by assumption) ?_
        refine r_getR X dX10_follow_26 fX10_145 (by assumption) (by assumption) ?_
        refine r_iload_n X dX10_follow_29 rfl rfl ?_
        refine r_aaldN X dX10_follow_30 (by assumption) (by decide) rfl (by omega) (by omega) (by assumption) ?_
        refine r_astore_n X dX10_follow_31 rfl (by decide) rfl ?_
        refine r_aload_n X dX10_follow_32 rfl rfl ?_
        refine q_callV X dX10_follow_33 mX10_156 cwX8_isThrough (c_tThrough GE S I V J N _ te2) rfl (by assumption) rfl rfl rfl (Nat.le_of_ble_eq_true rfl) ⟨Nat.le_of_ble_eq_true rfl, Nat.le_of_ble_eq_true rfl⟩ ⟨(by first | omega | decide | (simp only [rmL, rmA]; omega)), (by first | omega | decide | (simp only [rmL, rmA]; omega))⟩ ?_
        rintro _ _ ⟨rfl, rfl⟩
        refine r_if_eq (tgt := 45) X dX10_follow_36 (by decide) (fun h36 => ?_) (fun h36 => ?_)
        · skip
          refine r_aload_n X dX10_follow_45 rfl rfl ?_
          refine r_iload_n X dX10_follow_46 rfl rfl ?_
          refine r_putI X dX10_follow_47 fX10_159 wX10_159 (by assumption) rfl rfl ?_
          refine r_aload_n X dX10_follow_50 rfl rfl ?_
          refine q_callV X dX10_follow_51 mX10_111 cwX10_allow (c_hAllow GE S _ V J N h hs0) rfl (by assumption) rfl rfl rfl (Nat.le_of_ble_eq_true rfl) ⟨Nat.le_of_ble_eq_true rfl, Nat.le_of_ble_eq_true rfl⟩ ⟨(by first | omega | decide | (simp only [rmL, rmA]; omega)), (by first | omega | decide | (simp only [rmL, rmA]; omega))⟩ ?_
          rintro _ _ ⟨rfl, rfl⟩
          refine r_ireturn X dX10_follow_54 rfl (by first | omega | decide | (simp only [rmL, rmA]; omega)) (by first | omega | decide | (simp only [rmL, rmA]; omega)) ?_
          exact ⟨by simp [hFollow, hx, bI_1 h13, bI_0 h36], by simp [hFollow, hx, bI_1 h13, bI_0 h36]⟩
        · skip
          refine r_aload_n X dX10_follow_39 rfl rfl ?_
          refine r_iconst (v := 5) X dX10_follow_40 (by decide) ?_
          refine q_callV X dX10_follow_41 mX10_97 cwX10_deny (c_hDeny GE S I V J N h _ hs0) rfl (by assumption) rfl rfl rfl (Nat.le_of_ble_eq_true rfl) ⟨Nat.le_of_ble_eq_true rfl, Nat.le_of_ble_eq_true rfl⟩ ⟨(by first | omega | decide | (simp only [rmL, rmA]; omega)), (by first | omega | decide | (simp only [rmL, rmA]; omega))⟩ ?_
          rintro _ _ ⟨rfl, rfl⟩
          refine r_ireturn X dX10_follow_44 rfl (by first | omega | decide | (simp only [rmL, rmA]; omega)) (by first | omega | decide | (simp only [rmL, rmA]; omega)) ?_
          exact ⟨by simp [hFollow, hx, bI_1 h13, bI_1 h36], by simp [hFollow, hx, bI_1 h13, bI_1 h36]⟩
      · skip
        refine r_aload_n X dX10_follow_16 rfl rfl ?_
        refine r_iconst (v := 1) X dX10_follow_17 (by decide) ?_
        refine q_callV X dX10_follow_18 mX10_97 cwX10_deny (c_hDeny GE S I V J N h _ hs0) rfl (by assumption) rfl rfl rfl (Nat.le_of_ble_eq_true rfl) ⟨Nat.le_of_ble_eq_true rfl, Nat.le_of_ble_eq_true rfl⟩ ⟨(by first | omega | decide | (simp only [rmL, rmA]; omega)), (by first | omega | decide | (simp only [rmL, rmA]; omega))⟩ ?_
        rintro _ _ ⟨rfl, rfl⟩
        refine r_ireturn X dX10_follow_21 rfl (by first | omega | decide | (simp only [rmL, rmA]; omega)) (by first | omega | decide | (simp only [rmL, rmA]; omega)) ?_
        exact ⟨by simp [hFollow, hx, bI_0 h13], by simp [hFollow, hx, bI_0 h13]⟩
def tG (I : Mem) (t : Nat) : Nat := (I (t + 5) 2).toNatClampNeg
def hGap (I : Mem) (h c : Nat) (x y z : Int32) : Int32 × Mem := match ixI x c with
  | none => (-1, up2 I h 8 1)
  | some i => if 0 ≤ y ∧ z ≤ 2000 ∧ y ≤ z then (if tG I (tm h i) < 4 then (nI (tG I (tm h i) + 1), up2 (gAdd I (tm h i + 5) (tG I (tm h i)) y z) h 8 0) else (-1, up2 I h 8 3)) else (-1, up2 I h 8 2)
set_option maxHeartbeats 2000000 in
set_option maxRecDepth 20000 in
/-- SledHouse.gap -/
theorem c_hGap {E : Ev} (GE : Glob E) (S : Nat → Option (Nat × Nat)) (I : Nat → Nat → Int32) (V : Nat → Nat → Option Nat) (J : Nat → Nat → Int64) (N : Nat) (h c : Nat) (x y z : Int32) (hH : HouseSh S V h) (hc : I (h + 9) 2 = nI c) (hc6 : c ≤ 6) (hg : ∀ i, i < c → I (tm h i + 5) 2 = nI (tG I (tm h i)) ∧ tG I (tm h i) ≤ 4) : Ct E yX10_gap cX10_gap 5 (some .int) (rmL 1) [.ref h, .int x, .int y, .int z] (S, I, V, J, N) (fun v w' => v = some (.int (hGap I h c x y z).1) ∧ w' = (S, (hGap I h c x y z).2, V, J, N)) := by
  refine Ct.start GE (by decide) rfl (Nat.le_of_ble_eq_true rfl) (fun M X => ?_)
  have X : Cx E M RX10 cX10_gap 5 (rmL 1) (some .int) "gap" := X
  refine r_loc (L' := [some (.ref h), some (.int x), some (.int y), some (.int z), none]) rfl ?_
  obtain ⟨hs0, hv0, hv1, hv2, hv3, hv4, hv5, hTp, hs3, hPl, hLw, hRc, hs76, hGh, hRow⟩ := id hH
  obtain ⟨rs0, rv0, rv1, rTr, rs6, rTe⟩ := id hRc
  have qs0 := rTr.1
  have ts0 := hTp.1
  have ls0 := hLw.1
  rcases hx : ixI x c with _ | i
  · skip
    refine r_aload_n X dX10_gap_0 rfl rfl ?_
    refine r_iload_n X dX10_gap_1 rfl rfl ?_
    refine q_callV X dX10_gap_2 mX10_153 cwX10_isTeam (c_hIsTeam GE S I V J N h c x hH hc) rfl (by assumption) rfl rfl rfl (Nat.le_of_ble_eq_true rfl) ⟨Nat.le_of_ble_eq_true rfl, Nat.le_of_ble_eq_true rfl⟩ ⟨(by first | omega | decide | (simp only [rmL, rmA]; omega)), (by first | omega | decide | (simp only [rmL, rmA]; omega))⟩ ?_
    rintro _ _ ⟨rfl, rfl⟩
    refine r_if_ne (tgt := 14) X dX10_gap_5 (by decide) (fun h5 => ?_) (fun h5 => ?_)
    · skip
      exact (ix_f hx h5).elim
    · skip
      refine r_aload_n X dX10_gap_8 rfl rfl ?_
      refine r_iconst (v := 1) X dX10_gap_9 (by decide) ?_
      refine q_callV X dX10_gap_10 mX10_73 cwX10_refuse (c_hRefuse GE S I V J N h _ hs0) rfl (by assumption) rfl rfl rfl (Nat.le_of_ble_eq_true rfl) ⟨Nat.le_of_ble_eq_true rfl, Nat.le_of_ble_eq_true rfl⟩ ⟨(by first | omega | decide | (simp only [rmL, rmA]; omega)), (by first | omega | decide | (simp only [rmL, rmA]; omega))⟩ ?_
      rintro _ _ ⟨rfl, rfl⟩
      refine r_ireturn X dX10_gap_13 rfl (by first | omega | decide | (simp only [rmL, rmA]; omega)) (by first | omega | decide | (simp only [rmL, rmA]; omega)) ?_
      exact ⟨by simp [hGap, hx], by simp [hGap, hx]⟩
  · skip
    obtain ⟨hi, rfl⟩ := ixI_some (by omega) hx
    have te := rTe i (by omega)
    have te1 := te.1
    have te2 := te.2
    obtain ⟨as0, av0, av1, av2, av3, aD, aG, as8, as9⟩ := id te2
    obtain ⟨ds0, dv0, dv1, dv2, ds1, ds2, ds3⟩ := id aD
    obtain ⟨gs0, gv0, gv1, gs1, gs2⟩ := id aG
    obtain ⟨hg1, hg2⟩ := hg i hi
    refine r_aload_n X dX10_gap_0 rfl rfl ?_
    refine r_iload_n X dX10_gap_1 rfl rfl ?_
    refine q_callV X dX10_gap_2 mX10_153 cwX10_isTeam (c_hIsTeam GE S I V J N h c _ hH hc) rfl (by assumption) rfl rfl rfl (Nat.le_of_ble_eq_true rfl) ⟨Nat.le_of_ble_eq_true rfl, Nat.le_of_ble_eq_true rfl⟩ ⟨(by first | omega | decide | (simp only [rmL, rmA]; omega)), (by first | omega | decide | (simp only [rmL, rmA]; omega))⟩ ?_
    rintro _ _ ⟨rfl, rfl⟩
    refine r_if_ne (tgt := 14) X dX10_gap_5 (by decide) (fun h5 => ?_) (fun h5 => ?_)
    · skip
      refine r_iload_n X dX10_gap_14 rfl rfl ?_
      refine r_if_lt (tgt := 30) X dX10_gap_15 (by decide) (fun h15 => ?_) (fun h15 => ?_)
      · skip
        refine r_aload_n X dX10_gap_30 rfl rfl ?_
        refine r_iconst (v := 2) X dX10_gap_31 (by decide) ?_
        refine q_callV X dX10_gap_32 mX10_73 cwX10_refuse (c_hRefuse GE S I V J N h _ hs0) rfl (by assumption) rfl rfl rfl (Nat.le_of_ble_eq_true rfl) ⟨Nat.le_of_ble_eq_true rfl, Nat.le_of_ble_eq_true rfl⟩ ⟨(by first | omega | decide | (simp only [rmL, rmA]; omega)), (by first | omega | decide | (simp only [rmL, rmA]; omega))⟩ ?_
        rintro _ _ ⟨rfl, rfl⟩
        refine r_ireturn X dX10_gap_35 rfl (by first | omega | decide | (simp only [rmL, rmA]; omega)) (by first | omega | decide | (simp only [rmL, rmA]; omega)) ?_
        have hno : ¬ (0 ≤ y ∧ z ≤ 2000 ∧ y ≤ z) := by
          rintro ⟨q1, q2, q3⟩
          first | exact absurd h15 (Int32.not_lt.mpr q1) | exact absurd h22 (Int32.not_lt.mpr q2) | exact absurd q3 h27
        exact ⟨by simp only [hGap, hx]; rw [if_neg hno], by simp only [hGap, hx]; rw [if_neg hno]⟩
      · skip
        refine r_iload_n X dX10_gap_18 rfl rfl ?_
        refine r_sipush (v := 2000) X dX10_gap_19 (by decide) ?_
        refine r_icmp_gt (tgt := 30) X dX10_gap_22 (by decide) (fun h22 => ?_) (fun h22 => ?_)
        · skip
          refine r_aload_n X dX10_gap_30 rfl rfl ?_
          refine r_iconst (v := 2) X dX10_gap_31 (by decide) ?_
          refine q_callV X dX10_gap_32 mX10_73 cwX10_refuse (c_hRefuse GE S I V J N h _ hs0) rfl (by assumption) rfl rfl rfl (Nat.le_of_ble_eq_true rfl) ⟨Nat.le_of_ble_eq_true rfl, Nat.le_of_ble_eq_true rfl⟩ ⟨(by first | omega | decide | (simp only [rmL, rmA]; omega)), (by first | omega | decide | (simp only [rmL, rmA]; omega))⟩ ?_
          rintro _ _ ⟨rfl, rfl⟩
          refine r_ireturn X dX10_gap_35 rfl (by first | omega | decide | (simp only [rmL, rmA]; omega)) (by first | omega | decide | (simp only [rmL, rmA]; omega)) ?_
          have hno : ¬ (0 ≤ y ∧ z ≤ 2000 ∧ y ≤ z) := by
            rintro ⟨q1, q2, q3⟩
            first | exact absurd h15 (Int32.not_lt.mpr q1) | exact absurd h22 (Int32.not_lt.mpr q2) | exact absurd q3 h27
          exact ⟨by simp only [hGap, hx]; rw [if_neg hno], by simp only [hGap, hx]; rw [if_neg hno]⟩
        · skip
          refine r_iload_n X dX10_gap_25 rfl rfl ?_
          refine r_iload_n X dX10_gap_26 rfl rfl ?_
          refine r_icmp_le (tgt := 36) X dX10_gap_27 (by decide) (fun h27 => ?_) (fun h27 => ?_)
          · skip
            refine r_aload_n X dX10_gap_36 rfl rfl ?_
            refine r_getR X dX10_gap_37 fX10_32 (by assumption) (by assumption) ?_
            refine r_getR X dX10_gap_40 fX10_145 (by assumption) (by assumption) ?_
            refine r_iload_n X dX10_gap_43 rfl rfl ?_
            refine r_aaldN X dX10_gap_44 (by assumption) (by decide) rfl (by omega) (by omega) (by assumption) ?_
            refine r_getR X dX10_gap_45 fX10_162 (by assumption) (by assumption) ?_
            refine r_astore X dX10_gap_48 (by decide) rfl ?_
            refine r_aload X dX10_gap_50 rfl ?_
            refine r_getI X dX10_gap_52 fX10_166 (by assumption) (by first | assumption | rfl) ?_
            refine r_iconst (v := nI 4) X dX10_gap_55 (by decide) ?_
            refine r_icmpN_lt (tgt := 65) X dX10_gap_56 (by decide) (by omega) (by omega) (fun h56 => ?_) (fun h56 => ?_)
            · skip
              refine r_aload X dX10_gap_65 rfl ?_
              refine r_iload_n X dX10_gap_67 rfl rfl ?_
              refine r_iload_n X dX10_gap_68 rfl rfl ?_
              refine q_callV X dX10_gap_69 mX10_169 cwX1_add (c_gAdd GE S I V J N _ _ _ _ aG hg1 (by omega)) rfl (by assumption) rfl rfl rfl (Nat.le_of_ble_eq_true rfl) ⟨Nat.le_of_ble_eq_true rfl, Nat.le_of_ble_eq_true rfl⟩ ⟨(by first | omega | decide | (simp only [rmL, rmA]; omega)), (by first | omega | decide | (simp only [rmL, rmA]; omega))⟩ ?_
              rintro _ _ ⟨rfl, rfl⟩
              refine r_aload_n X dX10_gap_72 rfl rfl ?_
              refine r_aload X dX10_gap_73 rfl ?_
              refine r_getI X dX10_gap_75 fX10_166 (by assumption) (up2_same _ _ _ _) ?_
              refine q_callV X dX10_gap_78 mX10_94 cwX10_grant (c_hGrant GE S _ V J N h _ hs0) rfl (by assumption) rfl rfl rfl (Nat.le_of_ble_eq_true rfl) ⟨Nat.le_of_ble_eq_true rfl, Nat.le_of_ble_eq_true rfl⟩ ⟨(by first | omega | decide | (simp only [rmL, rmA]; omega)), (by first | omega | decide | (simp only [rmL, rmA]; omega))⟩ ?_
              rintro _ _ ⟨rfl, rfl⟩
              refine r_ireturn X dX10_gap_81 rfl (by first | omega | decide | (simp only [rmL, rmA]; omega)) (by first | omega | decide | (simp only [rmL, rmA]; omega)) ?_
              have hyes : 0 ≤ y ∧ z ≤ 2000 ∧ y ≤ z := ⟨Int32.not_lt.mp h15, Int32.not_lt.mp h22, h27⟩
              exact ⟨by simp only [hGap, hx]; rw [if_pos hyes, if_pos (by omega)], by simp only [hGap, hx]; rw [if_pos hyes, if_pos (by omega)]⟩
            · skip
              refine r_aload_n X dX10_gap_59 rfl rfl ?_
              refine r_iconst (v := 3) X dX10_gap_60 (by decide) ?_
              refine q_callV X dX10_gap_61 mX10_73 cwX10_refuse (c_hRefuse GE S I V J N h _ hs0) rfl (by assumption) rfl rfl rfl (Nat.le_of_ble_eq_true rfl) ⟨Nat.le_of_ble_eq_true rfl, Nat.le_of_ble_eq_true rfl⟩ ⟨(by first | omega | decide | (simp only [rmL, rmA]; omega)), (by first | omega | decide | (simp only [rmL, rmA]; omega))⟩ ?_
              rintro _ _ ⟨rfl, rfl⟩
              refine r_ireturn X dX10_gap_64 rfl (by first | omega | decide | (simp only [rmL, rmA]; omega)) (by first | omega | decide | (simp only [rmL, rmA]; omega)) ?_
              have hyes : 0 ≤ y ∧ z ≤ 2000 ∧ y ≤ z := ⟨Int32.not_lt.mp h15, Int32.not_lt.mp h22, h27⟩
              exact ⟨by simp only [hGap, hx]; rw [if_pos hyes, if_neg (by omega)], by simp only [hGap, hx]; rw [if_pos hyes, if_neg (by omega)]⟩
          · skip
            refine r_aload_n X dX10_gap_30 rfl rfl ?_
            refine r_iconst (v := 2) X dX10_gap_31 (by decide) ?_
            refine q_callV X dX10_gap_32 mX10_73 cwX10_refuse (c_hRefuse GE S I V J N h _ hs0) rfl (by assumption) rfl rfl rfl (Nat.le_of_ble_eq_true rfl) ⟨Nat.le_of_ble_eq_true rfl, Nat.le_of_ble_eq_true rfl⟩ ⟨(by first | omega | decide | (simp only [rmL, rmA]; omega)), (by first | omega | decide | (simp only [rmL, rmA]; omega))⟩ ?_
            rintro _ _ ⟨rfl, rfl⟩
            refine r_ireturn X dX10_gap_35 rfl (by first | omega | decide | (simp only [rmL, rmA]; omega)) (by first | omega | decide | (simp only [rmL, rmA]; omega)) ?_
            have hno : ¬ (0 ≤ y ∧ z ≤ 2000 ∧ y ≤ z) := by
              rintro ⟨q1, q2, q3⟩
              first | exact absurd h15 (Int32.not_lt.mpr q1) | exact absurd h22 (Int32.not_lt.mpr q2) | exact absurd q3 h27
            exact ⟨by simp only [hGap, hx]; rw [if_neg hno], by simp only [hGap, hx]; rw [if_neg hno]⟩
    · skip
      exact (ix_t hx h5).elim
def hTeam (I : Mem) (h c n pc : Nat) (d l m s p : Int32) : Int32 × Mem :=
  if 0 < I (h + 9) 3 ∨ n = 0 then (-1, up2 I h 8 5)
  else if (ixI p pc).isSome = true then
    if inB d 4 16 = true ∧ inB l 20 300 = true ∧ inB m 0 60 = true ∧ inB s 0 100 = true then
      if c < 6 then (nI c, up2 (up2 (tBegin I (tm h c) d.toNatClampNeg l m s p) (h + 9) 2 (nI (c + 1))) h 8 0) else (-1, up2 I h 8 3)
    else (-1, up2 I h 8 2)
  else (-1, up2 I h 8 1)
theorem tBegin_a {I : Mem} {t m : Nat} {l ml s p : Int32} {b k : Nat} (h : b < t ∨ t + 9 < b) : tBegin I t m l ml s p b k = I b k := by
  unfold tBegin
  rw [up2_a (by omega), up2_a (by omega), up2_a (by omega), up2_a (by omega), up2_a (by omega), up2_a (by omega), up2_a (by omega), up2_a (by omega), up2_a (by omega), up2_a (by omega), up2_a (by omega)]
  unfold fillTo
  rw [if_neg (by omega), if_neg (by omega), up2_a (by omega)]
  unfold dBegin
  have : ∀ (I : Mem) j, dBeg I (t + 1) j b k = I b k := by
    intro I j
    induction j with
    | zero => rfl
    | succ j ih => rw [dBeg, up2_a (by omega), up2_a (by omega), up2_a (by omega)]; exact ih
  rw [this, up2_a (by omega), up2_a (by omega), up2_a (by omega)]
set_option maxHeartbeats 2000000 in
set_option maxRecDepth 20000 in
/-- SledHouse.team -/
theorem c_hTeam {E : Ev} (GE : Glob E) (S : Nat → Option (Nat × Nat)) (I : Nat → Nat → Int32) (V : Nat → Nat → Option Nat) (J : Nat → Nat → Int64) (N : Nat) (h c n pc : Nat) (d l m s p : Int32) (hH : HouseSh S V h) (hc : I (h + 9) 2 = nI c) (hc6 : c ≤ 6) (hn : I (h + 9 + 1) 4 = nI n) (hn12 : n ≤ 12) (hpc : I h 7 = nI pc) : Ct E yX10_team cX10_team 7 (some .int) (rmL 3) [.ref h, .int d, .int l, .int m, .int s, .int p] (S, I, V, J, N) (fun v w' => v = some (.int (hTeam I h c n pc d l m s p).1) ∧ w' = (S, (hTeam I h c n pc d l m s p).2, V, J, N)) := by
  refine Ct.start GE (by decide) rfl (Nat.le_of_ble_eq_true rfl) (fun M X => ?_)
  have X : Cx E M RX10 cX10_team 7 (rmL 3) (some .int) "team" := X
  refine r_loc (L' := [some (.ref h), some (.int d), some (.int l), some (.int m), some (.int s), some (.int p), none]) rfl ?_
  obtain ⟨hs0, hv0, hv1, hv2, hv3, hv4, hv5, hTp, hs3, hPl, hLw, hRc, hs76, hGh, hRow⟩ := id hH
  obtain ⟨rs0, rv0, rv1, rTr, rs6, rTe⟩ := id hRc
  have qs0 := rTr.1
  have ts0 := hTp.1
  have ls0 := hLw.1
  refine r_aload_n X dX10_team_0 rfl rfl ?_
  refine r_getR X dX10_team_1 fX10_32 (by assumption) (by assumption) ?_
  refine r_getI X dX10_team_4 fX10_70 (by assumption) (by first | assumption | rfl) ?_
  refine r_if_gt (tgt := 23) X dX10_team_7 (by decide) (fun h7 => ?_) (fun h7 => ?_)
  · skip
    refine r_aload_n X dX10_team_23 rfl rfl ?_
    refine r_iconst (v := 5) X dX10_team_24 (by decide) ?_
    refine q_callV X dX10_team_25 mX10_73 cwX10_refuse (c_hRefuse GE S I V J N h _ hs0) rfl (by assumption) rfl rfl rfl (Nat.le_of_ble_eq_true rfl) ⟨Nat.le_of_ble_eq_true rfl, Nat.le_of_ble_eq_true rfl⟩ ⟨(by first | omega | decide | (simp only [rmL, rmA]; omega)), (by first | omega | decide | (simp only [rmL, rmA]; omega))⟩ ?_
    rintro _ _ ⟨rfl, rfl⟩
    refine r_ireturn X dX10_team_28 rfl (by first | omega | decide | (simp only [rmL, rmA]; omega)) (by first | omega | decide | (simp only [rmL, rmA]; omega)) ?_
    have hyes : 0 < I (h + 9) 3 ∨ n = 0 := by first | exact Or.inl h7 | exact Or.inr ((nI_eq (by omega) (by decide)).mp h20)
    exact ⟨by rw [hTeam, if_pos hyes], by rw [hTeam, if_pos hyes]⟩
  · skip
    refine r_aload_n X dX10_team_10 rfl rfl ?_
    refine r_getR X dX10_team_11 fX10_32 (by assumption) (by assumption) ?_
    refine r_getR X dX10_team_14 fX10_81 (by assumption) (by assumption) ?_
    refine r_getI X dX10_team_17 fX10_85 (by assumption) (by first | assumption | rfl) ?_
    refine r_if_ne (tgt := 29) X dX10_team_20 (by decide) (fun h20 => ?_) (fun h20 => ?_)
    · skip
      refine r_aload_n X dX10_team_29 rfl rfl ?_
      refine r_iload X dX10_team_30 rfl ?_
      refine q_callV X dX10_team_32 mX10_139 cwX10_isPlan (c_hIsPlan GE S I V J N h pc p hH hpc) rfl (by assumption) rfl rfl rfl (Nat.le_of_ble_eq_true rfl) ⟨Nat.le_of_ble_eq_true rfl, Nat.le_of_ble_eq_true rfl⟩ ⟨(by first | omega | decide | (simp only [rmL, rmA]; omega)), (by first | omega | decide | (simp only [rmL, rmA]; omega))⟩ ?_
      rintro _ _ ⟨rfl, rfl⟩
      refine r_if_ne (tgt := 44) X dX10_team_35 (by decide) (fun h35 => ?_) (fun h35 => ?_)
      · skip
        refine r_iload_n X dX10_team_44 rfl rfl ?_
        refine r_iconst (v := 4) X dX10_team_45 (by decide) ?_
        refine r_bipush (v := 16) X dX10_team_46 (by decide) ?_
        refine q_callS X dX10_team_48 mX10_77 cwX10_within (c_hWithin GE _ _ _ _) rfl rfl (Nat.le_of_ble_eq_true rfl) ⟨Nat.le_of_ble_eq_true rfl, Nat.le_of_ble_eq_true rfl⟩ ⟨(by first | omega | decide | (simp only [rmL, rmA]; omega)), (by first | omega | decide | (simp only [rmL, rmA]; omega))⟩ ?_
        rintro _ _ ⟨rfl, rfl⟩
        refine r_if_eq (tgt := 87) X dX10_team_51 (by decide) (fun h51 => ?_) (fun h51 => ?_)
        · skip
          refine r_aload_n X dX10_team_87 rfl rfl ?_
          refine r_iconst (v := 2) X dX10_team_88 (by decide) ?_
          refine q_callV X dX10_team_89 mX10_73 cwX10_refuse (c_hRefuse GE S I V J N h _ hs0) rfl (by assumption) rfl rfl rfl (Nat.le_of_ble_eq_true rfl) ⟨Nat.le_of_ble_eq_true rfl, Nat.le_of_ble_eq_true rfl⟩ ⟨(by first | omega | decide | (simp only [rmL, rmA]; omega)), (by first | omega | decide | (simp only [rmL, rmA]; omega))⟩ ?_
          rintro _ _ ⟨rfl, rfl⟩
          refine r_ireturn X dX10_team_92 rfl (by first | omega | decide | (simp only [rmL, rmA]; omega)) (by first | omega | decide | (simp only [rmL, rmA]; omega)) ?_
          have hno : ¬ (0 < I (h + 9) 3 ∨ n = 0) := by rintro (q | q); (· exact h7 q); (· exact h20 (by rw [q]; rfl))
          have hn2 : ¬ (inB d 4 16 = true ∧ inB l 20 300 = true ∧ inB m 0 60 = true ∧ inB s 0 100 = true) := by
            rintro ⟨q1, q2, q3, q4⟩
            first | exact absurd ((bI_0 h51).symm.trans q1) (by decide) | exact absurd ((bI_0 h63).symm.trans q2) (by decide) | exact absurd ((bI_0 h73).symm.trans q3) (by decide) | exact absurd ((bI_0 h84).symm.trans q4) (by decide)
          exact ⟨by rw [hTeam, if_neg hno, bI_1 h35, if_pos rfl, if_neg hn2], by rw [hTeam, if_neg hno, bI_1 h35, if_pos rfl, if_neg hn2]⟩
        · skip
          refine r_iload_n X dX10_team_54 rfl rfl ?_
          refine r_bipush (v := 20) X dX10_team_55 (by decide) ?_
          refine r_sipush (v := 300) X dX10_team_57 (by decide) ?_
          refine q_callS X dX10_team_60 mX10_77 cwX10_within (c_hWithin GE _ _ _ _) rfl rfl (Nat.le_of_ble_eq_true rfl) ⟨Nat.le_of_ble_eq_true rfl, Nat.le_of_ble_eq_true rfl⟩ ⟨(by first | omega | decide | (simp only [rmL, rmA]; omega)), (by first | omega | decide | (simp only [rmL, rmA]; omega))⟩ ?_
          rintro _ _ ⟨rfl, rfl⟩
          refine r_if_eq (tgt := 87) X dX10_team_63 (by decide) (fun h63 => ?_) (fun h63 => ?_)
          · skip
            refine r_aload_n X dX10_team_87 rfl rfl ?_
            refine r_iconst (v := 2) X dX10_team_88 (by decide) ?_
            refine q_callV X dX10_team_89 mX10_73 cwX10_refuse (c_hRefuse GE S I V J N h _ hs0) rfl (by assumption) rfl rfl rfl (Nat.le_of_ble_eq_true rfl) ⟨Nat.le_of_ble_eq_true rfl, Nat.le_of_ble_eq_true rfl⟩ ⟨(by first | omega | decide | (simp only [rmL, rmA]; omega)), (by first | omega | decide | (simp only [rmL, rmA]; omega))⟩ ?_
            rintro _ _ ⟨rfl, rfl⟩
            refine r_ireturn X dX10_team_92 rfl (by first | omega | decide | (simp only [rmL, rmA]; omega)) (by first | omega | decide | (simp only [rmL, rmA]; omega)) ?_
            have hno : ¬ (0 < I (h + 9) 3 ∨ n = 0) := by rintro (q | q); (· exact h7 q); (· exact h20 (by rw [q]; rfl))
            have hn2 : ¬ (inB d 4 16 = true ∧ inB l 20 300 = true ∧ inB m 0 60 = true ∧ inB s 0 100 = true) := by
              rintro ⟨q1, q2, q3, q4⟩
              first | exact absurd ((bI_0 h51).symm.trans q1) (by decide) | exact absurd ((bI_0 h63).symm.trans q2) (by decide) | exact absurd ((bI_0 h73).symm.trans q3) (by decide) | exact absurd ((bI_0 h84).symm.trans q4) (by decide)
            exact ⟨by rw [hTeam, if_neg hno, bI_1 h35, if_pos rfl, if_neg hn2], by rw [hTeam, if_neg hno, bI_1 h35, if_pos rfl, if_neg hn2]⟩
          · skip
            refine r_iload_n X dX10_team_66 rfl rfl ?_
            refine r_iconst (v := 0) X dX10_team_67 (by decide) ?_
            refine r_bipush (v := 60) X dX10_team_68 (by decide) ?_
            refine q_callS X dX10_team_70 mX10_77 cwX10_within (c_hWithin GE _ _ _ _) rfl rfl (Nat.le_of_ble_eq_true rfl) ⟨Nat.le_of_ble_eq_true rfl, Nat.le_of_ble_eq_true rfl⟩ ⟨(by first | omega | decide | (simp only [rmL, rmA]; omega)), (by first | omega | decide | (simp only [rmL, rmA]; omega))⟩ ?_
            rintro _ _ ⟨rfl, rfl⟩
            refine r_if_eq (tgt := 87) X dX10_team_73 (by decide) (fun h73 => ?_) (fun h73 => ?_)
            · skip
              refine r_aload_n X dX10_team_87 rfl rfl ?_
              refine r_iconst (v := 2) X dX10_team_88 (by decide) ?_
              refine q_callV X dX10_team_89 mX10_73 cwX10_refuse (c_hRefuse GE S I V J N h _ hs0) rfl (by assumption) rfl rfl rfl (Nat.le_of_ble_eq_true rfl) ⟨Nat.le_of_ble_eq_true rfl, Nat.le_of_ble_eq_true rfl⟩ ⟨(by first | omega | decide | (simp only [rmL, rmA]; omega)), (by first | omega | decide | (simp only [rmL, rmA]; omega))⟩ ?_
              rintro _ _ ⟨rfl, rfl⟩
              refine r_ireturn X dX10_team_92 rfl (by first | omega | decide | (simp only [rmL, rmA]; omega)) (by first | omega | decide | (simp only [rmL, rmA]; omega)) ?_
              have hno : ¬ (0 < I (h + 9) 3 ∨ n = 0) := by rintro (q | q); (· exact h7 q); (· exact h20 (by rw [q]; rfl))
              have hn2 : ¬ (inB d 4 16 = true ∧ inB l 20 300 = true ∧ inB m 0 60 = true ∧ inB s 0 100 = true) := by
                rintro ⟨q1, q2, q3, q4⟩
                first | exact absurd ((bI_0 h51).symm.trans q1) (by decide) | exact absurd ((bI_0 h63).symm.trans q2) (by decide) | exact absurd ((bI_0 h73).symm.trans q3) (by decide) | exact absurd ((bI_0 h84).symm.trans q4) (by decide)
              exact ⟨by rw [hTeam, if_neg hno, bI_1 h35, if_pos rfl, if_neg hn2], by rw [hTeam, if_neg hno, bI_1 h35, if_pos rfl, if_neg hn2]⟩
            · skip
              refine r_iload X dX10_team_76 rfl ?_
              refine r_iconst (v := 0) X dX10_team_78 (by decide) ?_
              refine r_bipush (v := 100) X dX10_team_79 (by decide) ?_
              refine q_callS X dX10_team_81 mX10_77 cwX10_within (c_hWithin GE _ _ _ _) rfl rfl (Nat.le_of_ble_eq_true rfl) ⟨Nat.le_of_ble_eq_true rfl, Nat.le_of_ble_eq_true rfl⟩ ⟨(by first | omega | decide | (simp only [rmL, rmA]; omega)), (by first | omega | decide | (simp only [rmL, rmA]; omega))⟩ ?_
              rintro _ _ ⟨rfl, rfl⟩
              refine r_if_ne (tgt := 93) X dX10_team_84 (by decide) (fun h84 => ?_) (fun h84 => ?_)
              · skip
                refine r_aload_n X dX10_team_93 rfl rfl ?_
                refine r_getR X dX10_team_94 fX10_32 (by assumption) (by assumption) ?_
                refine r_getI X dX10_team_97 fX10_142 (by assumption) (by first | assumption | rfl) ?_
                refine r_bipush (v := nI 6) X dX10_team_100 (by decide) ?_
                refine r_icmpN_lt (tgt := 111) X dX10_team_102 (by decide) (by omega) (by omega) (fun h102 => ?_) (fun h102 => ?_)
                · skip
                  refine r_aload_n X dX10_team_111 rfl rfl ?_
                  refine r_getR X dX10_team_112 fX10_32 (by assumption) (by assumption) ?_
                  refine r_getI X dX10_team_115 fX10_142 (by assumption) (by first | assumption | rfl) ?_
                  refine r_istore X dX10_team_118 (by decide) rfl ?_
                  have te1 := (rTe c (by omega)).1
                  have te2 := (rTe c (by omega)).2
                  have hd0 : ¬ d < 0 := fun z => by
                    have := bI_1 h51
                    simp only [Bool.and_eq_true, decide_eq_true_eq] at this
                    exact absurd z (Int32.not_lt.mpr (Int32.le_trans (by decide) this.1))
                  obtain ⟨dd, hdd, rfl⟩ := nI_of hd0
                  have hd16 : dd ≤ 16 := by
                    have := bI_1 h51
                    simp only [Bool.and_eq_true, decide_eq_true_eq] at this
                    exact (nI_leI hdd (by decide)).mp this.2
                  refine r_aload_n X dX10_team_120 rfl rfl ?_
                  refine r_getR X dX10_team_121 fX10_32 (by assumption) (by assumption) ?_
                  refine r_getR X dX10_team_124 fX10_145 (by assumption) (by assumption) ?_
                  refine r_iload X dX10_team_127 rfl ?_
                  refine r_aaldN X dX10_team_129 (by assumption) (by decide) rfl (by omega) (by omega) (by assumption) ?_
                  refine r_iload_n X dX10_team_130 rfl rfl ?_
                  refine r_iload_n X dX10_team_131 rfl rfl ?_
                  refine r_iload_n X dX10_team_132 rfl rfl ?_
                  refine r_iload X dX10_team_133 rfl ?_
                  refine r_iload X dX10_team_135 rfl ?_
                  refine q_callV X dX10_team_137 mX10_149 cwX8_begin (c_tBegin GE S I V J N _ dd _ _ _ _ te2 hd16) rfl (te2.1) rfl rfl rfl (Nat.le_of_ble_eq_true rfl) ⟨Nat.le_of_ble_eq_true rfl, Nat.le_of_ble_eq_true rfl⟩ ⟨(by first | omega | decide | (simp only [rmL, rmA]; omega)), (by first | omega | decide | (simp only [rmL, rmA]; omega))⟩ ?_
                  rintro _ _ ⟨rfl, rfl⟩
                  refine r_aload_n X dX10_team_140 rfl rfl ?_
                  refine r_getR X dX10_team_141 fX10_32 (by assumption) (by assumption) ?_
                  refine r_dup X dX10_team_144 rfl ?_
                  refine r_getI X dX10_team_145 fX10_142 (by assumption) ((tBegin_a (by omega)).trans hc) ?_
                  refine r_iconst (v := 1) X dX10_team_148 (by decide) ?_
                  refine r_iadd X dX10_team_149 ?_
                  refine r_topi (nI (c + 1)) (nI_1 c) ?_
                  refine r_putI X dX10_team_150 fX10_142 wX10_142 (by assumption) rfl rfl ?_
                  refine r_aload_n X dX10_team_153 rfl rfl ?_
                  refine r_iload X dX10_team_154 rfl ?_
                  refine q_callV X dX10_team_156 mX10_94 cwX10_grant (c_hGrant GE S _ V J N h _ hs0) rfl (by assumption) rfl rfl rfl (Nat.le_of_ble_eq_true rfl) ⟨Nat.le_of_ble_eq_true rfl, Nat.le_of_ble_eq_true rfl⟩ ⟨(by first | omega | decide | (simp only [rmL, rmA]; omega)), (by first | omega | decide | (simp only [rmL, rmA]; omega))⟩ ?_
                  rintro _ _ ⟨rfl, rfl⟩
                  refine r_ireturn X dX10_team_159 rfl (by first | omega | decide | (simp only [rmL, rmA]; omega)) (by first | omega | decide | (simp only [rmL, rmA]; omega)) ?_
                  have hno : ¬ (0 < I (h + 9) 3 ∨ n = 0) := by rintro (q | q); (· exact h7 q); (· exact h20 (by rw [q]; rfl))
                  have hn2 : inB (nI dd) 4 16 = true ∧ inB l 20 300 = true ∧ inB m 0 60 = true ∧ inB s 0 100 = true := ⟨bI_1 h51, bI_1 h63, bI_1 h73, bI_1 h84⟩
                  exact ⟨by rw [hTeam, if_neg hno, bI_1 h35, if_pos rfl, if_pos hn2, if_pos (by omega)], by rw [hTeam, if_neg hno, bI_1 h35, if_pos rfl, if_pos hn2, if_pos (by omega), nI_clamp hdd]⟩
                · skip
                  refine r_aload_n X dX10_team_105 rfl rfl ?_
                  refine r_iconst (v := 3) X dX10_team_106 (by decide) ?_
                  refine q_callV X dX10_team_107 mX10_73 cwX10_refuse (c_hRefuse GE S I V J N h _ hs0) rfl (by assumption) rfl rfl rfl (Nat.le_of_ble_eq_true rfl) ⟨Nat.le_of_ble_eq_true rfl, Nat.le_of_ble_eq_true rfl⟩ ⟨(by first | omega | decide | (simp only [rmL, rmA]; omega)), (by first | omega | decide | (simp only [rmL, rmA]; omega))⟩ ?_
                  rintro _ _ ⟨rfl, rfl⟩
                  refine r_ireturn X dX10_team_110 rfl (by first | omega | decide | (simp only [rmL, rmA]; omega)) (by first | omega | decide | (simp only [rmL, rmA]; omega)) ?_
                  have hno : ¬ (0 < I (h + 9) 3 ∨ n = 0) := by rintro (q | q); (· exact h7 q); (· exact h20 (by rw [q]; rfl))
                  have hn2 : inB d 4 16 = true ∧ inB l 20 300 = true ∧ inB m 0 60 = true ∧ inB s 0 100 = true := ⟨bI_1 h51, bI_1 h63, bI_1 h73, bI_1 h84⟩
                  exact ⟨by rw [hTeam, if_neg hno, bI_1 h35, if_pos rfl, if_pos hn2, if_neg (by omega)], by rw [hTeam, if_neg hno, bI_1 h35, if_pos rfl, if_pos hn2, if_neg (by omega)]⟩
              · skip
                refine r_aload_n X dX10_team_87 rfl rfl ?_
                refine r_iconst (v := 2) X dX10_team_88 (by decide) ?_
                refine q_callV X dX10_team_89 mX10_73 cwX10_refuse (c_hRefuse GE S I V J N h _ hs0) rfl (by assumption) rfl rfl rfl (Nat.le_of_ble_eq_true rfl) ⟨Nat.le_of_ble_eq_true rfl, Nat.le_of_ble_eq_true rfl⟩ ⟨(by first | omega | decide | (simp only [rmL, rmA]; omega)), (by first | omega | decide | (simp only [rmL, rmA]; omega))⟩ ?_
                rintro _ _ ⟨rfl, rfl⟩
                refine r_ireturn X dX10_team_92 rfl (by first | omega | decide | (simp only [rmL, rmA]; omega)) (by first | omega | decide | (simp only [rmL, rmA]; omega)) ?_
                have hno : ¬ (0 < I (h + 9) 3 ∨ n = 0) := by rintro (q | q); (· exact h7 q); (· exact h20 (by rw [q]; rfl))
                have hn2 : ¬ (inB d 4 16 = true ∧ inB l 20 300 = true ∧ inB m 0 60 = true ∧ inB s 0 100 = true) := by
                  rintro ⟨q1, q2, q3, q4⟩
                  first | exact absurd ((bI_0 h51).symm.trans q1) (by decide) | exact absurd ((bI_0 h63).symm.trans q2) (by decide) | exact absurd ((bI_0 h73).symm.trans q3) (by decide) | exact absurd ((bI_0 h84).symm.trans q4) (by decide)
                exact ⟨by rw [hTeam, if_neg hno, bI_1 h35, if_pos rfl, if_neg hn2], by rw [hTeam, if_neg hno, bI_1 h35, if_pos rfl, if_neg hn2]⟩
      · skip
        refine r_aload_n X dX10_team_38 rfl rfl ?_
        refine r_iconst (v := 1) X dX10_team_39 (by decide) ?_
        refine q_callV X dX10_team_40 mX10_73 cwX10_refuse (c_hRefuse GE S I V J N h _ hs0) rfl (by assumption) rfl rfl rfl (Nat.le_of_ble_eq_true rfl) ⟨Nat.le_of_ble_eq_true rfl, Nat.le_of_ble_eq_true rfl⟩ ⟨(by first | omega | decide | (simp only [rmL, rmA]; omega)), (by first | omega | decide | (simp only [rmL, rmA]; omega))⟩ ?_
        rintro _ _ ⟨rfl, rfl⟩
        refine r_ireturn X dX10_team_43 rfl (by first | omega | decide | (simp only [rmL, rmA]; omega)) (by first | omega | decide | (simp only [rmL, rmA]; omega)) ?_
        have hno : ¬ (0 < I (h + 9) 3 ∨ n = 0) := by rintro (q | q); (· exact h7 q); (· exact h20 (by rw [q]; rfl))
        exact ⟨by rw [hTeam, if_neg hno, bI_0 h35, if_neg (by decide)], by rw [hTeam, if_neg hno, bI_0 h35, if_neg (by decide)]⟩
    · skip
      refine r_aload_n X dX10_team_23 rfl rfl ?_
      refine r_iconst (v := 5) X dX10_team_24 (by decide) ?_
      refine q_callV X dX10_team_25 mX10_73 cwX10_refuse (c_hRefuse GE S I V J N h _ hs0) rfl (by assumption) rfl rfl rfl (Nat.le_of_ble_eq_true rfl) ⟨Nat.le_of_ble_eq_true rfl, Nat.le_of_ble_eq_true rfl⟩ ⟨(by first | omega | decide | (simp only [rmL, rmA]; omega)), (by first | omega | decide | (simp only [rmL, rmA]; omega))⟩ ?_
      rintro _ _ ⟨rfl, rfl⟩
      refine r_ireturn X dX10_team_28 rfl (by first | omega | decide | (simp only [rmL, rmA]; omega)) (by first | omega | decide | (simp only [rmL, rmA]; omega)) ?_
      have hyes : 0 < I (h + 9) 3 ∨ n = 0 := by first | exact Or.inl h7 | exact Or.inr ((nI_eq (by omega) (by decide)).mp h20)
      exact ⟨by rw [hTeam, if_pos hyes], by rw [hTeam, if_pos hyes]⟩
