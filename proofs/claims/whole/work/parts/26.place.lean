/-! ===== SledHouse: place, spot, signs ===== -/
def tGrp (I : Mem) (t : Nat) : Int32 := if I t 8 = 0 then 2 else if I t 8 = 1 then 1 else if I t 8 = 2 then 0 else 3
set_option maxHeartbeats 2000000 in
set_option maxRecDepth 20000 in
/-- SledHouse.groupOf -/
theorem c_hGrp {E : Ev} (GE : Glob E) (S : Nat → Option (Nat × Nat)) (I : Nat → Nat → Int32) (V : Nat → Nat → Option Nat) (J : Nat → Nat → Int64) (N : Nat) (h i : Nat) (hH : HouseSh S V h) (hi : i < 6) : Ct E yX10_groupOf cX10_groupOf 2 (some .int) (rmL 0) [.ref h, .int (nI i)] (S, I, V, J, N) (fun v w' => v = some (.int (tGrp I (tm h i))) ∧ w' = (S, I, V, J, N)) := by
  refine Ct.start GE (by decide) rfl (Nat.le_of_ble_eq_true rfl) (fun M X => ?_)
  have X : Cx E M RX10 cX10_groupOf 2 (rmL 0) (some .int) "groupOf" := X
  refine r_loc (L' := [some (.ref h), some (.int (nI i))]) rfl ?_
  obtain ⟨hs0, hv0, hv1, hv2, hv3, hv4, hv5, hTp, hs3, hPl, hLw, hRc, hs76, hGh, hRow⟩ := id hH
  obtain ⟨rs0, rv0, rv1, rTr, rs6, rTe⟩ := id hRc
  have qs0 := rTr.1
  have ts0 := hTp.1
  have ls0 := hLw.1
  have te1 := (rTe i (by omega)).1
  have te2 := (rTe i (by omega)).2
  obtain ⟨as0, av0, av1, av2, av3, aD, aG, as8, as9⟩ := id te2
  refine r_aload_n X dX10_groupOf_0 rfl rfl ?_
  refine r_getR X dX10_groupOf_1 fX10_32 (by assumption) (by assumption) ?_
  refine r_getR X dX10_groupOf_4 fX10_145 (by assumption) (by assumption) ?_
  refine r_iload_n X dX10_groupOf_7 rfl rfl ?_
  refine r_aaldN X dX10_groupOf_8 (by assumption) (by decide) rfl (by omega) (by omega) te1 ?_
  refine r_getI X dX10_groupOf_9 fX10_179 (by assumption) (by first | assumption | rfl) ?_
  refine r_sw (0) (fun h12_0 => ?_) (fun h12_0 => ?_)
  · skip
    refine r_tableIn (off := 32) (tgt := 44) X dX10_groupOf_12 (by rw [h12_0]; decide) (by rw [h12_0]; decide) (by rw [h12_0]; rfl) (by decide) ?_
    refine r_iconst (v := 2) X dX10_groupOf_44 (by decide) ?_
    refine r_ireturn X dX10_groupOf_45 rfl (by first | omega | decide | (simp only [rmL, rmA]; omega)) (by first | omega | decide | (simp only [rmL, rmA]; omega)) ?_
    exact ⟨by simp [tGrp, *], rfl⟩
  · skip
    refine r_sw (1) (fun h12_1 => ?_) (fun h12_1 => ?_)
    · skip
      refine r_tableIn (off := 30) (tgt := 42) X dX10_groupOf_12 (by rw [h12_1]; decide) (by rw [h12_1]; decide) (by rw [h12_1]; rfl) (by decide) ?_
      refine r_iconst (v := 1) X dX10_groupOf_42 (by decide) ?_
      refine r_ireturn X dX10_groupOf_43 rfl (by first | omega | decide | (simp only [rmL, rmA]; omega)) (by first | omega | decide | (simp only [rmL, rmA]; omega)) ?_
      exact ⟨by simp [tGrp, *], rfl⟩
    · skip
      refine r_sw (2) (fun h12_2 => ?_) (fun h12_2 => ?_)
      · skip
        refine r_tableIn (off := 28) (tgt := 40) X dX10_groupOf_12 (by rw [h12_2]; decide) (by rw [h12_2]; decide) (by rw [h12_2]; rfl) (by decide) ?_
        refine r_iconst (v := 0) X dX10_groupOf_40 (by decide) ?_
        refine r_ireturn X dX10_groupOf_41 rfl (by first | omega | decide | (simp only [rmL, rmA]; omega)) (by first | omega | decide | (simp only [rmL, rmA]; omega)) ?_
        exact ⟨by simp [tGrp, *], rfl⟩
      · skip
        refine r_tableOut (tgt := 46) X dX10_groupOf_12 (by have e0 := lv_neT (a := 0) h12_0 (by decide); have e1 := lv_neT (a := 1) h12_1 (by decide); have e2 := lv_neT (a := 2) h12_2 (by decide); omega) (by decide) ?_
        refine r_iconst (v := 3) X dX10_groupOf_46 (by decide) ?_
        refine r_ireturn X dX10_groupOf_47 rfl (by first | omega | decide | (simp only [rmL, rmA]; omega)) (by first | omega | decide | (simp only [rmL, rmA]; omega)) ?_
        exact ⟨by simp [tGrp, *], rfl⟩
def tVal (I : Mem) (h n k i : Nat) : Int32 := if I (tm h i) 8 = 1 then -tWay I (h + 9 + 1) (tm h i) (tL I (tm h i)) else if I (tm h i) 8 = 2 then lRes I (h + 4) (tm h i) n k else 0
set_option maxHeartbeats 2000000 in
set_option maxRecDepth 20000 in
/-- SledHouse.valueInGroup -/
theorem c_hVal {E : Ev} (GE : Glob E) (S : Nat → Option (Nat × Nat)) (I : Nat → Nat → Int32) (V : Nat → Nat → Option Nat) (J : Nat → Nat → Int64) (N : Nat) (h n k i : Nat) (hH : HouseSh S V h) (hi : i < 6) (hn : I (h + 9 + 1) 4 = nI n) (hn12 : n ≤ 12) (hO : LawOK I (h + 4) k) (hl : I (tm h i) 10 = nI (tL I (tm h i)) ∧ tL I (tm h i) ≤ 12) : Ct E yX10_valueInGroup cX10_valueInGroup 3 (some .int) (rmL 4) [.ref h, .int (nI i)] (S, I, V, J, N) (fun v w' => v = some (.int (tVal I h n k i)) ∧ w' = (S, I, V, J, N)) := by
  refine Ct.start GE (by decide) rfl (Nat.le_of_ble_eq_true rfl) (fun M X => ?_)
  have X : Cx E M RX10 cX10_valueInGroup 3 (rmL 4) (some .int) "valueInGroup" := X
  refine r_loc (L' := [some (.ref h), some (.int (nI i)), none]) rfl ?_
  obtain ⟨hs0, hv0, hv1, hv2, hv3, hv4, hv5, hTp, hs3, hPl, hLw, hRc, hs76, hGh, hRow⟩ := id hH
  obtain ⟨rs0, rv0, rv1, rTr, rs6, rTe⟩ := id hRc
  have qs0 := rTr.1
  have ts0 := hTp.1
  have ls0 := hLw.1
  have te1 := (rTe i (by omega)).1
  have te2 := (rTe i (by omega)).2
  obtain ⟨as0, av0, av1, av2, av3, aD, aG, as8, as9⟩ := id te2
  refine r_aload_n X dX10_valueInGroup_0 rfl rfl ?_
  refine r_getR X dX10_valueInGroup_1 fX10_32 (by assumption) (by assumption) ?_
  refine r_getR X dX10_valueInGroup_4 fX10_145 (by assumption) (by assumption) ?_
  refine r_iload_n X dX10_valueInGroup_7 rfl rfl ?_
  refine r_aaldN X dX10_valueInGroup_8 (by assumption) (by decide) rfl (by omega) (by omega) te1 ?_
  refine r_astore_n X dX10_valueInGroup_9 rfl (by decide) rfl ?_
  refine r_aload_n X dX10_valueInGroup_10 rfl rfl ?_
  refine r_getI X dX10_valueInGroup_11 fX10_179 (by assumption) (by first | assumption | rfl) ?_
  refine r_sw (1) (fun h14_1 => ?_) (fun h14_1 => ?_)
  · skip
    refine r_lookup (off := 45) (tgt := 59) X dX10_valueInGroup_14 (by decide) (by rw [h14_1]; decide) (by decide) ?_
    refine r_aload_n X dX10_valueInGroup_59 rfl rfl ?_
    refine r_aload_n X dX10_valueInGroup_60 rfl rfl ?_
    refine r_getR X dX10_valueInGroup_61 fX10_32 (by assumption) (by assumption) ?_
    refine r_getR X dX10_valueInGroup_64 fX10_81 (by assumption) (by assumption) ?_
    refine q_callV X dX10_valueInGroup_67 mX10_188 cwX8_way (c_tWay GE S I V J N _ (h + 9 + 1) _ te2 rTr hl.1 hl.2) rfl (by assumption) rfl rfl rfl (Nat.le_of_ble_eq_true rfl) ⟨Nat.le_of_ble_eq_true rfl, Nat.le_of_ble_eq_true rfl⟩ ⟨(by first | omega | decide | (simp only [rmL, rmA]; omega)), (by first | omega | decide | (simp only [rmL, rmA]; omega))⟩ ?_
    rintro _ _ ⟨rfl, rfl⟩
    refine r_ineg X dX10_valueInGroup_70 ?_
    refine r_ireturn X dX10_valueInGroup_71 rfl (by first | omega | decide | (simp only [rmL, rmA]; omega)) (by first | omega | decide | (simp only [rmL, rmA]; omega)) ?_
    exact ⟨by simp [tVal, *], rfl⟩
  · skip
    refine r_sw (2) (fun h14_2 => ?_) (fun h14_2 => ?_)
    · skip
      refine r_lookup (off := 26) (tgt := 40) X dX10_valueInGroup_14 (by decide) (by rw [h14_2]; decide) (by decide) ?_
      refine r_aload_n X dX10_valueInGroup_40 rfl rfl ?_
      refine r_getR X dX10_valueInGroup_41 fX10_25 (by assumption) (by assumption) ?_
      refine r_aload_n X dX10_valueInGroup_44 rfl rfl ?_
      refine r_aload_n X dX10_valueInGroup_45 rfl rfl ?_
      refine r_getR X dX10_valueInGroup_46 fX10_32 (by assumption) (by assumption) ?_
      refine r_getR X dX10_valueInGroup_49 fX10_81 (by assumption) (by assumption) ?_
      refine r_getI X dX10_valueInGroup_52 fX10_85 (by assumption) (by first | assumption | rfl) ?_
      refine q_callV X dX10_valueInGroup_55 mX10_245 cwX2_resultOf (c_lRes GE S I V J N (h + 4) _ n k hLw te2 hO hn12) rfl (by assumption) rfl rfl rfl (Nat.le_of_ble_eq_true rfl) ⟨Nat.le_of_ble_eq_true rfl, Nat.le_of_ble_eq_true rfl⟩ ⟨(by first | omega | decide | (simp only [rmL, rmA]; omega)), (by first | omega | decide | (simp only [rmL, rmA]; omega))⟩ ?_
      rintro _ _ ⟨rfl, rfl⟩
      refine r_ireturn X dX10_valueInGroup_58 rfl (by first | omega | decide | (simp only [rmL, rmA]; omega)) (by first | omega | decide | (simp only [rmL, rmA]; omega)) ?_
      exact ⟨by simp [tVal, *], rfl⟩
    · skip
      refine r_lookup (off := 58) (tgt := 72) X dX10_valueInGroup_14 (by decide) (by simp only []; rw [lv_osw (k := 1) h14_1 (by decide), lv_osw (k := 2) h14_2 (by decide)]; rfl) (by decide) ?_
      refine r_iconst (v := 0) X dX10_valueInGroup_72 (by decide) ?_
      refine r_ireturn X dX10_valueInGroup_73 rfl (by first | omega | decide | (simp only [rmL, rmA]; omega)) (by first | omega | decide | (simp only [rmL, rmA]; omega)) ?_
      exact ⟨by simp [tVal, *], rfl⟩
def hAhead (I : Mem) (h n k i j : Nat) : Bool :=
  if iCmp (tGrp I (tm h i)) (tGrp I (tm h j)) = 0 then
    if iCmp (tVal I h n k i) (tVal I h n k j) = 0 then decide (i < j) else decide (iCmp (tVal I h n k i) (tVal I h n k j) < 0)
  else decide (iCmp (tGrp I (tm h i)) (tGrp I (tm h j)) < 0)
set_option maxHeartbeats 2000000 in
set_option maxRecDepth 20000 in
/-- SledHouse.isAhead -/
theorem c_hAhead {E : Ev} (GE : Glob E) (S : Nat → Option (Nat × Nat)) (I : Nat → Nat → Int32) (V : Nat → Nat → Option Nat) (J : Nat → Nat → Int64) (N : Nat) (h n k i j : Nat) (hH : HouseSh S V h) (hi : i < 6) (hj : j < 6) (hn : I (h + 9 + 1) 4 = nI n) (hn12 : n ≤ 12) (hO : LawOK I (h + 4) k) (hli : I (tm h i) 10 = nI (tL I (tm h i)) ∧ tL I (tm h i) ≤ 12) (hlj : I (tm h j) 10 = nI (tL I (tm h j)) ∧ tL I (tm h j) ≤ 12) : Ct E yX10_isAhead cX10_isAhead 5 (some .boolean) (rmL 5) [.ref h, .int (nI i), .int (nI j)] (S, I, V, J, N) (fun v w' => v = some (.int (bI (hAhead I h n k i j))) ∧ w' = (S, I, V, J, N)) := by
  refine Ct.start GE (by decide) rfl (Nat.le_of_ble_eq_true rfl) (fun M X => ?_)
  have X : Cx E M RX10 cX10_isAhead 5 (rmL 5) (some .boolean) "isAhead" := X
  refine r_loc (L' := [some (.ref h), some (.int (nI i)), some (.int (nI j)), none, none]) rfl ?_
  obtain ⟨hs0, hv0, hv1, hv2, hv3, hv4, hv5, hTp, hs3, hPl, hLw, hRc, hs76, hGh, hRow⟩ := id hH
  obtain ⟨rs0, rv0, rv1, rTr, rs6, rTe⟩ := id hRc
  have qs0 := rTr.1
  have ts0 := hTp.1
  have ls0 := hLw.1
  refine r_aload_n X dX10_isAhead_0 rfl rfl ?_
  refine r_iload_n X dX10_isAhead_1 rfl rfl ?_
  refine q_callV X dX10_isAhead_2 mX10_296 cwX10_groupOf (c_hGrp GE S I V J N h i hH hi) rfl (by assumption) rfl rfl rfl (Nat.le_of_ble_eq_true rfl) ⟨Nat.le_of_ble_eq_true rfl, Nat.le_of_ble_eq_true rfl⟩ ⟨(by first | omega | decide | (simp only [rmL, rmA]; omega)), (by first | omega | decide | (simp only [rmL, rmA]; omega))⟩ ?_
  rintro _ _ ⟨rfl, rfl⟩
  refine r_aload_n X dX10_isAhead_5 rfl rfl ?_
  refine r_iload_n X dX10_isAhead_6 rfl rfl ?_
  refine q_callV X dX10_isAhead_7 mX10_296 cwX10_groupOf (c_hGrp GE S I V J N h j hH hj) rfl (by assumption) rfl rfl rfl (Nat.le_of_ble_eq_true rfl) ⟨Nat.le_of_ble_eq_true rfl, Nat.le_of_ble_eq_true rfl⟩ ⟨(by first | omega | decide | (simp only [rmL, rmA]; omega)), (by first | omega | decide | (simp only [rmL, rmA]; omega))⟩ ?_
  rintro _ _ ⟨rfl, rfl⟩
  refine q_callS X dX10_isAhead_10 mX10_299 cwJ6_compare_7cf53 (c_cmp GE _ _ _) rfl rfl (Nat.le_of_ble_eq_true rfl) ⟨Nat.le_of_ble_eq_true rfl, Nat.le_of_ble_eq_true rfl⟩ ⟨(by first | omega | decide | (simp only [rmL, rmA]; omega)), (by first | omega | decide | (simp only [rmL, rmA]; omega))⟩ ?_
  rintro _ _ ⟨rfl, rfl⟩
  refine r_istore_n X dX10_isAhead_13 rfl (by decide) rfl ?_
  refine r_iload_n X dX10_isAhead_14 rfl rfl ?_
  refine r_if_eq (tgt := 28) X dX10_isAhead_15 (by decide) (fun h15 => ?_) (fun h15 => ?_)
  · skip
    refine r_aload_n X dX10_isAhead_28 rfl rfl ?_
    refine r_iload_n X dX10_isAhead_29 rfl rfl ?_
    refine q_callV X dX10_isAhead_30 mX10_304 cwX10_valueInGroup (c_hVal GE S I V J N h n k i hH hi hn hn12 hO hli) rfl (by assumption) rfl rfl rfl (Nat.le_of_ble_eq_true rfl) ⟨Nat.le_of_ble_eq_true rfl, Nat.le_of_ble_eq_true rfl⟩ ⟨(by first | omega | decide | (simp only [rmL, rmA]; omega)), (by first | omega | decide | (simp only [rmL, rmA]; omega))⟩ ?_
    rintro _ _ ⟨rfl, rfl⟩
    refine r_aload_n X dX10_isAhead_33 rfl rfl ?_
    refine r_iload_n X dX10_isAhead_34 rfl rfl ?_
    refine q_callV X dX10_isAhead_35 mX10_304 cwX10_valueInGroup (c_hVal GE S I V J N h n k j hH hj hn hn12 hO hlj) rfl (by assumption) rfl rfl rfl (Nat.le_of_ble_eq_true rfl) ⟨Nat.le_of_ble_eq_true rfl, Nat.le_of_ble_eq_true rfl⟩ ⟨(by first | omega | decide | (simp only [rmL, rmA]; omega)), (by first | omega | decide | (simp only [rmL, rmA]; omega))⟩ ?_
    rintro _ _ ⟨rfl, rfl⟩
    refine q_callS X dX10_isAhead_38 mX10_299 cwJ6_compare_7cf53 (c_cmp GE _ _ _) rfl rfl (Nat.le_of_ble_eq_true rfl) ⟨Nat.le_of_ble_eq_true rfl, Nat.le_of_ble_eq_true rfl⟩ ⟨(by first | omega | decide | (simp only [rmL, rmA]; omega)), (by first | omega | decide | (simp only [rmL, rmA]; omega))⟩ ?_
    rintro _ _ ⟨rfl, rfl⟩
    refine r_istore X dX10_isAhead_41 (by decide) rfl ?_
    refine r_iload X dX10_isAhead_43 rfl ?_
    refine r_if_eq (tgt := 61) X dX10_isAhead_45 (by decide) (fun h45 => ?_) (fun h45 => ?_)
    · skip
      refine r_iload_n X dX10_isAhead_61 rfl rfl ?_
      refine r_iload_n X dX10_isAhead_62 rfl rfl ?_
      refine r_icmpN_ge (tgt := 70) X dX10_isAhead_63 (by decide) (by omega) (by omega) (fun h63 => ?_) (fun h63 => ?_)
      · skip
        refine r_iconst (v := 0) X dX10_isAhead_70 (by decide) ?_
        refine r_ireturn X dX10_isAhead_71 rfl (by first | omega | decide | (simp only [rmL, rmA]; omega)) (by first | omega | decide | (simp only [rmL, rmA]; omega)) ?_
        refine ⟨?_, rfl⟩
        first
          | (rw [hAhead, if_pos h15, if_pos h45, decide_eq_true (by omega)]; rfl; done)
          | (rw [hAhead, if_pos h15, if_pos h45, decide_eq_false (by omega)]; rfl; done)
          | (rw [hAhead, if_pos h15, if_neg h45, decide_eq_true (Int32.not_le.mp h50)]; rfl; done)
          | (rw [hAhead, if_pos h15, if_neg h45, decide_eq_false (Int32.not_lt.mpr h50)]; rfl; done)
      · skip
        refine r_iconst (v := 1) X dX10_isAhead_66 (by decide) ?_
        refine r_goto (tgt := 71) X dX10_isAhead_67 (by decide) ?_
        refine r_ireturn X dX10_isAhead_71 rfl (by first | omega | decide | (simp only [rmL, rmA]; omega)) (by first | omega | decide | (simp only [rmL, rmA]; omega)) ?_
        refine ⟨?_, rfl⟩
        first
          | (rw [hAhead, if_pos h15, if_pos h45, decide_eq_true (by omega)]; rfl; done)
          | (rw [hAhead, if_pos h15, if_pos h45, decide_eq_false (by omega)]; rfl; done)
          | (rw [hAhead, if_pos h15, if_neg h45, decide_eq_true (Int32.not_le.mp h50)]; rfl; done)
          | (rw [hAhead, if_pos h15, if_neg h45, decide_eq_false (Int32.not_lt.mpr h50)]; rfl; done)
    · skip
      refine r_iload X dX10_isAhead_48 rfl ?_
      refine r_if_ge (tgt := 57) X dX10_isAhead_50 (by decide) (fun h50 => ?_) (fun h50 => ?_)
      · skip
        refine r_iconst (v := 0) X dX10_isAhead_57 (by decide) ?_
        refine r_goto (tgt := 71) X dX10_isAhead_58 (by decide) ?_
        refine r_ireturn X dX10_isAhead_71 rfl (by first | omega | decide | (simp only [rmL, rmA]; omega)) (by first | omega | decide | (simp only [rmL, rmA]; omega)) ?_
        refine ⟨?_, rfl⟩
        first
          | (rw [hAhead, if_pos h15, if_pos h45, decide_eq_true (by omega)]; rfl; done)
          | (rw [hAhead, if_pos h15, if_pos h45, decide_eq_false (by omega)]; rfl; done)
          | (rw [hAhead, if_pos h15, if_neg h45, decide_eq_true (Int32.not_le.mp h50)]; rfl; done)
          | (rw [hAhead, if_pos h15, if_neg h45, decide_eq_false (Int32.not_lt.mpr h50)]; rfl; done)
      · skip
        refine r_iconst (v := 1) X dX10_isAhead_53 (by decide) ?_
        refine r_goto (tgt := 71) X dX10_isAhead_54 (by decide) ?_
        refine r_ireturn X dX10_isAhead_71 rfl (by first | omega | decide | (simp only [rmL, rmA]; omega)) (by first | omega | decide | (simp only [rmL, rmA]; omega)) ?_
        refine ⟨?_, rfl⟩
        first
          | (rw [hAhead, if_pos h15, if_pos h45, decide_eq_true (by omega)]; rfl; done)
          | (rw [hAhead, if_pos h15, if_pos h45, decide_eq_false (by omega)]; rfl; done)
          | (rw [hAhead, if_pos h15, if_neg h45, decide_eq_true (Int32.not_le.mp h50)]; rfl; done)
          | (rw [hAhead, if_pos h15, if_neg h45, decide_eq_false (Int32.not_lt.mpr h50)]; rfl; done)
  · skip
    refine r_iload_n X dX10_isAhead_18 rfl rfl ?_
    refine r_if_ge (tgt := 26) X dX10_isAhead_19 (by decide) (fun h19 => ?_) (fun h19 => ?_)
    · skip
      refine r_iconst (v := 0) X dX10_isAhead_26 (by decide) ?_
      refine r_ireturn X dX10_isAhead_27 rfl (by first | omega | decide | (simp only [rmL, rmA]; omega)) (by first | omega | decide | (simp only [rmL, rmA]; omega)) ?_
      refine ⟨?_, rfl⟩
      first
        | (rw [hAhead, if_neg h15, decide_eq_true (Int32.not_le.mp h19)]; rfl; done)
        | (rw [hAhead, if_neg h15, decide_eq_false (Int32.not_lt.mpr h19)]; rfl; done)
    · skip
      refine r_iconst (v := 1) X dX10_isAhead_22 (by decide) ?_
      refine r_goto (tgt := 27) X dX10_isAhead_23 (by decide) ?_
      refine r_ireturn X dX10_isAhead_27 rfl (by first | omega | decide | (simp only [rmL, rmA]; omega)) (by first | omega | decide | (simp only [rmL, rmA]; omega)) ?_
      refine ⟨?_, rfl⟩
      first
        | (rw [hAhead, if_neg h15, decide_eq_true (Int32.not_le.mp h19)]; rfl; done)
        | (rw [hAhead, if_neg h15, decide_eq_false (Int32.not_lt.mpr h19)]; rfl; done)
def hAheadN (I : Mem) (h n k t : Nat) : Nat → Nat
  | 0 => 0
  | j + 1 => if hAhead I h n k j t = true then hAheadN I h n k t j + 1 else hAheadN I h n k t j
theorem hAheadN_le (I : Mem) (h n k t : Nat) : ∀ j, hAheadN I h n k t j ≤ j
  | 0 => by simp [hAheadN]
  | j + 1 => by have := hAheadN_le I h n k t j; unfold hAheadN; split <;> omega
def hPlace (I : Mem) (h c n k : Nat) (x : Int32) : Int32 := oI (fst1 (fun t => decide (nI (hAheadN I h n k t c) = x)) c)
set_option maxHeartbeats 2000000 in
set_option maxRecDepth 20000 in
/-- SledHouse.place -/
theorem c_hPlace {E : Ev} (GE : Glob E) (S : Nat → Option (Nat × Nat)) (I : Nat → Nat → Int32) (V : Nat → Nat → Option Nat) (J : Nat → Nat → Int64) (N : Nat) (h c n k : Nat) (x : Int32) (hH : HouseSh S V h) (hc : I (h + 9) 2 = nI c) (hc6 : c ≤ 6) (hn : I (h + 9 + 1) 4 = nI n) (hn12 : n ≤ 12) (hO : LawOK I (h + 4) k) (hl : ∀ i, i < c → I (tm h i) 10 = nI (tL I (tm h i)) ∧ tL I (tm h i) ≤ 12) : Ct E yX10_place cX10_place 5 (some .int) (rmL 6) [.ref h, .int x] (S, I, V, J, N) (fun v w' => v = some (.int (hPlace I h c n k x)) ∧ w' = (S, I, V, J, N)) := by
  refine Ct.start GE (by decide) rfl (Nat.le_of_ble_eq_true rfl) (fun M X => ?_)
  have X : Cx E M RX10 cX10_place 5 (rmL 6) (some .int) "place" := X
  refine r_loc (L' := [some (.ref h), some (.int x), none, none, none]) rfl ?_
  obtain ⟨hs0, hv0, hv1, hv2, hv3, hv4, hv5, hTp, hs3, hPl, hLw, hRc, hs76, hGh, hRow⟩ := id hH
  obtain ⟨rs0, rv0, rv1, rTr, rs6, rTe⟩ := id hRc
  have qs0 := rTr.1
  have ts0 := hTp.1
  have ls0 := hLw.1
  have H : ∀ t, t ≤ c → ∀ x3 x4, (∀ q, q < t → (decide (nI (hAheadN I h n k q c) = x)) = false) → G E M 0 0 (qQ E M (rmL 6) (fun v w' => v = some (.int (hPlace I h c n k x)) ∧ w' = (S, I, V, J, N))) 2 [some (.ref h), some (.int x), some (.int (nI t)), x3, x4] [] (S, I, V, J, N) := by
    refine loopN c (fun t ht iht => ?_)
    intro x3 x4 hno
    have H2 : t < c → ∀ j, j ≤ c → G E M 0 0 (qQ E M (rmL 6) (fun v w' => v = some (.int (hPlace I h c n k x)) ∧ w' = (S, I, V, J, N))) 18 [some (.ref h), some (.int x), some (.int (nI t)), some (.int (nI (hAheadN I h n k t j))), some (.int (nI j))] [] (S, I, V, J, N) := by
      intro htc
      refine loopN c (fun j hj ih => ?_)
      have hle := hAheadN_le I h n k t j
      refine r_iload X dX10_place_18 rfl ?_
      refine r_aload_n X dX10_place_20 rfl rfl ?_
      refine r_getR X dX10_place_21 fX10_32 (by assumption) (by assumption) ?_
      refine r_getI X dX10_place_24 fX10_142 (by assumption) (by first | assumption | rfl) ?_
      refine r_icmpN_ge (tgt := 54) X dX10_place_27 (by decide) (by omega) (by omega) (fun h27 => ?_) (fun h27 => ?_)
      · skip
        refine r_iload_n X dX10_place_54 rfl rfl ?_
        refine r_iload_n X dX10_place_55 rfl rfl ?_
        refine r_icmp_ne (tgt := 61) X dX10_place_56 (by decide) (fun h56 => ?_) (fun h56 => ?_)
        · skip
          first | refine r_iincN X dX10_place_61 rfl (by decide) rfl ?_ | refine r_iinc X dX10_place_61 rfl rfl (by decide) rfl ?_
          refine r_goto (tgt := 2) X dX10_place_64 (by decide) ?_
          obtain rfl : j = c := by omega
          refine iht htc _ _ (fun q hq => ?_)
          rcases Nat.lt_or_ge q t with z | z
          · exact hno q z
          · obtain rfl : q = t := by omega
            simpa using h56
        · skip
          refine r_iload_n X dX10_place_59 rfl rfl ?_
          refine r_ireturn X dX10_place_60 rfl (by first | omega | decide | (simp only [rmL, rmA]; omega)) (by first | omega | decide | (simp only [rmL, rmA]; omega)) ?_
          obtain rfl : j = c := by omega
          exact ⟨by rw [hPlace, fst1_some (j := t) (by simpa using h56) hno htc]; rfl, rfl⟩
      · skip
        refine r_iload_n X dX10_place_30 rfl rfl ?_
        refine r_aload_n X dX10_place_31 rfl rfl ?_
        refine r_iload X dX10_place_32 rfl ?_
        refine r_iload_n X dX10_place_34 rfl rfl ?_
        refine q_callV X dX10_place_35 mX10_256 cwX10_isAhead (c_hAhead GE S I V J N h n k j t hH (by omega) (by omega) hn hn12 hO (hl j (by omega)) (hl t htc)) rfl (by assumption) rfl rfl rfl (Nat.le_of_ble_eq_true rfl) ⟨Nat.le_of_ble_eq_true rfl, Nat.le_of_ble_eq_true rfl⟩ ⟨(by first | omega | decide | (simp only [rmL, rmA]; omega)), (by first | omega | decide | (simp only [rmL, rmA]; omega))⟩ ?_
        rintro _ _ ⟨rfl, rfl⟩
        refine r_if_eq (tgt := 45) X dX10_place_38 (by decide) (fun h38 => ?_) (fun h38 => ?_)
        · skip
          refine r_iconst (v := 0) X dX10_place_45 (by decide) ?_
          have hcs : G E M 0 0 (qQ E M (rmL 6) (fun v w' => v = some (.int (hPlace I h c n k x)) ∧ w' = (S, I, V, J, N))) 47 [some (.ref h), some (.int x), some (.int (nI t)), some (.int (nI (hAheadN I h n k t j))), some (.int (nI j))] [.int (nI (hAheadN I h n k t (j + 1)))] (S, I, V, J, N) := by
            refine r_istore_n X dX10_place_47 rfl (by decide) rfl ?_
            first | refine r_iincN X dX10_place_48 rfl (by decide) rfl ?_ | refine r_iinc X dX10_place_48 rfl rfl (by decide) rfl ?_
            refine r_goto (tgt := 18) X dX10_place_51 (by decide) ?_
            exact ih (by omega)
          first
            | (refine r_iadd X dX10_place_46 ?_
               refine r_topi (nI (hAheadN I h n k t (j + 1))) (by rw [hAheadN, if_pos (bI_1 h38)]; exact nI_1 _) ?_
               exact hcs)
            | (refine r_iadd X dX10_place_46 ?_
               refine r_topi (nI (hAheadN I h n k t (j + 1))) (by rw [hAheadN, if_neg (by rw [bI_0 h38]; decide)]; exact nI_add _ 0) ?_
               exact hcs)
        · skip
          refine r_iconst (v := 1) X dX10_place_41 (by decide) ?_
          refine r_goto (tgt := 46) X dX10_place_42 (by decide) ?_
          have hcs : G E M 0 0 (qQ E M (rmL 6) (fun v w' => v = some (.int (hPlace I h c n k x)) ∧ w' = (S, I, V, J, N))) 47 [some (.ref h), some (.int x), some (.int (nI t)), some (.int (nI (hAheadN I h n k t j))), some (.int (nI j))] [.int (nI (hAheadN I h n k t (j + 1)))] (S, I, V, J, N) := by
            refine r_istore_n X dX10_place_47 rfl (by decide) rfl ?_
            first | refine r_iincN X dX10_place_48 rfl (by decide) rfl ?_ | refine r_iinc X dX10_place_48 rfl rfl (by decide) rfl ?_
            refine r_goto (tgt := 18) X dX10_place_51 (by decide) ?_
            exact ih (by omega)
          first
            | (refine r_iadd X dX10_place_46 ?_
               refine r_topi (nI (hAheadN I h n k t (j + 1))) (by rw [hAheadN, if_pos (bI_1 h38)]; exact nI_1 _) ?_
               exact hcs)
            | (refine r_iadd X dX10_place_46 ?_
               refine r_topi (nI (hAheadN I h n k t (j + 1))) (by rw [hAheadN, if_neg (by rw [bI_0 h38]; decide)]; exact nI_add _ 0) ?_
               exact hcs)
    refine r_iload_n X dX10_place_2 rfl rfl ?_
    refine r_aload_n X dX10_place_3 rfl rfl ?_
    refine r_getR X dX10_place_4 fX10_32 (by assumption) (by assumption) ?_
    refine r_getI X dX10_place_7 fX10_142 (by assumption) (by first | assumption | rfl) ?_
    refine r_icmpN_ge (tgt := 67) X dX10_place_10 (by decide) (by omega) (by omega) (fun h10 => ?_) (fun h10 => ?_)
    · skip
      refine r_iconst (v := -1) X dX10_place_67 (by decide) ?_
      refine r_ireturn X dX10_place_68 rfl (by first | omega | decide | (simp only [rmL, rmA]; omega)) (by first | omega | decide | (simp only [rmL, rmA]; omega)) ?_
      obtain rfl : t = c := by omega
      exact ⟨by rw [hPlace, fst1_none hno]; rfl, rfl⟩
    · skip
      refine r_iconst (v := nI 0) X dX10_place_13 (by decide) ?_
      refine r_istore_n X dX10_place_14 rfl (by decide) rfl ?_
      refine r_iconst (v := nI 0) X dX10_place_15 (by decide) ?_
      refine r_istore X dX10_place_16 (by decide) rfl ?_
      exact H2 (by omega) 0 (by omega)
  refine r_iconst (v := nI 0) X dX10_place_0 (by decide) ?_
  refine r_istore_n X dX10_place_1 rfl (by decide) rfl ?_
  exact H 0 (by omega) none none (fun q hq => absurd hq (by omega))
theorem rowLast_lt {I : Mem} {a : Nat} : ∀ {j k : Nat}, rowLast I a j = some k → k < j
  | 0, k, h => by simp [rowLast] at h
  | j + 1, k, h => by
    unfold rowLast at h
    split at h
    · have := rowLast_lt h; omega
    · cases h; omega
theorem rowNext_lt {I : Mem} {a x y k : Nat} (h : rowNext I a x y = some k) : k < y := by
  unfold rowNext at h
  cases hf : fst1 (fun k => decide (¬ I a (x + k) = -1)) (y - x) with
  | none => rw [hf] at h; cases h
  | some j =>
    rw [hf] at h
    have := fst1_lt hf
    simp at h
    omega
def sLeast (I : Mem) (a e s : Nat) (o1 o2 : Option Nat) : Int32 := match o2 with
  | none => (match o1 with | none => 0 | some k => I a k)
  | some k2 => iMax (match o1 with | none => 0 | some k => I a k) (I a k2 - 60 * (nI k2 * nI e - nI s))
def sMost (I : Mem) (a e s t : Nat) (whole : Int32) (o1 o2 : Option Nat) : Int32 := match o1 with
  | none => iMin (match o2 with | none => whole | some k => I a k) (60 * iMax 0 (nI s - I t 6 + 1))
  | some k1 => iMin (match o2 with | none => whole | some k => I a k) (I a k1 + 60 * (nI s - nI k1 * nI e))
theorem nI_m1 {k : Nat} (hk : k < 2147483648) (h : nI k = -1) : False :=
  absurd (show (-1 : Int32) < 0 by decide) (by rw [← h]; exact nI_pos hk)
set_option maxHeartbeats 2000000 in
set_option maxRecDepth 20000 in
/-- SledHouse.leastWay -/
theorem c_hLeast {E : Ev} (GE : Glob E) (S : Nat → Option (Nat × Nat)) (I : Nat → Nat → Int32) (V : Nat → Nat → Option Nat) (J : Nat → Nat → Int64) (N : Nat) (h i a n e s u : Nat) (hH : HouseSh S V h) (hi : i < 6) (hW : RowSh S V (h + 150 + 2 * i) a n) (hE : I (h + 9) 4 = nI e) (he : 0 < e) (he48 : e ≤ 48) (hs : s < 2000) (hU : I (h + 9) 3 = nI u) (hu : u ≤ 2000) : Ct E yX10_leastWay cX10_leastWay 8 (some .int) (rmL 3) [.ref h, .int (nI i), .int (nI s)] (S, I, V, J, N) (fun v w' => v = some (.int (sLeast I a e s (rowLast I a (rowPast n e (s + 1))) (rowNext I a (s / e + 1) (rowPast n e u)))) ∧ w' = (S, I, V, J, N)) := by
  refine Ct.start GE (by decide) rfl (Nat.le_of_ble_eq_true rfl) (fun M X => ?_)
  have X : Cx E M RX10 cX10_leastWay 8 (rmL 3) (some .int) "leastWay" := X
  refine r_loc (L' := [some (.ref h), some (.int (nI i)), some (.int (nI s)), none, none, none, none, none]) rfl ?_
  obtain ⟨hs0, hv0, hv1, hv2, hv3, hv4, hv5, hTp, hs3, hPl, hLw, hRc, hs76, hGh, hRow⟩ := id hH
  obtain ⟨rs0, rv0, rv1, rTr, rs6, rTe⟩ := id hRc
  have qs0 := rTr.1
  have ts0 := hTp.1
  have ls0 := hLw.1
  have te1 := (rTe i (by omega)).1
  have te2 := (rTe i (by omega)).2
  obtain ⟨as0, av0, av1, av2, av3, aD, aG, as8, as9⟩ := id te2
  have rw1 := (hRow i (by omega)).1
  obtain ⟨ws0, wv0, wsa, wn⟩ := id hW
  have hp1 : rowPast n e (s + 1) ≤ n := Nat.min_le_left _ _
  have hp2 : rowPast n e u ≤ n := Nat.min_le_left _ _
  generalize ho1 : rowLast I a (rowPast n e (s + 1)) = o1
  generalize ho2 : rowNext I a (s / e + 1) (rowPast n e u) = o2
  have hk1 : ∀ k, o1 = some k → k < n := fun k hk => by rw [hk] at ho1; have := rowLast_lt ho1; omega
  have hk2 : ∀ k, o2 = some k → k < n := fun k hk => by rw [hk] at ho2; have := rowNext_lt ho2; omega
  rcases o1 with _ | k1 <;> rcases o2 with _ | k2
  · skip
    refine r_aload_n X dX10_leastWay_0 rfl rfl ?_
    refine r_getR X dX10_leastWay_1 fX10_38 (by assumption) (by assumption) ?_
    refine r_iload_n X dX10_leastWay_4 rfl rfl ?_
    refine r_aaldN X dX10_leastWay_5 (by assumption) (by decide) rfl (by omega) (by omega) rw1 ?_
    refine r_astore_n X dX10_leastWay_6 rfl (by decide) rfl ?_
    refine r_aload_n X dX10_leastWay_7 rfl rfl ?_
    refine r_getR X dX10_leastWay_8 fX10_32 (by assumption) (by assumption) ?_
    refine r_getI X dX10_leastWay_11 fX10_170 (by assumption) (by first | assumption | rfl) ?_
    refine r_istore X dX10_leastWay_14 (by decide) rfl ?_
    refine r_aload_n X dX10_leastWay_16 rfl rfl ?_
    refine r_iload X dX10_leastWay_17 rfl ?_
    refine r_iload_n X dX10_leastWay_19 rfl rfl ?_
    refine q_callV X dX10_leastWay_20 mX10_307 cwX6_latest (c_rowLatest GE S I V J N _ a n e s hW he he48 (by omega)) rfl (by assumption) rfl rfl rfl (Nat.le_of_ble_eq_true rfl) ⟨Nat.le_of_ble_eq_true rfl, Nat.le_of_ble_eq_true rfl⟩ ⟨(by first | omega | decide | (simp only [rmL, rmA]; omega)), (by first | omega | decide | (simp only [rmL, rmA]; omega))⟩ ?_
    rintro _ _ ⟨rfl, rfl⟩
    refine r_topi (oI none) (by rw [ho1]) ?_
    refine r_topi (-1) rfl ?_
    refine r_istore X dX10_leastWay_23 (by decide) rfl ?_
    refine r_aload_n X dX10_leastWay_25 rfl rfl ?_
    refine r_iload X dX10_leastWay_26 rfl ?_
    refine r_iload_n X dX10_leastWay_28 rfl rfl ?_
    refine r_aload_n X dX10_leastWay_29 rfl rfl ?_
    refine r_getR X dX10_leastWay_30 fX10_32 (by assumption) (by assumption) ?_
    refine r_getI X dX10_leastWay_33 fX10_70 (by assumption) (by first | assumption | rfl) ?_
    refine q_callV X dX10_leastWay_36 mX10_310 cwX6_next (c_rowNext GE S I V J N _ a n e s u hW he he48 (by omega) (by omega)) rfl (by assumption) rfl rfl rfl (Nat.le_of_ble_eq_true rfl) ⟨Nat.le_of_ble_eq_true rfl, Nat.le_of_ble_eq_true rfl⟩ ⟨(by first | omega | decide | (simp only [rmL, rmA]; omega)), (by first | omega | decide | (simp only [rmL, rmA]; omega))⟩ ?_
    rintro _ _ ⟨rfl, rfl⟩
    refine r_topi (oI none) (by rw [ho2]) ?_
    refine r_topi (-1) rfl ?_
    refine r_istore X dX10_leastWay_39 (by decide) rfl ?_
    refine r_iload X dX10_leastWay_41 rfl ?_
    refine r_iconst (v := -1) X dX10_leastWay_43 (by decide) ?_
    refine r_icmp_ne (tgt := 51) X dX10_leastWay_44 (by decide) (fun h44 => ?_) (fun h44 => ?_)
    · skip
      exact absurd rfl h44
    · skip
      refine r_iconst (v := 0) X dX10_leastWay_47 (by decide) ?_
      refine r_goto (tgt := 58) X dX10_leastWay_48 (by decide) ?_
      refine r_istore X dX10_leastWay_58 (by decide) rfl ?_
      refine r_iload X dX10_leastWay_60 rfl ?_
      refine r_iconst (v := -1) X dX10_leastWay_62 (by decide) ?_
      refine r_icmp_ne (tgt := 69) X dX10_leastWay_63 (by decide) (fun h63 => ?_) (fun h63 => ?_)
      · skip
        exact absurd rfl h63
      · skip
        refine r_iload X dX10_leastWay_66 rfl ?_
        refine r_ireturn X dX10_leastWay_68 rfl (by first | omega | decide | (simp only [rmL, rmA]; omega)) (by first | omega | decide | (simp only [rmL, rmA]; omega)) ?_
        exact ⟨rfl, rfl⟩
  · skip
    have hk2 := hk2 _ rfl
    refine r_aload_n X dX10_leastWay_0 rfl rfl ?_
    refine r_getR X dX10_leastWay_1 fX10_38 (by assumption) (by assumption) ?_
    refine r_iload_n X dX10_leastWay_4 rfl rfl ?_
    refine r_aaldN X dX10_leastWay_5 (by assumption) (by decide) rfl (by omega) (by omega) rw1 ?_
    refine r_astore_n X dX10_leastWay_6 rfl (by decide) rfl ?_
    refine r_aload_n X dX10_leastWay_7 rfl rfl ?_
    refine r_getR X dX10_leastWay_8 fX10_32 (by assumption) (by assumption) ?_
    refine r_getI X dX10_leastWay_11 fX10_170 (by assumption) (by first | assumption | rfl) ?_
    refine r_istore X dX10_leastWay_14 (by decide) rfl ?_
    refine r_aload_n X dX10_leastWay_16 rfl rfl ?_
    refine r_iload X dX10_leastWay_17 rfl ?_
    refine r_iload_n X dX10_leastWay_19 rfl rfl ?_
    refine q_callV X dX10_leastWay_20 mX10_307 cwX6_latest (c_rowLatest GE S I V J N _ a n e s hW he he48 (by omega)) rfl (by assumption) rfl rfl rfl (Nat.le_of_ble_eq_true rfl) ⟨Nat.le_of_ble_eq_true rfl, Nat.le_of_ble_eq_true rfl⟩ ⟨(by first | omega | decide | (simp only [rmL, rmA]; omega)), (by first | omega | decide | (simp only [rmL, rmA]; omega))⟩ ?_
    rintro _ _ ⟨rfl, rfl⟩
    refine r_topi (oI none) (by rw [ho1]) ?_
    refine r_topi (-1) rfl ?_
    refine r_istore X dX10_leastWay_23 (by decide) rfl ?_
    refine r_aload_n X dX10_leastWay_25 rfl rfl ?_
    refine r_iload X dX10_leastWay_26 rfl ?_
    refine r_iload_n X dX10_leastWay_28 rfl rfl ?_
    refine r_aload_n X dX10_leastWay_29 rfl rfl ?_
    refine r_getR X dX10_leastWay_30 fX10_32 (by assumption) (by assumption) ?_
    refine r_getI X dX10_leastWay_33 fX10_70 (by assumption) (by first | assumption | rfl) ?_
    refine q_callV X dX10_leastWay_36 mX10_310 cwX6_next (c_rowNext GE S I V J N _ a n e s u hW he he48 (by omega) (by omega)) rfl (by assumption) rfl rfl rfl (Nat.le_of_ble_eq_true rfl) ⟨Nat.le_of_ble_eq_true rfl, Nat.le_of_ble_eq_true rfl⟩ ⟨(by first | omega | decide | (simp only [rmL, rmA]; omega)), (by first | omega | decide | (simp only [rmL, rmA]; omega))⟩ ?_
    rintro _ _ ⟨rfl, rfl⟩
    refine r_topi (oI (some k2)) (by rw [ho2]) ?_
    refine r_topi (nI k2) rfl ?_
    refine r_istore X dX10_leastWay_39 (by decide) rfl ?_
    refine r_iload X dX10_leastWay_41 rfl ?_
    refine r_iconst (v := -1) X dX10_leastWay_43 (by decide) ?_
    refine r_icmp_ne (tgt := 51) X dX10_leastWay_44 (by decide) (fun h44 => ?_) (fun h44 => ?_)
    · skip
      exact absurd rfl h44
    · skip
      refine r_iconst (v := 0) X dX10_leastWay_47 (by decide) ?_
      refine r_goto (tgt := 58) X dX10_leastWay_48 (by decide) ?_
      refine r_istore X dX10_leastWay_58 (by decide) rfl ?_
      refine r_iload X dX10_leastWay_60 rfl ?_
      refine r_iconst (v := -1) X dX10_leastWay_62 (by decide) ?_
      refine r_icmp_ne (tgt := 69) X dX10_leastWay_63 (by decide) (fun h63 => ?_) (fun h63 => ?_)
      · skip
        refine r_iload X dX10_leastWay_69 rfl ?_
        refine r_aload_n X dX10_leastWay_71 rfl rfl ?_
        refine r_getR X dX10_leastWay_72 fX10_314 (by assumption) (by assumption) ?_
        refine r_iload X dX10_leastWay_75 rfl ?_
        refine r_ialdN X dX10_leastWay_77 (by assumption) (by omega) (by omega) (by first | assumption | rfl) ?_
        refine r_bipush (v := 60) X dX10_leastWay_78 (by decide) ?_
        refine r_iload X dX10_leastWay_80 rfl ?_
        refine r_iload X dX10_leastWay_82 rfl ?_
        refine r_imul X dX10_leastWay_84 ?_
        refine r_iload_n X dX10_leastWay_85 rfl rfl ?_
        refine r_isub X dX10_leastWay_86 ?_
        refine r_imul X dX10_leastWay_87 ?_
        refine r_isub X dX10_leastWay_88 ?_
        refine r_mmax X dX10_leastWay_89 mmX10_101 (Nat.le_of_ble_eq_true rfl) (Nat.le_of_ble_eq_true rfl) (by first | omega | decide | (simp only [rmL, rmA]; omega)) (by first | omega | decide | (simp only [rmL, rmA]; omega)) ?_
        refine r_ireturn X dX10_leastWay_92 rfl (by first | omega | decide | (simp only [rmL, rmA]; omega)) (by first | omega | decide | (simp only [rmL, rmA]; omega)) ?_
        exact ⟨rfl, rfl⟩
      · skip
        exact (nI_m1 (by omega) h63).elim
  · skip
    have hk1 := hk1 _ rfl
    refine r_aload_n X dX10_leastWay_0 rfl rfl ?_
    refine r_getR X dX10_leastWay_1 fX10_38 (by assumption) (by assumption) ?_
    refine r_iload_n X dX10_leastWay_4 rfl rfl ?_
    refine r_aaldN X dX10_leastWay_5 (by assumption) (by decide) rfl (by omega) (by omega) rw1 ?_
    refine r_astore_n X dX10_leastWay_6 rfl (by decide) rfl ?_
    refine r_aload_n X dX10_leastWay_7 rfl rfl ?_
    refine r_getR X dX10_leastWay_8 fX10_32 (by assumption) (by assumption) ?_
    refine r_getI X dX10_leastWay_11 fX10_170 (by assumption) (by first | assumption | rfl) ?_
    refine r_istore X dX10_leastWay_14 (by decide) rfl ?_
    refine r_aload_n X dX10_leastWay_16 rfl rfl ?_
    refine r_iload X dX10_leastWay_17 rfl ?_
    refine r_iload_n X dX10_leastWay_19 rfl rfl ?_
    refine q_callV X dX10_leastWay_20 mX10_307 cwX6_latest (c_rowLatest GE S I V J N _ a n e s hW he he48 (by omega)) rfl (by assumption) rfl rfl rfl (Nat.le_of_ble_eq_true rfl) ⟨Nat.le_of_ble_eq_true rfl, Nat.le_of_ble_eq_true rfl⟩ ⟨(by first | omega | decide | (simp only [rmL, rmA]; omega)), (by first | omega | decide | (simp only [rmL, rmA]; omega))⟩ ?_
    rintro _ _ ⟨rfl, rfl⟩
    refine r_topi (oI (some k1)) (by rw [ho1]) ?_
    refine r_topi (nI k1) rfl ?_
    refine r_istore X dX10_leastWay_23 (by decide) rfl ?_
    refine r_aload_n X dX10_leastWay_25 rfl rfl ?_
    refine r_iload X dX10_leastWay_26 rfl ?_
    refine r_iload_n X dX10_leastWay_28 rfl rfl ?_
    refine r_aload_n X dX10_leastWay_29 rfl rfl ?_
    refine r_getR X dX10_leastWay_30 fX10_32 (by assumption) (by assumption) ?_
    refine r_getI X dX10_leastWay_33 fX10_70 (by assumption) (by first | assumption | rfl) ?_
    refine q_callV X dX10_leastWay_36 mX10_310 cwX6_next (c_rowNext GE S I V J N _ a n e s u hW he he48 (by omega) (by omega)) rfl (by assumption) rfl rfl rfl (Nat.le_of_ble_eq_true rfl) ⟨Nat.le_of_ble_eq_true rfl, Nat.le_of_ble_eq_true rfl⟩ ⟨(by first | omega | decide | (simp only [rmL, rmA]; omega)), (by first | omega | decide | (simp only [rmL, rmA]; omega))⟩ ?_
    rintro _ _ ⟨rfl, rfl⟩
    refine r_topi (oI none) (by rw [ho2]) ?_
    refine r_topi (-1) rfl ?_
    refine r_istore X dX10_leastWay_39 (by decide) rfl ?_
    refine r_iload X dX10_leastWay_41 rfl ?_
    refine r_iconst (v := -1) X dX10_leastWay_43 (by decide) ?_
    refine r_icmp_ne (tgt := 51) X dX10_leastWay_44 (by decide) (fun h44 => ?_) (fun h44 => ?_)
    · skip
      refine r_aload_n X dX10_leastWay_51 rfl rfl ?_
      refine r_getR X dX10_leastWay_52 fX10_314 (by assumption) (by assumption) ?_
      refine r_iload X dX10_leastWay_55 rfl ?_
      refine r_ialdN X dX10_leastWay_57 (by assumption) (by omega) (by omega) (by first | assumption | rfl) ?_
      refine r_istore X dX10_leastWay_58 (by decide) rfl ?_
      refine r_iload X dX10_leastWay_60 rfl ?_
      refine r_iconst (v := -1) X dX10_leastWay_62 (by decide) ?_
      refine r_icmp_ne (tgt := 69) X dX10_leastWay_63 (by decide) (fun h63 => ?_) (fun h63 => ?_)
      · skip
        exact absurd rfl h63
      · skip
        refine r_iload X dX10_leastWay_66 rfl ?_
        refine r_ireturn X dX10_leastWay_68 rfl (by first | omega | decide | (simp only [rmL, rmA]; omega)) (by first | omega | decide | (simp only [rmL, rmA]; omega)) ?_
        exact ⟨rfl, rfl⟩
    · skip
      exact (nI_m1 (by omega) h44).elim
  · skip
    have hk1 := hk1 _ rfl
    have hk2 := hk2 _ rfl
    refine r_aload_n X dX10_leastWay_0 rfl rfl ?_
    refine r_getR X dX10_leastWay_1 fX10_38 (by assumption) (by assumption) ?_
    refine r_iload_n X dX10_leastWay_4 rfl rfl ?_
    refine r_aaldN X dX10_leastWay_5 (by assumption) (by decide) rfl (by omega) (by omega) rw1 ?_
    refine r_astore_n X dX10_leastWay_6 rfl (by decide) rfl ?_
    refine r_aload_n X dX10_leastWay_7 rfl rfl ?_
    refine r_getR X dX10_leastWay_8 fX10_32 (by assumption) (by assumption) ?_
    refine r_getI X dX10_leastWay_11 fX10_170 (by assumption) (by first | assumption | rfl) ?_
    refine r_istore X dX10_leastWay_14 (by decide) rfl ?_
    refine r_aload_n X dX10_leastWay_16 rfl rfl ?_
    refine r_iload X dX10_leastWay_17 rfl ?_
    refine r_iload_n X dX10_leastWay_19 rfl rfl ?_
    refine q_callV X dX10_leastWay_20 mX10_307 cwX6_latest (c_rowLatest GE S I V J N _ a n e s hW he he48 (by omega)) rfl (by assumption) rfl rfl rfl (Nat.le_of_ble_eq_true rfl) ⟨Nat.le_of_ble_eq_true rfl, Nat.le_of_ble_eq_true rfl⟩ ⟨(by first | omega | decide | (simp only [rmL, rmA]; omega)), (by first | omega | decide | (simp only [rmL, rmA]; omega))⟩ ?_
    rintro _ _ ⟨rfl, rfl⟩
    refine r_topi (oI (some k1)) (by rw [ho1]) ?_
    refine r_topi (nI k1) rfl ?_
    refine r_istore X dX10_leastWay_23 (by decide) rfl ?_
    refine r_aload_n X dX10_leastWay_25 rfl rfl ?_
    refine r_iload X dX10_leastWay_26 rfl ?_
    refine r_iload_n X dX10_leastWay_28 rfl rfl ?_
    refine r_aload_n X dX10_leastWay_29 rfl rfl ?_
    refine r_getR X dX10_leastWay_30 fX10_32 (by assumption) (by assumption) ?_
    refine r_getI X dX10_leastWay_33 fX10_70 (by assumption) (by first | assumption | rfl) ?_
    refine q_callV X dX10_leastWay_36 mX10_310 cwX6_next (c_rowNext GE S I V J N _ a n e s u hW he he48 (by omega) (by omega)) rfl (by assumption) rfl rfl rfl (Nat.le_of_ble_eq_true rfl) ⟨Nat.le_of_ble_eq_true rfl, Nat.le_of_ble_eq_true rfl⟩ ⟨(by first | omega | decide | (simp only [rmL, rmA]; omega)), (by first | omega | decide | (simp only [rmL, rmA]; omega))⟩ ?_
    rintro _ _ ⟨rfl, rfl⟩
    refine r_topi (oI (some k2)) (by rw [ho2]) ?_
    refine r_topi (nI k2) rfl ?_
    refine r_istore X dX10_leastWay_39 (by decide) rfl ?_
    refine r_iload X dX10_leastWay_41 rfl ?_
    refine r_iconst (v := -1) X dX10_leastWay_43 (by decide) ?_
    refine r_icmp_ne (tgt := 51) X dX10_leastWay_44 (by decide) (fun h44 => ?_) (fun h44 => ?_)
    · skip
      refine r_aload_n X dX10_leastWay_51 rfl rfl ?_
      refine r_getR X dX10_leastWay_52 fX10_314 (by assumption) (by assumption) ?_
      refine r_iload X dX10_leastWay_55 rfl ?_
      refine r_ialdN X dX10_leastWay_57 (by assumption) (by omega) (by omega) (by first | assumption | rfl) ?_
      refine r_istore X dX10_leastWay_58 (by decide) rfl ?_
      refine r_iload X dX10_leastWay_60 rfl ?_
      refine r_iconst (v := -1) X dX10_leastWay_62 (by decide) ?_
      refine r_icmp_ne (tgt := 69) X dX10_leastWay_63 (by decide) (fun h63 => ?_) (fun h63 => ?_)
      · skip
        refine r_iload X dX10_leastWay_69 rfl ?_
        refine r_aload_n X dX10_leastWay_71 rfl rfl ?_
        refine r_getR X dX10_leastWay_72 fX10_314 (by assumption) (by assumption) ?_
        refine r_iload X dX10_leastWay_75 rfl ?_
        refine r_ialdN X dX10_leastWay_77 (by assumption) (by omega) (by omega) (by first | assumption | rfl) ?_
        refine r_bipush (v := 60) X dX10_leastWay_78 (by decide) ?_
        refine r_iload X dX10_leastWay_80 rfl ?_
        refine r_iload X dX10_leastWay_82 rfl ?_
        refine r_imul X dX10_leastWay_84 ?_
        refine r_iload_n X dX10_leastWay_85 rfl rfl ?_
        refine r_isub X dX10_leastWay_86 ?_
        refine r_imul X dX10_leastWay_87 ?_
        refine r_isub X dX10_leastWay_88 ?_
        refine r_mmax X dX10_leastWay_89 mmX10_101 (Nat.le_of_ble_eq_true rfl) (Nat.le_of_ble_eq_true rfl) (by first | omega | decide | (simp only [rmL, rmA]; omega)) (by first | omega | decide | (simp only [rmL, rmA]; omega)) ?_
        refine r_ireturn X dX10_leastWay_92 rfl (by first | omega | decide | (simp only [rmL, rmA]; omega)) (by first | omega | decide | (simp only [rmL, rmA]; omega)) ?_
        exact ⟨rfl, rfl⟩
      · skip
        exact (nI_m1 (by omega) h63).elim
    · skip
      exact (nI_m1 (by omega) h44).elim
set_option maxHeartbeats 2000000 in
set_option maxRecDepth 20000 in
/-- SledHouse.greatestWay -/
theorem c_hMost {E : Ev} (GE : Glob E) (S : Nat → Option (Nat × Nat)) (I : Nat → Nat → Int32) (V : Nat → Nat → Option Nat) (J : Nat → Nat → Int64) (N : Nat) (h i a n e s u m : Nat) (hH : HouseSh S V h) (hi : i < 6) (hW : RowSh S V (h + 150 + 2 * i) a n) (hE : I (h + 9) 4 = nI e) (he : 0 < e) (he48 : e ≤ 48) (hs : s < 2000) (hU : I (h + 9) 3 = nI u) (hu : u ≤ 2000) (hm : I (h + 9 + 1) 4 = nI m) (hm12 : m ≤ 12) : Ct E yX10_greatestWay cX10_greatestWay 9 (some .int) (rmL 3) [.ref h, .int (nI i), .int (nI s)] (S, I, V, J, N) (fun v w' => v = some (.int (sMost I a e s (tm h i) (I (h + 9 + 1 + 3) m) (rowLast I a (rowPast n e (s + 1))) (rowNext I a (s / e + 1) (rowPast n e u)))) ∧ w' = (S, I, V, J, N)) := by
  refine Ct.start GE (by decide) rfl (Nat.le_of_ble_eq_true rfl) (fun M X => ?_)
  have X : Cx E M RX10 cX10_greatestWay 9 (rmL 3) (some .int) "greatestWay" := X
  refine r_loc (L' := [some (.ref h), some (.int (nI i)), some (.int (nI s)), none, none, none, none, none, none]) rfl ?_
  obtain ⟨hs0, hv0, hv1, hv2, hv3, hv4, hv5, hTp, hs3, hPl, hLw, hRc, hs76, hGh, hRow⟩ := id hH
  obtain ⟨rs0, rv0, rv1, rTr, rs6, rTe⟩ := id hRc
  have qs0 := rTr.1
  have ts0 := hTp.1
  have ls0 := hLw.1
  have te1 := (rTe i (by omega)).1
  have te2 := (rTe i (by omega)).2
  obtain ⟨as0, av0, av1, av2, av3, aD, aG, as8, as9⟩ := id te2
  have rw1 := (hRow i (by omega)).1
  obtain ⟨ws0, wv0, wsa, wn⟩ := id hW
  have hp1 : rowPast n e (s + 1) ≤ n := Nat.min_le_left _ _
  have hp2 : rowPast n e u ≤ n := Nat.min_le_left _ _
  generalize ho1 : rowLast I a (rowPast n e (s + 1)) = o1
  generalize ho2 : rowNext I a (s / e + 1) (rowPast n e u) = o2
  have hk1 : ∀ k, o1 = some k → k < n := fun k hk => by rw [hk] at ho1; have := rowLast_lt ho1; omega
  have hk2 : ∀ k, o2 = some k → k < n := fun k hk => by rw [hk] at ho2; have := rowNext_lt ho2; omega
  rcases o1 with _ | k1 <;> rcases o2 with _ | k2
  · skip
    refine r_aload_n X dX10_greatestWay_0 rfl rfl ?_
    refine r_getR X dX10_greatestWay_1 fX10_38 (by assumption) (by assumption) ?_
    refine r_iload_n X dX10_greatestWay_4 rfl rfl ?_
    refine r_aaldN X dX10_greatestWay_5 (by assumption) (by decide) rfl (by omega) (by omega) rw1 ?_
    refine r_astore_n X dX10_greatestWay_6 rfl (by decide) rfl ?_
    refine r_aload_n X dX10_greatestWay_7 rfl rfl ?_
    refine r_getR X dX10_greatestWay_8 fX10_32 (by assumption) (by assumption) ?_
    refine r_getI X dX10_greatestWay_11 fX10_170 (by assumption) (by first | assumption | rfl) ?_
    refine r_istore X dX10_greatestWay_14 (by decide) rfl ?_
    refine r_aload_n X dX10_greatestWay_16 rfl rfl ?_
    refine r_iload X dX10_greatestWay_17 rfl ?_
    refine r_iload_n X dX10_greatestWay_19 rfl rfl ?_
    refine q_callV X dX10_greatestWay_20 mX10_307 cwX6_latest (c_rowLatest GE S I V J N _ a n e s hW he he48 (by omega)) rfl (by assumption) rfl rfl rfl (Nat.le_of_ble_eq_true rfl) ⟨Nat.le_of_ble_eq_true rfl, Nat.le_of_ble_eq_true rfl⟩ ⟨(by first | omega | decide | (simp only [rmL, rmA]; omega)), (by first | omega | decide | (simp only [rmL, rmA]; omega))⟩ ?_
    rintro _ _ ⟨rfl, rfl⟩
    refine r_topi (oI none) (by rw [ho1]) ?_
    refine r_topi (-1) rfl ?_
    refine r_istore X dX10_greatestWay_23 (by decide) rfl ?_
    refine r_aload_n X dX10_greatestWay_25 rfl rfl ?_
    refine r_iload X dX10_greatestWay_26 rfl ?_
    refine r_iload_n X dX10_greatestWay_28 rfl rfl ?_
    refine r_aload_n X dX10_greatestWay_29 rfl rfl ?_
    refine r_getR X dX10_greatestWay_30 fX10_32 (by assumption) (by assumption) ?_
    refine r_getI X dX10_greatestWay_33 fX10_70 (by assumption) (by first | assumption | rfl) ?_
    refine q_callV X dX10_greatestWay_36 mX10_310 cwX6_next (c_rowNext GE S I V J N _ a n e s u hW he he48 (by omega) (by omega)) rfl (by assumption) rfl rfl rfl (Nat.le_of_ble_eq_true rfl) ⟨Nat.le_of_ble_eq_true rfl, Nat.le_of_ble_eq_true rfl⟩ ⟨(by first | omega | decide | (simp only [rmL, rmA]; omega)), (by first | omega | decide | (simp only [rmL, rmA]; omega))⟩ ?_
    rintro _ _ ⟨rfl, rfl⟩
    refine r_topi (oI none) (by rw [ho2]) ?_
    refine r_topi (-1) rfl ?_
    refine r_istore X dX10_greatestWay_39 (by decide) rfl ?_
    refine r_iload X dX10_greatestWay_41 rfl ?_
    refine r_iconst (v := -1) X dX10_greatestWay_43 (by decide) ?_
    refine r_icmp_ne (tgt := 60) X dX10_greatestWay_44 (by decide) (fun h44 => ?_) (fun h44 => ?_)
    · skip
      exact absurd rfl h44
    · skip
      refine r_aload_n X dX10_greatestWay_47 rfl rfl ?_
      refine r_getR X dX10_greatestWay_48 fX10_32 (by assumption) (by assumption) ?_
      refine r_getR X dX10_greatestWay_51 fX10_81 (by assumption) (by assumption) ?_
      refine q_callV X dX10_greatestWay_54 mX10_285 cwX9_whole (c_trWhole GE S I V J N (h + 9 + 1) m rTr hm hm12) rfl (by assumption) rfl rfl rfl (Nat.le_of_ble_eq_true rfl) ⟨Nat.le_of_ble_eq_true rfl, Nat.le_of_ble_eq_true rfl⟩ ⟨(by first | omega | decide | (simp only [rmL, rmA]; omega)), (by first | omega | decide | (simp only [rmL, rmA]; omega))⟩ ?_
      rintro _ _ ⟨rfl, rfl⟩
      refine r_goto (tgt := 67) X dX10_greatestWay_57 (by decide) ?_
      refine r_istore X dX10_greatestWay_67 (by decide) rfl ?_
      refine r_iload X dX10_greatestWay_69 rfl ?_
      refine r_iconst (v := -1) X dX10_greatestWay_71 (by decide) ?_
      refine r_icmp_ne (tgt := 108) X dX10_greatestWay_72 (by decide) (fun h72 => ?_) (fun h72 => ?_)
      · skip
        exact absurd rfl h72
      · skip
        refine r_iconst (v := 0) X dX10_greatestWay_75 (by decide) ?_
        refine r_iload_n X dX10_greatestWay_76 rfl rfl ?_
        refine r_aload_n X dX10_greatestWay_77 rfl rfl ?_
        refine r_getR X dX10_greatestWay_78 fX10_32 (by assumption) (by assumption) ?_
        refine r_getR X dX10_greatestWay_81 fX10_145 (by assumption) (by assumption) ?_
        refine r_iload_n X dX10_greatestWay_84 rfl rfl ?_
        refine r_aaldN X dX10_greatestWay_85 (by assumption) (by decide) rfl (by omega) (by omega) te1 ?_
        refine r_getI X dX10_greatestWay_86 fX10_218 (by assumption) (by first | assumption | rfl) ?_
        refine r_isub X dX10_greatestWay_89 ?_
        refine r_iconst (v := 1) X dX10_greatestWay_90 (by decide) ?_
        refine r_iadd X dX10_greatestWay_91 ?_
        refine r_mmax X dX10_greatestWay_92 mmX10_101 (Nat.le_of_ble_eq_true rfl) (Nat.le_of_ble_eq_true rfl) (by first | omega | decide | (simp only [rmL, rmA]; omega)) (by first | omega | decide | (simp only [rmL, rmA]; omega)) ?_
        refine r_istore X dX10_greatestWay_95 (by decide) rfl ?_
        refine r_iload X dX10_greatestWay_97 rfl ?_
        refine r_bipush (v := 60) X dX10_greatestWay_99 (by decide) ?_
        refine r_iload X dX10_greatestWay_101 rfl ?_
        refine r_imul X dX10_greatestWay_103 ?_
        refine r_mmin X dX10_greatestWay_104 mmX10_317 (Nat.le_of_ble_eq_true rfl) (Nat.le_of_ble_eq_true rfl) (by first | omega | decide | (simp only [rmL, rmA]; omega)) (by first | omega | decide | (simp only [rmL, rmA]; omega)) ?_
        refine r_ireturn X dX10_greatestWay_107 rfl (by first | omega | decide | (simp only [rmL, rmA]; omega)) (by first | omega | decide | (simp only [rmL, rmA]; omega)) ?_
        exact ⟨rfl, rfl⟩
  · skip
    have hk2 := hk2 _ rfl
    refine r_aload_n X dX10_greatestWay_0 rfl rfl ?_
    refine r_getR X dX10_greatestWay_1 fX10_38 (by assumption) (by assumption) ?_
    refine r_iload_n X dX10_greatestWay_4 rfl rfl ?_
    refine r_aaldN X dX10_greatestWay_5 (by assumption) (by decide) rfl (by omega) (by omega) rw1 ?_
    refine r_astore_n X dX10_greatestWay_6 rfl (by decide) rfl ?_
    refine r_aload_n X dX10_greatestWay_7 rfl rfl ?_
    refine r_getR X dX10_greatestWay_8 fX10_32 (by assumption) (by assumption) ?_
    refine r_getI X dX10_greatestWay_11 fX10_170 (by assumption) (by first | assumption | rfl) ?_
    refine r_istore X dX10_greatestWay_14 (by decide) rfl ?_
    refine r_aload_n X dX10_greatestWay_16 rfl rfl ?_
    refine r_iload X dX10_greatestWay_17 rfl ?_
    refine r_iload_n X dX10_greatestWay_19 rfl rfl ?_
    refine q_callV X dX10_greatestWay_20 mX10_307 cwX6_latest (c_rowLatest GE S I V J N _ a n e s hW he he48 (by omega)) rfl (by assumption) rfl rfl rfl (Nat.le_of_ble_eq_true rfl) ⟨Nat.le_of_ble_eq_true rfl, Nat.le_of_ble_eq_true rfl⟩ ⟨(by first | omega | decide | (simp only [rmL, rmA]; omega)), (by first | omega | decide | (simp only [rmL, rmA]; omega))⟩ ?_
    rintro _ _ ⟨rfl, rfl⟩
    refine r_topi (oI none) (by rw [ho1]) ?_
    refine r_topi (-1) rfl ?_
    refine r_istore X dX10_greatestWay_23 (by decide) rfl ?_
    refine r_aload_n X dX10_greatestWay_25 rfl rfl ?_
    refine r_iload X dX10_greatestWay_26 rfl ?_
    refine r_iload_n X dX10_greatestWay_28 rfl rfl ?_
    refine r_aload_n X dX10_greatestWay_29 rfl rfl ?_
    refine r_getR X dX10_greatestWay_30 fX10_32 (by assumption) (by assumption) ?_
    refine r_getI X dX10_greatestWay_33 fX10_70 (by assumption) (by first | assumption | rfl) ?_
    refine q_callV X dX10_greatestWay_36 mX10_310 cwX6_next (c_rowNext GE S I V J N _ a n e s u hW he he48 (by omega) (by omega)) rfl (by assumption) rfl rfl rfl (Nat.le_of_ble_eq_true rfl) ⟨Nat.le_of_ble_eq_true rfl, Nat.le_of_ble_eq_true rfl⟩ ⟨(by first | omega | decide | (simp only [rmL, rmA]; omega)), (by first | omega | decide | (simp only [rmL, rmA]; omega))⟩ ?_
    rintro _ _ ⟨rfl, rfl⟩
    refine r_topi (oI (some k2)) (by rw [ho2]) ?_
    refine r_topi (nI k2) rfl ?_
    refine r_istore X dX10_greatestWay_39 (by decide) rfl ?_
    refine r_iload X dX10_greatestWay_41 rfl ?_
    refine r_iconst (v := -1) X dX10_greatestWay_43 (by decide) ?_
    refine r_icmp_ne (tgt := 60) X dX10_greatestWay_44 (by decide) (fun h44 => ?_) (fun h44 => ?_)
    · skip
      refine r_aload_n X dX10_greatestWay_60 rfl rfl ?_
      refine r_getR X dX10_greatestWay_61 fX10_314 (by assumption) (by assumption) ?_
      refine r_iload X dX10_greatestWay_64 rfl ?_
      refine r_ialdN X dX10_greatestWay_66 (by assumption) (by omega) (by omega) (by first | assumption | rfl) ?_
      refine r_istore X dX10_greatestWay_67 (by decide) rfl ?_
      refine r_iload X dX10_greatestWay_69 rfl ?_
      refine r_iconst (v := -1) X dX10_greatestWay_71 (by decide) ?_
      refine r_icmp_ne (tgt := 108) X dX10_greatestWay_72 (by decide) (fun h72 => ?_) (fun h72 => ?_)
      · skip
        exact absurd rfl h72
      · skip
        refine r_iconst (v := 0) X dX10_greatestWay_75 (by decide) ?_
        refine r_iload_n X dX10_greatestWay_76 rfl rfl ?_
        refine r_aload_n X dX10_greatestWay_77 rfl rfl ?_
        refine r_getR X dX10_greatestWay_78 fX10_32 (by assumption) (by assumption) ?_
        refine r_getR X dX10_greatestWay_81 fX10_145 (by assumption) (by assumption) ?_
        refine r_iload_n X dX10_greatestWay_84 rfl rfl ?_
        refine r_aaldN X dX10_greatestWay_85 (by assumption) (by decide) rfl (by omega) (by omega) te1 ?_
        refine r_getI X dX10_greatestWay_86 fX10_218 (by assumption) (by first | assumption | rfl) ?_
        refine r_isub X dX10_greatestWay_89 ?_
        refine r_iconst (v := 1) X dX10_greatestWay_90 (by decide) ?_
        refine r_iadd X dX10_greatestWay_91 ?_
        refine r_mmax X dX10_greatestWay_92 mmX10_101 (Nat.le_of_ble_eq_true rfl) (Nat.le_of_ble_eq_true rfl) (by first | omega | decide | (simp only [rmL, rmA]; omega)) (by first | omega | decide | (simp only [rmL, rmA]; omega)) ?_
        refine r_istore X dX10_greatestWay_95 (by decide) rfl ?_
        refine r_iload X dX10_greatestWay_97 rfl ?_
        refine r_bipush (v := 60) X dX10_greatestWay_99 (by decide) ?_
        refine r_iload X dX10_greatestWay_101 rfl ?_
        refine r_imul X dX10_greatestWay_103 ?_
        refine r_mmin X dX10_greatestWay_104 mmX10_317 (Nat.le_of_ble_eq_true rfl) (Nat.le_of_ble_eq_true rfl) (by first | omega | decide | (simp only [rmL, rmA]; omega)) (by first | omega | decide | (simp only [rmL, rmA]; omega)) ?_
        refine r_ireturn X dX10_greatestWay_107 rfl (by first | omega | decide | (simp only [rmL, rmA]; omega)) (by first | omega | decide | (simp only [rmL, rmA]; omega)) ?_
        exact ⟨rfl, rfl⟩
    · skip
      exact (nI_m1 (by omega) h44).elim
  · skip
    have hk1 := hk1 _ rfl
    refine r_aload_n X dX10_greatestWay_0 rfl rfl ?_
    refine r_getR X dX10_greatestWay_1 fX10_38 (by assumption) (by assumption) ?_
    refine r_iload_n X dX10_greatestWay_4 rfl rfl ?_
    refine r_aaldN X dX10_greatestWay_5 (by assumption) (by decide) rfl (by omega) (by omega) rw1 ?_
    refine r_astore_n X dX10_greatestWay_6 rfl (by decide) rfl ?_
    refine r_aload_n X dX10_greatestWay_7 rfl rfl ?_
    refine r_getR X dX10_greatestWay_8 fX10_32 (by assumption) (by assumption) ?_
    refine r_getI X dX10_greatestWay_11 fX10_170 (by assumption) (by first | assumption | rfl) ?_
    refine r_istore X dX10_greatestWay_14 (by decide) rfl ?_
    refine r_aload_n X dX10_greatestWay_16 rfl rfl ?_
    refine r_iload X dX10_greatestWay_17 rfl ?_
    refine r_iload_n X dX10_greatestWay_19 rfl rfl ?_
    refine q_callV X dX10_greatestWay_20 mX10_307 cwX6_latest (c_rowLatest GE S I V J N _ a n e s hW he he48 (by omega)) rfl (by assumption) rfl rfl rfl (Nat.le_of_ble_eq_true rfl) ⟨Nat.le_of_ble_eq_true rfl, Nat.le_of_ble_eq_true rfl⟩ ⟨(by first | omega | decide | (simp only [rmL, rmA]; omega)), (by first | omega | decide | (simp only [rmL, rmA]; omega))⟩ ?_
    rintro _ _ ⟨rfl, rfl⟩
    refine r_topi (oI (some k1)) (by rw [ho1]) ?_
    refine r_topi (nI k1) rfl ?_
    refine r_istore X dX10_greatestWay_23 (by decide) rfl ?_
    refine r_aload_n X dX10_greatestWay_25 rfl rfl ?_
    refine r_iload X dX10_greatestWay_26 rfl ?_
    refine r_iload_n X dX10_greatestWay_28 rfl rfl ?_
    refine r_aload_n X dX10_greatestWay_29 rfl rfl ?_
    refine r_getR X dX10_greatestWay_30 fX10_32 (by assumption) (by assumption) ?_
    refine r_getI X dX10_greatestWay_33 fX10_70 (by assumption) (by first | assumption | rfl) ?_
    refine q_callV X dX10_greatestWay_36 mX10_310 cwX6_next (c_rowNext GE S I V J N _ a n e s u hW he he48 (by omega) (by omega)) rfl (by assumption) rfl rfl rfl (Nat.le_of_ble_eq_true rfl) ⟨Nat.le_of_ble_eq_true rfl, Nat.le_of_ble_eq_true rfl⟩ ⟨(by first | omega | decide | (simp only [rmL, rmA]; omega)), (by first | omega | decide | (simp only [rmL, rmA]; omega))⟩ ?_
    rintro _ _ ⟨rfl, rfl⟩
    refine r_topi (oI none) (by rw [ho2]) ?_
    refine r_topi (-1) rfl ?_
    refine r_istore X dX10_greatestWay_39 (by decide) rfl ?_
    refine r_iload X dX10_greatestWay_41 rfl ?_
    refine r_iconst (v := -1) X dX10_greatestWay_43 (by decide) ?_
    refine r_icmp_ne (tgt := 60) X dX10_greatestWay_44 (by decide) (fun h44 => ?_) (fun h44 => ?_)
    · skip
      exact absurd rfl h44
    · skip
      refine r_aload_n X dX10_greatestWay_47 rfl rfl ?_
      refine r_getR X dX10_greatestWay_48 fX10_32 (by assumption) (by assumption) ?_
      refine r_getR X dX10_greatestWay_51 fX10_81 (by assumption) (by assumption) ?_
      refine q_callV X dX10_greatestWay_54 mX10_285 cwX9_whole (c_trWhole GE S I V J N (h + 9 + 1) m rTr hm hm12) rfl (by assumption) rfl rfl rfl (Nat.le_of_ble_eq_true rfl) ⟨Nat.le_of_ble_eq_true rfl, Nat.le_of_ble_eq_true rfl⟩ ⟨(by first | omega | decide | (simp only [rmL, rmA]; omega)), (by first | omega | decide | (simp only [rmL, rmA]; omega))⟩ ?_
      rintro _ _ ⟨rfl, rfl⟩
      refine r_goto (tgt := 67) X dX10_greatestWay_57 (by decide) ?_
      refine r_istore X dX10_greatestWay_67 (by decide) rfl ?_
      refine r_iload X dX10_greatestWay_69 rfl ?_
      refine r_iconst (v := -1) X dX10_greatestWay_71 (by decide) ?_
      refine r_icmp_ne (tgt := 108) X dX10_greatestWay_72 (by decide) (fun h72 => ?_) (fun h72 => ?_)
      · skip
        refine r_iload X dX10_greatestWay_108 rfl ?_
        refine r_aload_n X dX10_greatestWay_110 rfl rfl ?_
        refine r_getR X dX10_greatestWay_111 fX10_314 (by assumption) (by assumption) ?_
        refine r_iload X dX10_greatestWay_114 rfl ?_
        refine r_ialdN X dX10_greatestWay_116 (by assumption) (by omega) (by omega) (by first | assumption | rfl) ?_
        refine r_bipush (v := 60) X dX10_greatestWay_117 (by decide) ?_
        refine r_iload_n X dX10_greatestWay_119 rfl rfl ?_
        refine r_iload X dX10_greatestWay_120 rfl ?_
        refine r_iload X dX10_greatestWay_122 rfl ?_
        refine r_imul X dX10_greatestWay_124 ?_
        refine r_isub X dX10_greatestWay_125 ?_
        refine r_imul X dX10_greatestWay_126 ?_
        refine r_iadd X dX10_greatestWay_127 ?_
        refine r_mmin X dX10_greatestWay_128 mmX10_317 (Nat.le_of_ble_eq_true rfl) (Nat.le_of_ble_eq_true rfl) (by first | omega | decide | (simp only [rmL, rmA]; omega)) (by first | omega | decide | (simp only [rmL, rmA]; omega)) ?_
        refine r_ireturn X dX10_greatestWay_131 rfl (by first | omega | decide | (simp only [rmL, rmA]; omega)) (by first | omega | decide | (simp only [rmL, rmA]; omega)) ?_
        exact ⟨rfl, rfl⟩
      · skip
        exact (nI_m1 (by omega) h72).elim
  · skip
    have hk1 := hk1 _ rfl
    have hk2 := hk2 _ rfl
    refine r_aload_n X dX10_greatestWay_0 rfl rfl ?_
    refine r_getR X dX10_greatestWay_1 fX10_38 (by assumption) (by assumption) ?_
    refine r_iload_n X dX10_greatestWay_4 rfl rfl ?_
    refine r_aaldN X dX10_greatestWay_5 (by assumption) (by decide) rfl (by omega) (by omega) rw1 ?_
    refine r_astore_n X dX10_greatestWay_6 rfl (by decide) rfl ?_
    refine r_aload_n X dX10_greatestWay_7 rfl rfl ?_
    refine r_getR X dX10_greatestWay_8 fX10_32 (by assumption) (by assumption) ?_
    refine r_getI X dX10_greatestWay_11 fX10_170 (by assumption) (by first | assumption | rfl) ?_
    refine r_istore X dX10_greatestWay_14 (by decide) rfl ?_
    refine r_aload_n X dX10_greatestWay_16 rfl rfl ?_
    refine r_iload X dX10_greatestWay_17 rfl ?_
    refine r_iload_n X dX10_greatestWay_19 rfl rfl ?_
    refine q_callV X dX10_greatestWay_20 mX10_307 cwX6_latest (c_rowLatest GE S I V J N _ a n e s hW he he48 (by omega)) rfl (by assumption) rfl rfl rfl (Nat.le_of_ble_eq_true rfl) ⟨Nat.le_of_ble_eq_true rfl, Nat.le_of_ble_eq_true rfl⟩ ⟨(by first | omega | decide | (simp only [rmL, rmA]; omega)), (by first | omega | decide | (simp only [rmL, rmA]; omega))⟩ ?_
    rintro _ _ ⟨rfl, rfl⟩
    refine r_topi (oI (some k1)) (by rw [ho1]) ?_
    refine r_topi (nI k1) rfl ?_
    refine r_istore X dX10_greatestWay_23 (by decide) rfl ?_
    refine r_aload_n X dX10_greatestWay_25 rfl rfl ?_
    refine r_iload X dX10_greatestWay_26 rfl ?_
    refine r_iload_n X dX10_greatestWay_28 rfl rfl ?_
    refine r_aload_n X dX10_greatestWay_29 rfl rfl ?_
    refine r_getR X dX10_greatestWay_30 fX10_32 (by assumption) (by assumption) ?_
    refine r_getI X dX10_greatestWay_33 fX10_70 (by assumption) (by first | assumption | rfl) ?_
    refine q_callV X dX10_greatestWay_36 mX10_310 cwX6_next (c_rowNext GE S I V J N _ a n e s u hW he he48 (by omega) (by omega)) rfl (by assumption) rfl rfl rfl (Nat.le_of_ble_eq_true rfl) ⟨Nat.le_of_ble_eq_true rfl, Nat.le_of_ble_eq_true rfl⟩ ⟨(by first | omega | decide | (simp only [rmL, rmA]; omega)), (by first | omega | decide | (simp only [rmL, rmA]; omega))⟩ ?_
    rintro _ _ ⟨rfl, rfl⟩
    refine r_topi (oI (some k2)) (by rw [ho2]) ?_
    refine r_topi (nI k2) rfl ?_
    refine r_istore X dX10_greatestWay_39 (by decide) rfl ?_
    refine r_iload X dX10_greatestWay_41 rfl ?_
    refine r_iconst (v := -1) X dX10_greatestWay_43 (by decide) ?_
    refine r_icmp_ne (tgt := 60) X dX10_greatestWay_44 (by decide) (fun h44 => ?_) (fun h44 => ?_)
    · skip
      refine r_aload_n X dX10_greatestWay_60 rfl rfl ?_
      refine r_getR X dX10_greatestWay_61 fX10_314 (by assumption) (by assumption) ?_
      refine r_iload X dX10_greatestWay_64 rfl ?_
      refine r_ialdN X dX10_greatestWay_66 (by assumption) (by omega) (by omega) (by first | assumption | rfl) ?_
      refine r_istore X dX10_greatestWay_67 (by decide) rfl ?_
      refine r_iload X dX10_greatestWay_69 rfl ?_
      refine r_iconst (v := -1) X dX10_greatestWay_71 (by decide) ?_
      refine r_icmp_ne (tgt := 108) X dX10_greatestWay_72 (by decide) (fun h72 => ?_) (fun h72 => ?_)
      · skip
        refine r_iload X dX10_greatestWay_108 rfl ?_
        refine r_aload_n X dX10_greatestWay_110 rfl rfl ?_
        refine r_getR X dX10_greatestWay_111 fX10_314 (by assumption) (by assumption) ?_
        refine r_iload X dX10_greatestWay_114 rfl ?_
        refine r_ialdN X dX10_greatestWay_116 (by assumption) (by omega) (by omega) (by first | assumption | rfl) ?_
        refine r_bipush (v := 60) X dX10_greatestWay_117 (by decide) ?_
        refine r_iload_n X dX10_greatestWay_119 rfl rfl ?_
        refine r_iload X dX10_greatestWay_120 rfl ?_
        refine r_iload X dX10_greatestWay_122 rfl ?_
        refine r_imul X dX10_greatestWay_124 ?_
        refine r_isub X dX10_greatestWay_125 ?_
        refine r_imul X dX10_greatestWay_126 ?_
        refine r_iadd X dX10_greatestWay_127 ?_
        refine r_mmin X dX10_greatestWay_128 mmX10_317 (Nat.le_of_ble_eq_true rfl) (Nat.le_of_ble_eq_true rfl) (by first | omega | decide | (simp only [rmL, rmA]; omega)) (by first | omega | decide | (simp only [rmL, rmA]; omega)) ?_
        refine r_ireturn X dX10_greatestWay_131 rfl (by first | omega | decide | (simp only [rmL, rmA]; omega)) (by first | omega | decide | (simp only [rmL, rmA]; omega)) ?_
        exact ⟨rfl, rfl⟩
      · skip
        exact (nI_m1 (by omega) h72).elim
    · skip
      exact (nI_m1 (by omega) h44).elim
