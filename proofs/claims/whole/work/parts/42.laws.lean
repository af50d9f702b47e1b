/-! ===== LawBook's reader ===== -/
def rdNum (I : Mem) (a y i : Nat) : Bool × Mem := if I a 4 = 2 then (true, adv (up2 I y i (I a 6)) a) else (false, tFail I a 1)
set_option maxHeartbeats 2000000 in
set_option maxRecDepth 20000 in
/-- SledHouse$LawBook.readNumber -/
theorem c_rdNum {E : Ev} (GE : Glob E) (S : Nat → Option (Nat × Nat)) (I : Nat → Nat → Int32) (V : Nat → Nat → Option Nat) (J : Nat → Nat → Int64) (N : Nat) (a y i : Nat) (hT : TapeSh S V a) (hK : TkOK I a) (hy : S y = some (100, 10)) (hi : i < 10) (hne : y ≠ a) : Ct E yX2_readNumber cX2_readNumber 3 (some .boolean) (rmL 2) [.ref a, .ref y, .int (nI i)] (S, I, V, J, N) (fun v w' => v = some (.int (bI (rdNum I a y i).1)) ∧ w' = (S, (rdNum I a y i).2, V, J, N)) := by
  refine Ct.start GE (by decide) rfl (Nat.le_of_ble_eq_true rfl) (fun M X => ?_)
  have X : Cx E M RX2 cX2_readNumber 3 (rmL 2) (some .boolean) "readNumber" := X
  refine r_loc (L' := [some (.ref a), some (.ref y), some (.int (nI i))]) rfl ?_
  have ts0 := hT.1
  have hne' : a ≠ y := Ne.symm hne
  have hK1 : TkOK (up2 I y i (I a 6)) a := hK.keep (up2_a hne') (up2_a hne') (up2_a hne')
  refine r_aload_n X dX2_readNumber_0 rfl rfl ?_
  refine r_getI X dX2_readNumber_1 fX2_32 (by assumption) (by first | assumption | rfl) ?_
  refine r_iconst (v := 2) X dX2_readNumber_4 (by decide) ?_
  refine r_icmp_eq (tgt := 14) X dX2_readNumber_5 (by decide) (fun h5 => ?_) (fun h5 => ?_)
  · skip
    refine r_aload_n X dX2_readNumber_14 rfl rfl ?_
    refine r_iload_n X dX2_readNumber_15 rfl rfl ?_
    refine r_aload_n X dX2_readNumber_16 rfl rfl ?_
    refine r_getI X dX2_readNumber_17 fX2_79 (by assumption) (by first | assumption | rfl) ?_
    refine r_iastN X dX2_readNumber_20 (by assumption) (by omega) (by omega) ?_
    refine r_aload_n X dX2_readNumber_21 rfl rfl ?_
    refine q_callV X dX2_readNumber_22 mX2_55 cwX7_advance (c_advK GE S _ V J N a hT hK1) rfl (by assumption) rfl rfl rfl (Nat.le_of_ble_eq_true rfl) ⟨Nat.le_of_ble_eq_true rfl, Nat.le_of_ble_eq_true rfl⟩ ⟨(by first | omega | decide | (simp only [rmL, rmA]; omega)), (by first | omega | decide | (simp only [rmL, rmA]; omega))⟩ ?_
    rintro _ _ ⟨rfl, rfl⟩
    refine r_iconst (v := 1) X dX2_readNumber_25 (by decide) ?_
    refine r_ireturn X dX2_readNumber_26 rfl (by first | omega | decide | (simp only [rmL, rmA]; omega)) (by first | omega | decide | (simp only [rmL, rmA]; omega)) ?_
    rw [rdNum, if_pos h5]
    exact ⟨rfl, rfl⟩
  · skip
    refine r_aload_n X dX2_readNumber_8 rfl rfl ?_
    refine r_iconst (v := 1) X dX2_readNumber_9 (by decide) ?_
    refine q_callV X dX2_readNumber_10 mX2_41 cwX7_fail (c_tFail GE S I V J N a _ hT) rfl (by assumption) rfl rfl rfl (Nat.le_of_ble_eq_true rfl) ⟨Nat.le_of_ble_eq_true rfl, Nat.le_of_ble_eq_true rfl⟩ ⟨(by first | omega | decide | (simp only [rmL, rmA]; omega)), (by first | omega | decide | (simp only [rmL, rmA]; omega))⟩ ?_
    rintro _ _ ⟨rfl, rfl⟩
    refine r_ireturn X dX2_readNumber_13 rfl (by first | omega | decide | (simp only [rmL, rmA]; omega)) (by first | omega | decide | (simp only [rmL, rmA]; omega)) ?_
    rw [rdNum, if_neg h5]
    exact ⟨rfl, rfl⟩
theorem ok_num {I : Mem} {a y i : Nat} (h : (rdNum I a y i).1 = true) (hK : TkOK I a) (hne : y ≠ a) : TkOK (rdNum I a y i).2 a := by
  unfold rdNum at h ⊢
  split at h
  · next q =>
    rw [if_pos q]
    exact (hK.keep (up2_a (Ne.symm hne)) (up2_a (Ne.symm hne)) (up2_a (Ne.symm hne))).adv
  · cases h
def take (I : Mem) (a : Nat) (bs : List Int32) : Mem := if isW I a bs = true then adv I a else tFail I a 1
theorem c_take {E : Ev} (GE : Glob E) (S : Nat → Option (Nat × Nat)) (I : Nat → Nat → Int32) (V : Nat → Nat → Option Nat) (J : Nat → Nat → Int64) (N : Nat) (a u : Nat) (bs : List Int32) (hZ : Strs E) (hT : TapeSh S V a) (hK : TkOK I a) (hu : StrAt E u bs) :
    Ct E yX7_takeThis cX7_takeThis 2 (some .boolean) (rmL 5) [.ref a, .ref u] (S, I, V, J, N) (fun v w' => v = some (.int (bI (isW I a bs))) ∧ w' = (S, take I a bs, V, J, N)) :=
  c_tThis GE S I V J N a _ _ _ u bs hZ.1 hT hK hu
/-- a word, then a number -/
def rdTail (I : Mem) (a y i : Nat) (bs : List Int32) : Bool × Mem := if isW I a bs = true then rdNum (adv I a) a y i else (false, tFail I a 1)
def rdSecond (I : Mem) (a b i : Nat) : Bool × Mem := rdTail (up2 I (b + 1) i 3) a (b + 3) i kw_for
set_option maxHeartbeats 2000000 in
set_option maxRecDepth 20000 in
/-- SledHouse$LawBook.readSecondFine -/
theorem c_rdSecond {E : Ev} (GE : Glob E) (S : Nat → Option (Nat × Nat)) (I : Nat → Nat → Int32) (V : Nat → Nat → Option Nat) (J : Nat → Nat → Int64) (N : Nat) (b a i : Nat) (hZ : Strs E) (hL : LawSh S V b) (hT : TapeSh S V a) (hK : TkOK I a) (hi : i < 10) (hab : a + 1 < b) : Ct E yX2_readSecondFine cX2_readSecondFine 3 (some .boolean) (rmL 6) [.ref b, .ref a, .int (nI i)] (S, I, V, J, N) (fun v w' => v = some (.int (bI (rdSecond I a b i).1)) ∧ w' = (S, (rdSecond I a b i).2, V, J, N)) := by
  refine Ct.start GE (by decide) rfl (Nat.le_of_ble_eq_true rfl) (fun M X => ?_)
  have X : Cx E M RX2 cX2_readSecondFine 3 (rmL 6) (some .boolean) "readSecondFine" := X
  refine r_loc (L' := [some (.ref b), some (.ref a), some (.int (nI i))]) rfl ?_
  obtain ⟨hs0, hv0, hv1, hv2, hv3, hs1, hs2, hs3, hs4⟩ := id hL
  have ts0 := hT.1
  have hK1 : TkOK (up2 I (b + 1) i 3) a := hK.keep (up2_a (by omega)) (up2_a (by omega)) (up2_a (by omega))
  rw [rdSecond, rdTail]
  refine r_aload_n X dX2_readSecondFine_0 rfl rfl ?_
  refine r_getR X dX2_readSecondFine_1 fX2_9 (by assumption) (by assumption) ?_
  refine r_iload_n X dX2_readSecondFine_4 rfl rfl ?_
  refine r_iconst (v := 3) X dX2_readSecondFine_5 (by decide) ?_
  refine r_iastN X dX2_readSecondFine_6 (by assumption) (by omega) (by omega) ?_
  refine r_aload_n X dX2_readSecondFine_7 rfl rfl ?_
  refine r_ldcS X dX2_readSecondFine_8 (sX2_77 hZ) (fun u8 hu8 => ?_)
  refine q_callV X dX2_readSecondFine_10 mX2_72 cwX7_takeThis (c_take GE S _ V J N a _ kw_for hZ hT hK1 (by assumption)) rfl (by assumption) rfl rfl rfl (Nat.le_of_ble_eq_true rfl) ⟨Nat.le_of_ble_eq_true rfl, Nat.le_of_ble_eq_true rfl⟩ ⟨(by first | omega | decide | (simp only [rmL, rmA]; omega)), (by first | omega | decide | (simp only [rmL, rmA]; omega))⟩ ?_
  rintro _ _ ⟨rfl, rfl⟩
  refine r_if_eq (tgt := 32) X dX2_readSecondFine_13 (by decide) (fun h13 => ?_) (fun h13 => ?_)
  · skip
    have g := bI_0 h13
    rw [if_neg (by rw [g]; decide)]
    refine r_world (w' := (S, tFail (up2 I (b + 1) i 3) a 1, V, J, N)) (by rw [take, if_neg (by rw [g]; decide)]) ?_
    refine r_iconst (v := 0) X dX2_readSecondFine_32 (by decide) ?_
    refine r_ireturn X dX2_readSecondFine_33 rfl (by first | omega | decide | (simp only [rmL, rmA]; omega)) (by first | omega | decide | (simp only [rmL, rmA]; omega)) ?_
    first
      | (have g2 := bI_1 h25
         rw [g2]; exact ⟨rfl, rfl⟩)
      | (have g2 := bI_0 h25
         rw [g2]; exact ⟨rfl, rfl⟩)
      | exact ⟨rfl, rfl⟩
  · skip
    have g := bI_1 h13
    rw [if_pos g]
    refine r_world (w' := (S, adv (up2 I (b + 1) i 3) a, V, J, N)) (by rw [take, if_pos g]) ?_
    refine r_aload_n X dX2_readSecondFine_16 rfl rfl ?_
    refine r_aload_n X dX2_readSecondFine_17 rfl rfl ?_
    refine r_getR X dX2_readSecondFine_18 fX2_18 (by assumption) (by assumption) ?_
    refine r_iload_n X dX2_readSecondFine_21 rfl rfl ?_
    refine q_callS X dX2_readSecondFine_22 mX2_58 cwX2_readNumber (c_rdNum GE S _ V J N a (b + 3) i hT hK1.adv hs3 hi (by omega)) rfl rfl (Nat.le_of_ble_eq_true rfl) ⟨Nat.le_of_ble_eq_true rfl, Nat.le_of_ble_eq_true rfl⟩ ⟨(by first | omega | decide | (simp only [rmL, rmA]; omega)), (by first | omega | decide | (simp only [rmL, rmA]; omega))⟩ ?_
    rintro _ _ ⟨rfl, rfl⟩
    refine r_if_eq (tgt := 32) X dX2_readSecondFine_25 (by decide) (fun h25 => ?_) (fun h25 => ?_)
    · skip
      refine r_iconst (v := 0) X dX2_readSecondFine_32 (by decide) ?_
      refine r_ireturn X dX2_readSecondFine_33 rfl (by first | omega | decide | (simp only [rmL, rmA]; omega)) (by first | omega | decide | (simp only [rmL, rmA]; omega)) ?_
      first
        | (have g2 := bI_1 h25
           rw [g2]; exact ⟨rfl, rfl⟩)
        | (have g2 := bI_0 h25
           rw [g2]; exact ⟨rfl, rfl⟩)
        | exact ⟨rfl, rfl⟩
    · skip
      refine r_iconst (v := 1) X dX2_readSecondFine_28 (by decide) ?_
      refine r_goto (tgt := 33) X dX2_readSecondFine_29 (by decide) ?_
      refine r_ireturn X dX2_readSecondFine_33 rfl (by first | omega | decide | (simp only [rmL, rmA]; omega)) (by first | omega | decide | (simp only [rmL, rmA]; omega)) ?_
      first
        | (have g2 := bI_1 h25
           rw [g2]; exact ⟨rfl, rfl⟩)
        | (have g2 := bI_0 h25
           rw [g2]; exact ⟨rfl, rfl⟩)
        | exact ⟨rfl, rfl⟩
def rdPosts (I : Mem) (a b i : Nat) : Bool × Mem :=
  if isW I a kw_from = true then
    (if (rdNum (adv (up2 I (b + 1) i 1) a) a (b + 3) i).1 = true then rdTail (rdNum (adv (up2 I (b + 1) i 1) a) a (b + 3) i).2 a (b + 4) i kw_to else (false, (rdNum (adv (up2 I (b + 1) i 1) a) a (b + 3) i).2))
  else rdTail (up2 I (b + 1) i 0) a (b + 3) i kw_at
set_option maxHeartbeats 2000000 in
set_option maxRecDepth 20000 in
/-- SledHouse$LawBook.readPosts -/
theorem c_rdPosts {E : Ev} (GE : Glob E) (S : Nat → Option (Nat × Nat)) (I : Nat → Nat → Int32) (V : Nat → Nat → Option Nat) (J : Nat → Nat → Int64) (N : Nat) (b a i : Nat) (hZ : Strs E) (hL : LawSh S V b) (hT : TapeSh S V a) (hK : TkOK I a) (hi : i < 10) (hab : a + 1 < b) : Ct E yX2_readPosts cX2_readPosts 3 (some .boolean) (rmL 6) [.ref b, .ref a, .int (nI i)] (S, I, V, J, N) (fun v w' => v = some (.int (bI (rdPosts I a b i).1)) ∧ w' = (S, (rdPosts I a b i).2, V, J, N)) := by
  refine Ct.start GE (by decide) rfl (Nat.le_of_ble_eq_true rfl) (fun M X => ?_)
  have X : Cx E M RX2 cX2_readPosts 3 (rmL 6) (some .boolean) "readPosts" := X
  refine r_loc (L' := [some (.ref b), some (.ref a), some (.int (nI i))]) rfl ?_
  obtain ⟨hs0, hv0, hv1, hv2, hv3, hs1, hs2, hs3, hs4⟩ := id hL
  have ts0 := hT.1
  have hK1 : ∀ y, TkOK (up2 I (b + 1) i y) a := fun y => hK.keep (up2_a (by omega)) (up2_a (by omega)) (up2_a (by omega))
  rw [rdPosts]
  refine r_aload_n X dX2_readPosts_0 rfl rfl ?_
  refine r_ldcS X dX2_readPosts_1 (sX2_68 hZ) (fun u1 hu1 => ?_)
  refine q_callV X dX2_readPosts_3 mX2_47 cwX7_isWord (c_isW GE S _ V J N a _ kw_from hZ hT hK (by assumption)) rfl (by assumption) rfl rfl rfl (Nat.le_of_ble_eq_true rfl) ⟨Nat.le_of_ble_eq_true rfl, Nat.le_of_ble_eq_true rfl⟩ ⟨(by first | omega | decide | (simp only [rmL, rmA]; omega)), (by first | omega | decide | (simp only [rmL, rmA]; omega))⟩ ?_
  rintro _ _ ⟨rfl, rfl⟩
  refine r_if_eq (tgt := 59) X dX2_readPosts_6 (by decide) (fun h6 => ?_) (fun h6 => ?_)
  · skip
    rw [if_neg (by rw [bI_0 h6]; decide), rdTail]
    refine r_aload_n X dX2_readPosts_59 rfl rfl ?_
    refine r_getR X dX2_readPosts_60 fX2_9 (by assumption) (by assumption) ?_
    refine r_iload_n X dX2_readPosts_63 rfl rfl ?_
    refine r_iconst (v := 0) X dX2_readPosts_64 (by decide) ?_
    refine r_iastN X dX2_readPosts_65 (by assumption) (by omega) (by omega) ?_
    refine r_aload_n X dX2_readPosts_66 rfl rfl ?_
    refine r_ldcS X dX2_readPosts_67 (sX2_75 hZ) (fun u67 hu67 => ?_)
    refine q_callV X dX2_readPosts_69 mX2_72 cwX7_takeThis (c_take GE S _ V J N a _ kw_at hZ hT (hK1 _) (by assumption)) rfl (by assumption) rfl rfl rfl (Nat.le_of_ble_eq_true rfl) ⟨Nat.le_of_ble_eq_true rfl, Nat.le_of_ble_eq_true rfl⟩ ⟨(by first | omega | decide | (simp only [rmL, rmA]; omega)), (by first | omega | decide | (simp only [rmL, rmA]; omega))⟩ ?_
    rintro _ _ ⟨rfl, rfl⟩
    refine r_if_eq (tgt := 91) X dX2_readPosts_72 (by decide) (fun h72 => ?_) (fun h72 => ?_)
    · skip
      have g := bI_0 h72
      rw [if_neg (by rw [g]; decide)]
      refine r_world (w' := (S, tFail (up2 I (b + 1) i 0) a 1, V, J, N)) (by rw [take, if_neg (by rw [g]; decide)]) ?_
      refine r_iconst (v := 0) X dX2_readPosts_91 (by decide) ?_
      refine r_ireturn X dX2_readPosts_92 rfl (by first | omega | decide | (simp only [rmL, rmA]; omega)) (by first | omega | decide | (simp only [rmL, rmA]; omega)) ?_
      first
        | (have g2 := bI_1 h84
           rw [g2]; exact ⟨rfl, rfl⟩)
        | (have g2 := bI_0 h84
           rw [g2]; exact ⟨rfl, rfl⟩)
        | exact ⟨rfl, rfl⟩
    · skip
      have g := bI_1 h72
      rw [if_pos g]
      refine r_world (w' := (S, adv (up2 I (b + 1) i 0) a, V, J, N)) (by rw [take, if_pos g]) ?_
      refine r_aload_n X dX2_readPosts_75 rfl rfl ?_
      refine r_aload_n X dX2_readPosts_76 rfl rfl ?_
      refine r_getR X dX2_readPosts_77 fX2_18 (by assumption) (by assumption) ?_
      refine r_iload_n X dX2_readPosts_80 rfl rfl ?_
      refine q_callS X dX2_readPosts_81 mX2_58 cwX2_readNumber (c_rdNum GE S _ V J N a (b + 3) i hT (hK1 _).adv hs3 hi (by omega)) rfl rfl (Nat.le_of_ble_eq_true rfl) ⟨Nat.le_of_ble_eq_true rfl, Nat.le_of_ble_eq_true rfl⟩ ⟨(by first | omega | decide | (simp only [rmL, rmA]; omega)), (by first | omega | decide | (simp only [rmL, rmA]; omega))⟩ ?_
      rintro _ _ ⟨rfl, rfl⟩
      refine r_if_eq (tgt := 91) X dX2_readPosts_84 (by decide) (fun h84 => ?_) (fun h84 => ?_)
      · skip
        refine r_iconst (v := 0) X dX2_readPosts_91 (by decide) ?_
        refine r_ireturn X dX2_readPosts_92 rfl (by first | omega | decide | (simp only [rmL, rmA]; omega)) (by first | omega | decide | (simp only [rmL, rmA]; omega)) ?_
        first
          | (have g2 := bI_1 h84
             rw [g2]; exact ⟨rfl, rfl⟩)
          | (have g2 := bI_0 h84
             rw [g2]; exact ⟨rfl, rfl⟩)
          | exact ⟨rfl, rfl⟩
      · skip
        refine r_iconst (v := 1) X dX2_readPosts_87 (by decide) ?_
        refine r_goto (tgt := 92) X dX2_readPosts_88 (by decide) ?_
        refine r_ireturn X dX2_readPosts_92 rfl (by first | omega | decide | (simp only [rmL, rmA]; omega)) (by first | omega | decide | (simp only [rmL, rmA]; omega)) ?_
        first
          | (have g2 := bI_1 h84
             rw [g2]; exact ⟨rfl, rfl⟩)
          | (have g2 := bI_0 h84
             rw [g2]; exact ⟨rfl, rfl⟩)
          | exact ⟨rfl, rfl⟩
  · skip
    rw [if_pos (bI_1 h6)]
    refine r_aload_n X dX2_readPosts_9 rfl rfl ?_
    refine r_getR X dX2_readPosts_10 fX2_9 (by assumption) (by assumption) ?_
    refine r_iload_n X dX2_readPosts_13 rfl rfl ?_
    refine r_iconst (v := 1) X dX2_readPosts_14 (by decide) ?_
    refine r_iastN X dX2_readPosts_15 (by assumption) (by omega) (by omega) ?_
    refine r_aload_n X dX2_readPosts_16 rfl rfl ?_
    refine q_callV X dX2_readPosts_17 mX2_55 cwX7_advance (c_advK GE S _ V J N a hT (hK1 _)) rfl (by assumption) rfl rfl rfl (Nat.le_of_ble_eq_true rfl) ⟨Nat.le_of_ble_eq_true rfl, Nat.le_of_ble_eq_true rfl⟩ ⟨(by first | omega | decide | (simp only [rmL, rmA]; omega)), (by first | omega | decide | (simp only [rmL, rmA]; omega))⟩ ?_
    rintro _ _ ⟨rfl, rfl⟩
    refine r_aload_n X dX2_readPosts_20 rfl rfl ?_
    refine r_aload_n X dX2_readPosts_21 rfl rfl ?_
    refine r_getR X dX2_readPosts_22 fX2_18 (by assumption) (by assumption) ?_
    refine r_iload_n X dX2_readPosts_25 rfl rfl ?_
    refine q_callS X dX2_readPosts_26 mX2_58 cwX2_readNumber (c_rdNum GE S _ V J N a (b + 3) i hT (hK1 _).adv hs3 hi (by omega)) rfl rfl (Nat.le_of_ble_eq_true rfl) ⟨Nat.le_of_ble_eq_true rfl, Nat.le_of_ble_eq_true rfl⟩ ⟨(by first | omega | decide | (simp only [rmL, rmA]; omega)), (by first | omega | decide | (simp only [rmL, rmA]; omega))⟩ ?_
    rintro _ _ ⟨rfl, rfl⟩
    refine r_if_eq (tgt := 57) X dX2_readPosts_29 (by decide) (fun h29 => ?_) (fun h29 => ?_)
    · skip
      have g3 := bI_0 h29
      rw [if_neg (by rw [g3]; decide)]
      refine r_iconst (v := 0) X dX2_readPosts_57 (by decide) ?_
      refine r_ireturn X dX2_readPosts_58 rfl (by first | omega | decide | (simp only [rmL, rmA]; omega)) (by first | omega | decide | (simp only [rmL, rmA]; omega)) ?_
      first
        | (have g2 := bI_1 h50
           rw [g2]; exact ⟨rfl, rfl⟩)
        | (have g2 := bI_0 h50
           rw [g2]; exact ⟨rfl, rfl⟩)
        | exact ⟨rfl, rfl⟩
    · skip
      have g3 := bI_1 h29
      have hK3 := ok_num g3 (hK1 _).adv (by omega)
      rw [if_pos g3, rdTail]
      refine r_aload_n X dX2_readPosts_32 rfl rfl ?_
      refine r_ldcS X dX2_readPosts_33 (sX2_70 hZ) (fun u33 hu33 => ?_)
      refine q_callV X dX2_readPosts_35 mX2_72 cwX7_takeThis (c_take GE S _ V J N a _ kw_to hZ hT hK3 (by assumption)) rfl (by assumption) rfl rfl rfl (Nat.le_of_ble_eq_true rfl) ⟨Nat.le_of_ble_eq_true rfl, Nat.le_of_ble_eq_true rfl⟩ ⟨(by first | omega | decide | (simp only [rmL, rmA]; omega)), (by first | omega | decide | (simp only [rmL, rmA]; omega))⟩ ?_
      rintro _ _ ⟨rfl, rfl⟩
      refine r_if_eq (tgt := 57) X dX2_readPosts_38 (by decide) (fun h38 => ?_) (fun h38 => ?_)
      · skip
        have g := bI_0 h38
        rw [if_neg (by rw [g]; decide)]
        refine r_world (w' := (S, tFail (rdNum (adv (up2 I (b + 1) i 1) a) a (b + 3) i).2 a 1, V, J, N)) (by rw [take, if_neg (by rw [g]; decide)]) ?_
        refine r_iconst (v := 0) X dX2_readPosts_57 (by decide) ?_
        refine r_ireturn X dX2_readPosts_58 rfl (by first | omega | decide | (simp only [rmL, rmA]; omega)) (by first | omega | decide | (simp only [rmL, rmA]; omega)) ?_
        first
          | (have g2 := bI_1 h50
             rw [g2]; exact ⟨rfl, rfl⟩)
          | (have g2 := bI_0 h50
             rw [g2]; exact ⟨rfl, rfl⟩)
          | exact ⟨rfl, rfl⟩
      · skip
        have g := bI_1 h38
        rw [if_pos g]
        refine r_world (w' := (S, adv (rdNum (adv (up2 I (b + 1) i 1) a) a (b + 3) i).2 a, V, J, N)) (by rw [take, if_pos g]) ?_
        refine r_aload_n X dX2_readPosts_41 rfl rfl ?_
        refine r_aload_n X dX2_readPosts_42 rfl rfl ?_
        refine r_getR X dX2_readPosts_43 fX2_21 (by assumption) (by assumption) ?_
        refine r_iload_n X dX2_readPosts_46 rfl rfl ?_
        refine q_callS X dX2_readPosts_47 mX2_58 cwX2_readNumber (c_rdNum GE S _ V J N a (b + 4) i hT hK3.adv hs4 hi (by omega)) rfl rfl (Nat.le_of_ble_eq_true rfl) ⟨Nat.le_of_ble_eq_true rfl, Nat.le_of_ble_eq_true rfl⟩ ⟨(by first | omega | decide | (simp only [rmL, rmA]; omega)), (by first | omega | decide | (simp only [rmL, rmA]; omega))⟩ ?_
        rintro _ _ ⟨rfl, rfl⟩
        refine r_if_eq (tgt := 57) X dX2_readPosts_50 (by decide) (fun h50 => ?_) (fun h50 => ?_)
        · skip
          refine r_iconst (v := 0) X dX2_readPosts_57 (by decide) ?_
          refine r_ireturn X dX2_readPosts_58 rfl (by first | omega | decide | (simp only [rmL, rmA]; omega)) (by first | omega | decide | (simp only [rmL, rmA]; omega)) ?_
          first
            | (have g2 := bI_1 h50
               rw [g2]; exact ⟨rfl, rfl⟩)
            | (have g2 := bI_0 h50
               rw [g2]; exact ⟨rfl, rfl⟩)
            | exact ⟨rfl, rfl⟩
        · skip
          refine r_iconst (v := 1) X dX2_readPosts_53 (by decide) ?_
          refine r_goto (tgt := 58) X dX2_readPosts_54 (by decide) ?_
          refine r_ireturn X dX2_readPosts_58 rfl (by first | omega | decide | (simp only [rmL, rmA]; omega)) (by first | omega | decide | (simp only [rmL, rmA]; omega)) ?_
          first
            | (have g2 := bI_1 h50
               rw [g2]; exact ⟨rfl, rfl⟩)
            | (have g2 := bI_0 h50
               rw [g2]; exact ⟨rfl, rfl⟩)
            | exact ⟨rfl, rfl⟩
